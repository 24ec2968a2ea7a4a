/-! RINGS cleared -/
def lsF (d g : Nat → Int32) (len : Nat) : Nat → Int32
  | 0 => d (tcl (g (len - 1)) * 6 + tcl (g 0))
  | i + 1 => mn (lsF d g len i) (d (tcl (g i) * 6 + tcl (g (i + 1))))
def nxF (g : Nat → Int32) (len i : Nat) : Int32 := if i + 1 < len then g (i + 1) else g 0
def rdS (g : Nat → Int32) (L : Int32) (len i : Nat) (c : CT) : CT := put c 48 (tcl (g i) * 6 + tcl (nxF g len i)) (c 48 (tcl (g i) * 6 + tcl (nxF g len i)) - L)
def bitsF (g : Nat → Int32) : Nat → Int32
  | 0 => 0
  | i + 1 => bitsF g i ||| (1 <<< (g i &&& 31))
def crdF (len : Nat) (c : CT) : CT :=
  put (put (put (forR (rdS (c 50) (lsF (c 48) (c 50) len (len - 1)) len) 0 len c) 46 8 (c 46 8 + lsF (c 48) (c 50) len (len - 1) * nI len)) 51 (tcl (c 46 7)) (bitsF (c 50) len)) 46 7 (c 46 7 + 1)
def crR (nv : Nat) : Nat → CT → CT
  | 0, c => c
  | k + 1, c => if (frF (c 48) nv (nv - 1) 2 (c 50)).1 = 0 then st1 c 50 (frF (c 48) nv (nv - 1) 2 (c 50)).2 else crR nv k (crdF (frF (c 48) nv (nv - 1) 2 (c 50)).1 (st1 c 50 (frF (c 48) nv (nv - 1) 2 (c 50)).2))
def clearF (c : CT) : CT := crR (tcl (c 7 2)) 8 (put (put (st1 c 48 (c 47)) 46 7 0) 46 8 0)
theorem clN_ok {d : Nat → Int32} {nv len : Nat} (hv : nv ≤ 6) {P : (Nat → Int32) → Bool × (Nat → Int32)} {dep la : Nat} (hd : dep < len)
    (hP : ∀ g, (∀ i, i < dep + 1 → vp_in (g i) nv) → (P g).1 = true → ∀ i, i < len → vp_in ((P g).2 i) nv) (hp : ∀ g i, i < dep + 1 → (P g).2 i = g i) :
    ∀ m x g, x + m = nv → (∀ i, i < dep → vp_in (g i) nv) → (clN d P dep la m x g).1 = true → ∀ i, i < len → vp_in ((clN d P dep la m x g).2 i) nv := by
  intro m
  induction m with
  | zero => intro x g _ _ h; exact absurd h (by rw [clN]; exact Bool.false_ne_true)
  | succ m ih =>
    intro x g hx hg
    have hu : ∀ i, i < dep + 1 → vp_in (upd g dep (nI x) i) nv := by
      intro i hi
      by_cases e : i = dep
      · rw [e, pk_us]; exact vp_in_nI (by omega) (by omega)
      · rw [pk_un e]; exact hg i (by omega)
    have hu2 : ∀ i, i < dep → vp_in ((P (upd g dep (nI x))).2 i) nv := fun i hi => by rw [hp _ i (by omega)]; exact hu i (by omega)
    rw [clN]
    split
    · split
      · exact ih _ _ (by omega) hg
      · split
        · next h => intro _; exact hP _ hu h
        · exact ih _ _ (by omega) hu2
    · exact ih _ _ (by omega) hg
theorem clS_ok {d : Nat → Int32} {nv len : Nat} (hv : nv ≤ 6) : ∀ k g, k < len → (∀ i, i < len - k → vp_in (g i) nv) → (clS d nv len k g).1 = true → ∀ i, i < len → vp_in ((clS d nv len k g).2 i) nv := by
  intro k
  induction k with
  | zero => intro g _ hg _ i hi; exact hg i (by omega)
  | succ k ih =>
    intro g hk hg
    rw [clS]
    have hz := vp_tcl (hg 0 (by omega))
    refine clN_ok hv (by omega) (fun g' h1 h2 => ih g' (by omega) (fun i hi => h1 i (by omega)) h2) (fun g' i hi => clS_pre k g' i (by omega)) _ _ g (by omega) hg
theorem frL_ok {d : Nat → Int32} {nv len : Nat} (hv : nv ≤ 6) (h1 : 1 ≤ len) : ∀ m a g, a + m = nv → (frL d nv len m a g).1 = true → ∀ i, i < len → vp_in ((frL d nv len m a g).2 i) nv := by
  intro m
  induction m with
  | zero => intro a g _ h; exact absurd h (by rw [frL]; exact Bool.false_ne_true)
  | succ m ih =>
    intro a g ha
    rw [frL]
    split
    · next h => exact fun _ => clS_ok hv (len - 1) _ (by omega) (fun i hi => by rw [show i = 0 by omega, pk_us]; exact vp_in_nI (by omega) (by omega)) h
    · exact ih _ _ (by omega)
theorem frF_ok {d : Nat → Int32} {nv : Nat} (hv : nv ≤ 6) : ∀ m l g, 1 ≤ l → ((frF d nv m l g).1 = 0 ∨ (l ≤ (frF d nv m l g).1 ∧ (frF d nv m l g).1 < l + m ∧ ∀ i, i < (frF d nv m l g).1 → vp_in ((frF d nv m l g).2 i) nv)) := by
  intro m
  induction m with
  | zero => intro l g _; exact Or.inl rfl
  | succ m ih =>
    intro l g hl
    rw [frF]
    split
    · next h => exact Or.inr ⟨Nat.le_refl _, by dsimp only; omega, frL_ok hv hl _ _ _ (by omega) h⟩
    · rcases ih (l + 1) (frL d nv l nv 0 g).2 (by omega) with e | ⟨h1, h2, h3⟩
      · exact Or.inl e
      · exact Or.inr ⟨by omega, by omega, h3⟩

theorem c_clearRound (G : GX) {b : Nat} {c : CT} {co : Nat → Nat → Option Nat} {r : Nat → Option AE} {n : Nat} {nv nc nf nl wk : Nat} {len : Nat} (hI : IX c nv nc nf nl wk) (hl2 : 2 ≤ len) (hln : len ≤ nv) (hg : ∀ i, i < len → vp_in (c 50 i) nv) (hrc : vp_in (c 46 7) 8) : MA G 1 yX0_clearRound cX0_clearRound 6 none 0 0 [.ref (b + 46), .int (nI len)] (HC b c co r n) (qV fun h1 => h1 = HC b (crdF len c) co r n) := by
  refine MA.of (own := RX0) false [some (.ref (b + 46)), some (.int (nI len)), none, none, none, none] (by decide +kernel) rfl (fun h => by cases h) (Nat.le_of_ble_eq_true rfl) rfl (fun X => ?_)
  have hv6 := hI.2.1
  obtain ⟨T, hTe⟩ : ∃ T, T = crdF len c := ⟨_, rfl⟩
  rw [← hTe]
  rw [crdF] at hTe
  obtain ⟨L, hLe⟩ : ∃ L, L = lsF (c 48) (c 50) len (len - 1) := ⟨_, rfl⟩
  rw [← hLe] at hTe
  have loop2 : ∀ (k i : Nat) (d : CT), i + k = len → (∀ l, l ≠ 48 → d l = c l) → (put (put (put (forR (rdS (c 50) L len) i k d) 46 8 (c 46 8 + L * nI len)) 51 (tcl (c 46 7)) (bitsF (c 50) len)) 46 7 (c 46 7 + 1) = T) → WA X G RX0 cX0_clearRound false none (qV fun h1 => h1 = HC b T co r n) 1 0 0 (HC b d co r n) 0 0 68 [some (.ref (b + 46)), some (.int (nI len)), some (.int L), some (.int (bitsF (c 50) i)), some (.int (nI i)), none] [] := by
    intro k
    induction k with
    | zero =>
      intro i d hk hs hT
      refine A_iload dX0_clearRound_68 rfl ?_
      refine A_iload_n dX0_clearRound_70 rfl rfl ?_
      refine A_icmp_ge 141 dX0_clearRound_71 (by decide) (fun c71 => ?_) (fun c71 => ?_)
      · refine A_aload_n dX0_clearRound_141 rfl rfl ?_
        refine A_dup dX0_clearRound_142 rfl ?_
        refine A_get dX0_clearRound_143 f_X0_77 (HC_at (by decide)) rfl ?_
        rw [hs 46 (by decide)]
        refine A_iload_n dX0_clearRound_146 rfl rfl ?_
        refine A_iload_n dX0_clearRound_147 rfl rfl ?_
        refine A_imul dX0_clearRound_148 ?_
        refine A_iadd dX0_clearRound_149 ?_
        refine A_putC dX0_clearRound_150 p_X0_77 (by decide) rfl (Nat.le_of_ble_eq_true rfl) rfl ?_
        refine A_aload_n dX0_clearRound_153 rfl rfl ?_
        refine A_get dX0_clearRound_154 f_X0_24 (HC_at (by decide)) rfl ?_
        refine A_aload_n dX0_clearRound_157 rfl rfl ?_
        refine A_get dX0_clearRound_158 f_X0_74 (HC_at (by decide)) rfl ?_
        rw [put_no (by decide), hs 46 (by decide)]
        refine A_iload_n dX0_clearRound_161 rfl rfl ?_
        refine A_iastC dX0_clearRound_162 (by decide) (fun _ => rfl) hrc ?_
        refine A_aload_n dX0_clearRound_163 rfl rfl ?_
        refine A_dup dX0_clearRound_164 rfl ?_
        refine A_get dX0_clearRound_165 f_X0_74 (HC_at (by decide)) rfl ?_
        rw [put_ne (by decide), put_no (by decide), hs 46 (by decide)]
        refine A_iconst (v := 1) dX0_clearRound_168 (by decide) ?_
        refine A_iadd dX0_clearRound_169 ?_
        refine A_putC dX0_clearRound_170 p_X0_74 (by decide) rfl (Nat.le_of_ble_eq_true rfl) rfl ?_
        exact A_vret dX0_clearRound_173 (by rw [← hT, show i = len by omega]; rfl) ⟨by decide, by decide⟩
      · exact absurd (by exact nI_le (by omega) (by omega)) c71
    | succ k ih =>
      intro i d hk hs hT
      have hi : i < len := by omega
      refine A_iload dX0_clearRound_68 rfl ?_
      refine A_iload_n dX0_clearRound_70 rfl rfl ?_
      refine A_icmp_ge 141 dX0_clearRound_71 (by decide) (fun c71 => ?_) (fun c71 => ?_)
      · exact absurd c71 (by exact nI_ge (by omega) (by omega))
      · refine A_iload dX0_clearRound_74 rfl ?_
        refine A_iconst (v := 1) dX0_clearRound_76 (by decide) ?_
        refine A_iadd dX0_clearRound_77 ?_
        rw [nI_1]
        refine A_iload_n dX0_clearRound_78 rfl rfl ?_
        refine A_icmp_ge 94 dX0_clearRound_79 (by decide) (fun c79 => ?_) (fun c79 => ?_)
        · have hq9 : ¬ i + 1 < len := fun z => absurd c79 (nI_ge z (by omega))
          have hnx : nxF (c 50) len i = c 50 0 := by rw [nxF, if_neg hq9]
          refine A_aload_n dX0_clearRound_94 rfl rfl ?_
          refine A_get dX0_clearRound_95 f_X0_21 (HC_at (by decide)) rfl ?_
          refine A_iconst (v := 0) dX0_clearRound_98 (by decide) ?_
          refine A_iald dX0_clearRound_99 (HC_at (by decide)) (vp_in_nI (n := 0) (by decide) (by decide)) ?_
          rw [hs 50 (by decide)]
          refine A_eqI (show _ = nxF (c 50) len i from hnx.symm) ?_
          have hgx : vp_in (nxF (c 50) len i) nv := by rw [hnx]; exact hg _ (by omega)
          have hp1 := vp_tcl (hg i hi)
          have hp2 := vp_tcl hgx
          refine A_istore (lv1 := [_, _, _, _, _, _]) dX0_clearRound_100 (Nat.le_of_ble_eq_true rfl) rfl rfl ?_
          refine A_aload_n dX0_clearRound_102 rfl rfl ?_
          refine A_get dX0_clearRound_103 f_X0_15 (HC_at (by decide)) rfl ?_
          refine A_aload_n dX0_clearRound_106 rfl rfl ?_
          refine A_get dX0_clearRound_107 f_X0_21 (HC_at (by decide)) rfl ?_
          refine A_iload dX0_clearRound_110 rfl ?_
          refine A_ialdN dX0_clearRound_112 (HC_at (by decide)) (by omega) (by decide) ?_
          rw [hs 50 (by decide)]
          refine A_iload dX0_clearRound_113 rfl ?_
          refine A_callSi dX0_clearRound_115 m_X0_57 cb_X0_pair (As := [_, _]) rfl (c_pairv G (hg i hi) hgx hv6) rfl ⟨by decide, by decide⟩ (Nat.le_of_ble_eq_true rfl) ⟨by decide, by decide⟩ (fun x115 h115 hq => ?_)
          obtain ⟨rfl, rfl⟩ := hq
          refine A_dup2 dX0_clearRound_118 rfl rfl ?_
          refine A_ialdN dX0_clearRound_119 (HC_at (by decide)) (by omega) (by decide) ?_
          refine A_iload_n dX0_clearRound_120 rfl rfl ?_
          refine A_isub dX0_clearRound_121 ?_
          refine A_iastCN dX0_clearRound_122 (by decide) (fun _ => rfl) (by omega) (by decide) ?_
          refine A_iload_n dX0_clearRound_123 rfl rfl ?_
          refine A_iconst (v := 1) dX0_clearRound_124 (by decide) ?_
          refine A_aload_n dX0_clearRound_125 rfl rfl ?_
          refine A_get dX0_clearRound_126 f_X0_21 (HC_at (by decide)) rfl ?_
          refine A_iload dX0_clearRound_129 rfl ?_
          refine A_ialdN dX0_clearRound_131 (HC_at (by decide)) (by omega) (by decide) ?_
          rw [put_ne (by decide), hs 50 (by decide)]
          refine A_ishl dX0_clearRound_132 ?_
          refine A_ior dX0_clearRound_133 ?_
          refine A_istore_n (lv1 := [_, _, _, _, _, _]) dX0_clearRound_134 rfl (Nat.le_of_ble_eq_true rfl) rfl rfl ?_
          refine A_inc 1 (lv1 := [_, _, _, _, _, _]) dX0_clearRound_135 rfl (by decide) rfl rfl ?_
          refine A_goto 68 dX0_clearRound_138 (by decide) ?_
          refine A_fg 5 (lv1 := [_, _, _, _, _, _]) rfl ?_
          rw [nI_1]
          exact ih (i + 1) (rdS (c 50) L len i d) (by omega) (fun l hl => by rw [rdS, put_ne hl]; exact hs l hl) hT
        · have hq9 : i + 1 < len := by
            rcases Nat.lt_or_ge (i + 1) len with z | z
            · exact z
            · exact absurd (nI_le z (by omega)) c79
          have hnx : nxF (c 50) len i = c 50 (i + 1) := by rw [nxF, if_pos hq9]
          refine A_aload_n dX0_clearRound_82 rfl rfl ?_
          refine A_get dX0_clearRound_83 f_X0_21 (HC_at (by decide)) rfl ?_
          refine A_iload dX0_clearRound_86 rfl ?_
          refine A_iconst (v := 1) dX0_clearRound_88 (by decide) ?_
          refine A_iadd dX0_clearRound_89 ?_
          rw [nI_1]
          refine A_ialdN dX0_clearRound_90 (HC_at (by decide)) (by omega) (by decide) ?_
          refine A_goto 100 dX0_clearRound_91 (by decide) ?_
          rw [hs 50 (by decide)]
          refine A_eqI hnx.symm ?_
          have hgx : vp_in (nxF (c 50) len i) nv := by rw [hnx]; exact hg _ (by omega)
          have hp1 := vp_tcl (hg i hi)
          have hp2 := vp_tcl hgx
          refine A_istore (lv1 := [_, _, _, _, _, _]) dX0_clearRound_100 (Nat.le_of_ble_eq_true rfl) rfl rfl ?_
          refine A_aload_n dX0_clearRound_102 rfl rfl ?_
          refine A_get dX0_clearRound_103 f_X0_15 (HC_at (by decide)) rfl ?_
          refine A_aload_n dX0_clearRound_106 rfl rfl ?_
          refine A_get dX0_clearRound_107 f_X0_21 (HC_at (by decide)) rfl ?_
          refine A_iload dX0_clearRound_110 rfl ?_
          refine A_ialdN dX0_clearRound_112 (HC_at (by decide)) (by omega) (by decide) ?_
          rw [hs 50 (by decide)]
          refine A_iload dX0_clearRound_113 rfl ?_
          refine A_callSi dX0_clearRound_115 m_X0_57 cb_X0_pair (As := [_, _]) rfl (c_pairv G (hg i hi) hgx hv6) rfl ⟨by decide, by decide⟩ (Nat.le_of_ble_eq_true rfl) ⟨by decide, by decide⟩ (fun x115 h115 hq => ?_)
          obtain ⟨rfl, rfl⟩ := hq
          refine A_dup2 dX0_clearRound_118 rfl rfl ?_
          refine A_ialdN dX0_clearRound_119 (HC_at (by decide)) (by omega) (by decide) ?_
          refine A_iload_n dX0_clearRound_120 rfl rfl ?_
          refine A_isub dX0_clearRound_121 ?_
          refine A_iastCN dX0_clearRound_122 (by decide) (fun _ => rfl) (by omega) (by decide) ?_
          refine A_iload_n dX0_clearRound_123 rfl rfl ?_
          refine A_iconst (v := 1) dX0_clearRound_124 (by decide) ?_
          refine A_aload_n dX0_clearRound_125 rfl rfl ?_
          refine A_get dX0_clearRound_126 f_X0_21 (HC_at (by decide)) rfl ?_
          refine A_iload dX0_clearRound_129 rfl ?_
          refine A_ialdN dX0_clearRound_131 (HC_at (by decide)) (by omega) (by decide) ?_
          rw [put_ne (by decide), hs 50 (by decide)]
          refine A_ishl dX0_clearRound_132 ?_
          refine A_ior dX0_clearRound_133 ?_
          refine A_istore_n (lv1 := [_, _, _, _, _, _]) dX0_clearRound_134 rfl (Nat.le_of_ble_eq_true rfl) rfl rfl ?_
          refine A_inc 1 (lv1 := [_, _, _, _, _, _]) dX0_clearRound_135 rfl (by decide) rfl rfl ?_
          refine A_goto 68 dX0_clearRound_138 (by decide) ?_
          refine A_fg 5 (lv1 := [_, _, _, _, _, _]) rfl ?_
          rw [nI_1]
          exact ih (i + 1) (rdS (c 50) L len i d) (by omega) (fun l hl => by rw [rdS, put_ne hl]; exact hs l hl) hT
  have loop1 : ∀ (k i : Nat) , i + k = len - 1 → WA X G RX0 cX0_clearRound false none (qV fun h1 => h1 = HC b T co r n) 1 0 0 (HC b c co r n) 0 0 25 [some (.ref (b + 46)), some (.int (nI len)), some (.int (lsF (c 48) (c 50) len i)), some (.int (nI (i + 1))), none, none] [] := by
    intro k
    induction k with
    | zero =>
      intro i  hk 
      refine A_iload_n dX0_clearRound_25 rfl rfl ?_
      refine A_iload_n dX0_clearRound_26 rfl rfl ?_
      refine A_icmp_ge 63 dX0_clearRound_27 (by decide) (fun c27 => ?_) (fun c27 => ?_)
      · refine A_iconst (v := 0) dX0_clearRound_63 (by decide) ?_
        refine A_istore_n (lv1 := [_, _, _, _, _, _]) dX0_clearRound_64 rfl (Nat.le_of_ble_eq_true rfl) rfl rfl ?_
        refine A_iconst (v := 0) dX0_clearRound_65 (by decide) ?_
        refine A_istore (lv1 := [_, _, _, _, _, _]) dX0_clearRound_66 (Nat.le_of_ble_eq_true rfl) rfl rfl ?_
        rw [show i = len - 1 by omega, ← hLe]
        exact loop2 len 0 c (by omega) (fun _ _ => rfl) hTe.symm
      · exact absurd (nI_le (by omega) (by omega)) c27
    | succ k ih =>
      intro i  hk 
      have hi : i < len - 1 := by omega
      refine A_iload_n dX0_clearRound_25 rfl rfl ?_
      refine A_iload_n dX0_clearRound_26 rfl rfl ?_
      refine A_icmp_ge 63 dX0_clearRound_27 (by decide) (fun c27 => ?_) (fun c27 => ?_)
      · exact absurd c27 (nI_ge (by omega) (by omega))
      · refine A_iload_n dX0_clearRound_30 rfl rfl ?_
        refine A_aload_n dX0_clearRound_31 rfl rfl ?_
        refine A_get dX0_clearRound_32 f_X0_15 (HC_at (by decide)) rfl ?_
        refine A_aload_n dX0_clearRound_35 rfl rfl ?_
        refine A_get dX0_clearRound_36 f_X0_21 (HC_at (by decide)) rfl ?_
        refine A_iload_n dX0_clearRound_39 rfl rfl ?_
        refine A_iconst (v := 1) dX0_clearRound_40 (by decide) ?_
        refine A_isub dX0_clearRound_41 ?_
        rw [nI_sub1 (by omega), Nat.add_sub_cancel]
        refine A_ialdN dX0_clearRound_42 (HC_at (by decide)) (by omega) (by decide) ?_
        refine A_aload_n dX0_clearRound_43 rfl rfl ?_
        refine A_get dX0_clearRound_44 f_X0_21 (HC_at (by decide)) rfl ?_
        refine A_iload_n dX0_clearRound_47 rfl rfl ?_
        refine A_ialdN dX0_clearRound_48 (HC_at (by decide)) (by omega) (by decide) ?_
        have hp1 := vp_tcl (hg (i) (by omega))
        have hp2 := vp_tcl (hg (i + 1) (by omega))
        refine A_callSi dX0_clearRound_49 m_X0_57 cb_X0_pair (As := [_, _]) rfl (c_pairv G (hg _ (by omega)) (hg _ (by omega)) hv6) rfl ⟨by decide, by decide⟩ (Nat.le_of_ble_eq_true rfl) ⟨by decide, by decide⟩ (fun x49 h49 hq => ?_)
        obtain ⟨rfl, rfl⟩ := hq
        refine A_ialdN dX0_clearRound_52 (HC_at (by decide)) (by omega) (by decide) ?_
        refine A_min dX0_clearRound_53 w_943 (by decide) (Nat.le_of_ble_eq_true rfl) ⟨by decide, by decide⟩ ?_
        refine A_istore_n (lv1 := [_, _, _, _, _, _]) dX0_clearRound_56 rfl (Nat.le_of_ble_eq_true rfl) rfl rfl ?_
        refine A_inc 1 (lv1 := [_, _, _, _, _, _]) dX0_clearRound_57 rfl (by decide) rfl rfl ?_
        refine A_goto 25 dX0_clearRound_60 (by decide) ?_
        rw [nI_1]
        exact ih (i + 1) (by omega)
  refine A_aload_n dX0_clearRound_0 rfl rfl ?_
  refine A_get dX0_clearRound_1 f_X0_15 (HC_at (by decide)) rfl ?_
  refine A_aload_n dX0_clearRound_4 rfl rfl ?_
  refine A_get dX0_clearRound_5 f_X0_21 (HC_at (by decide)) rfl ?_
  refine A_iload_n dX0_clearRound_8 rfl rfl ?_
  refine A_iconst (v := 1) dX0_clearRound_9 (by decide) ?_
  refine A_isub dX0_clearRound_10 ?_
  rw [nI_sub1 (by omega)]
  refine A_ialdN dX0_clearRound_11 (HC_at (by decide)) (by omega) (by decide) ?_
  refine A_aload_n dX0_clearRound_12 rfl rfl ?_
  refine A_get dX0_clearRound_13 f_X0_21 (HC_at (by decide)) rfl ?_
  refine A_iconst (v := 0) dX0_clearRound_16 (by decide) ?_
  refine A_iald dX0_clearRound_17 (HC_at (by decide)) (vp_in_nI (n := 0) (by decide) (by decide)) ?_
  rw [show (0 : Int32).toNatClampNeg = 0 from rfl]
  have hp1 := vp_tcl (hg (len - 1) (by omega))
  have hp2 := vp_tcl (hg (0) (by omega))
  refine A_callSi dX0_clearRound_18 m_X0_57 cb_X0_pair (As := [_, _]) rfl (c_pairv G (hg _ (by omega)) (hg _ (by omega)) hv6) rfl ⟨by decide, by decide⟩ (Nat.le_of_ble_eq_true rfl) ⟨by decide, by decide⟩ (fun x18 h18 hq => ?_)
  obtain ⟨rfl, rfl⟩ := hq
  refine A_ialdN dX0_clearRound_21 (HC_at (by decide)) (by omega) (by decide) ?_
  refine A_istore_n (lv1 := [_, _, _, _, _, _]) dX0_clearRound_22 rfl (Nat.le_of_ble_eq_true rfl) rfl rfl ?_
  refine A_iconst (v := 1) dX0_clearRound_23 (by decide) ?_
  refine A_istore_n (lv1 := [_, _, _, _, _, _]) dX0_clearRound_24 rfl (Nat.le_of_ble_eq_true rfl) rfl rfl ?_
  exact loop1 (len - 1) 0 (by omega)

theorem rdS_keep {g : Nat → Int32} {L : Int32} {len : Nat} {k i : Nat} {c : CT} {l : Nat} (hl : l ≠ 48) : forR (rdS g L len) i k c l = c l := forR_keep (fun z => z l = c l) (fun _ _ hz => by rw [rdS, put_ne hl]; exact hz) k i c rfl
theorem crdF_l {len : Nat} {c : CT} {l : Nat} (hl : l ≤ 45 ∨ l = 47 ∨ l = 49 ∨ l = 50) : crdF len c l = c l := by
  rw [crdF, put_ne (by omega), put_ne (by omega), put_ne (by omega), rdS_keep (by omega)]
theorem crdF_n {len : Nat} {c : CT} : crdF len c 46 7 = c 46 7 + 1 := by rw [crdF, put_at]
theorem c_clearRings (G : GX) {b : Nat} {c : CT} {co : Nat → Nat → Option Nat} {r : Nat → Option AE} {n : Nat} {nv nc nf nl wk : Nat} (hI : IX c nv nc nf nl wk) : MA G 8 yX0_clearRings cX0_clearRings 3 none 0 0 [.ref (b + 46)] (HC b c co r n) (qV fun h1 => h1 = HC b (clearF c) co r n) := by
  refine MA.of (own := RX0) false [some (.ref (b + 46)), none, none] (by decide +kernel) rfl (fun h => by cases h) (Nat.le_of_ble_eq_true rfl) rfl (fun X => ?_)
  obtain ⟨T, hTe⟩ : ∃ T, T = clearF c := ⟨_, rfl⟩
  rw [← hTe]
  have loop : ∀ (k i : Nat) (c : CT), i + k = 8 → (IX c nv nc nf nl wk) → (c 46 7 = nI i) → (crR nv k c = T) → WA X G RX0 cX0_clearRings false none (qV fun h1 => h1 = HC b T co r n) 8 0 0 (HC b c co r n) 0 0 27 [some (.ref (b + 46)), some (.int (nI i)), none] [] := by
    intro k
    induction k with
    | zero =>
      intro i c hk hI hn9 hT
      refine A_iload_n dX0_clearRings_27 rfl rfl ?_
      refine A_bipush (v := 8) dX0_clearRings_28 (by decide) ?_
      refine A_icmp_ge 54 dX0_clearRings_30 (by decide) (fun c30 => ?_) (fun c30 => ?_)
      · exact A_vret dX0_clearRings_54 (congrArg (fun z => HC b z co r n) hT) ⟨by decide, by decide⟩
      · exact absurd (nI_le (a := 8) (by omega) (by omega)) c30
    | succ k ih =>
      intro i c hk hI hn9 hT
      have hi : i < 8 := by omega
      refine A_iload_n dX0_clearRings_27 rfl rfl ?_
      refine A_bipush (v := 8) dX0_clearRings_28 (by decide) ?_
      refine A_icmp_ge 54 dX0_clearRings_30 (by decide) (fun c30 => ?_) (fun c30 => ?_)
      · exact absurd c30 (nI_ge (b := 8) (by omega) (by decide))
      · refine A_aload_n dX0_clearRings_33 rfl rfl ?_
        refine A_callVi dX0_clearRings_34 m_X0_80 cb_X0_findRing (As := []) rfl (HC_at (by decide)) rfl (c_findRing G hI) rfl ⟨by decide, by decide⟩ (Nat.le_of_ble_eq_true rfl) ⟨by decide, by decide⟩ (fun x34 h34 hq => ?_)
        obtain ⟨rfl, rfl⟩ := hq
        refine A_istore_n (lv1 := [_, _, _]) dX0_clearRings_37 rfl (Nat.le_of_ble_eq_true rfl) rfl rfl ?_
        have hok9 := frF_ok (d := c 48) hI.2.1 (nv - 1) 2 (c 50) (by decide)
        refine A_iload_n dX0_clearRings_38 rfl rfl ?_
        refine A_if_ne 43 dX0_clearRings_39 (by decide) (fun c39 => ?_) (fun c39 => ?_)
        · have hz9 : ¬ (frF (c 48) nv (nv - 1) 2 (c 50)).1 = 0 := fun z => c39 (by rw [z]; rfl)
          refine A_aload_n dX0_clearRings_43 rfl rfl ?_
          refine A_iload_n dX0_clearRings_44 rfl rfl ?_
          obtain ⟨e1, e2, e3⟩ := hok9.resolve_left hz9
          refine A_callVv dX0_clearRings_45 m_X0_84 cb_X0_clearRound (As := [_]) rfl (HC_at (by decide)) rfl (c_clearRound G (hI.to (fun l hl => st1_ne (by omega))) e1 (by omega) (fun i hi => by rw [st1_eq]; exact e3 i hi) (by rw [st1_ne (by decide), hn9]; exact vp_in_nI (by omega) (by decide))) rfl ⟨by decide, by decide⟩ (Nat.le_of_ble_eq_true rfl) ⟨by decide, by decide⟩ (fun h45 hq => ?_)
          obtain ⟨rfl, rfl⟩ := hq
          refine A_inc 1 (lv1 := [_, _, _]) dX0_clearRings_48 rfl (by decide) rfl rfl ?_
          refine A_goto 27 dX0_clearRings_51 (by decide) ?_
          refine A_fg 2 (lv1 := [_, _, _]) rfl ?_
          rw [nI_1]
          rw [crR, if_neg hz9] at hT
          exact ih (i + 1) _ (by omega) (hI.to (fun l hl => by rw [crdF_l (by omega), st1_ne (by omega)])) (by rw [crdF_n, st1_ne (by decide), hn9]; exact nI_1 i) hT
        · have hv6 := hI.2.1
          have hz9 : (frF (c 48) nv (nv - 1) 2 (c 50)).1 = 0 := by
            rcases hok9 with e | ⟨e1, e2, e3⟩
            · exact e
            · exact absurd c39 (nI_ne0 (by omega) (by omega))
          exact A_vret dX0_clearRings_42 (by rw [crR, if_pos hz9] at hT; rw [hT]) ⟨by decide, by decide⟩
  refine A_aload_n dX0_clearRings_0 rfl rfl ?_
  refine A_get dX0_clearRings_1 f_X0_11 (HC_at (by decide)) rfl ?_
  refine A_iconst (v := 0) dX0_clearRings_4 (by decide) ?_
  refine A_aload_n dX0_clearRings_5 rfl rfl ?_
  refine A_get dX0_clearRings_6 f_X0_15 (HC_at (by decide)) rfl ?_
  refine A_iconst (v := 0) dX0_clearRings_9 (by decide) ?_
  refine A_bipush (v := 36) dX0_clearRings_10 (by decide) ?_
  refine A_copyI dX0_clearRings_12 w_928 (HC_at (by decide)) (HC_at (by decide)) (by decide) (by decide) (by decide) (by decide) (by decide) (by decide) (Nat.le_of_ble_eq_true rfl) ?_
  refine WA_h (HC_up (by decide) rfl) ?_
  refine WA_rowC (k := 48) (c 47) (by decide) (fun _ => rfl) (fun i hi => ?_) ?_
  · rw [st1_eq]
    show va_cpy (c 47) (c 48) 0 0 36 i = c 47 i
    rw [pk_cpy_in (Nat.zero_le _) (by omega)]
    rw [Nat.sub_zero, Nat.zero_add]
  rw [st1_st1]
  refine A_aload_n dX0_clearRings_15 rfl rfl ?_
  refine A_iconst (v := 0) dX0_clearRings_16 (by decide) ?_
  refine A_putC dX0_clearRings_17 p_X0_74 (by decide) rfl (Nat.le_of_ble_eq_true rfl) rfl ?_
  refine A_aload_n dX0_clearRings_20 rfl rfl ?_
  refine A_iconst (v := 0) dX0_clearRings_21 (by decide) ?_
  refine A_putC dX0_clearRings_22 p_X0_77 (by decide) rfl (Nat.le_of_ble_eq_true rfl) rfl ?_
  refine A_iconst (v := 0) dX0_clearRings_25 (by decide) ?_
  refine A_istore_n (lv1 := [_, _, _]) dX0_clearRings_26 rfl (Nat.le_of_ble_eq_true rfl) rfl rfl ?_
  exact loop 8 0 _ (by omega) (hI.to (fun l hl => by rw [put_ne (by omega), put_ne (by omega), st1_ne (by omega)])) (by rw [put_no (by decide), put_at]; rfl) (by rw [hTe, clearF, hI.nvf.1])
