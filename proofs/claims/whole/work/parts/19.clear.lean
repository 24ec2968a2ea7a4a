/-! RINGS cleared -/
def lsF (d g : Nat → Int32) (len : Nat) : Nat → Int32
  | 0 => d (tcl (g (len - 1)) * 6 + tcl (g 0))
  | i + 1 => mn (lsF d g len i) (d (tcl (g i) * 6 + tcl (g (i + 1))))
def nxF (g : Nat → Int32) (len i : Nat) : Int32 := if i + 1 < len then g (i + 1) else g 0
def rdS (g : Nat → Int32) (L : Int32) (len i : Nat) (c : CT) : CT := put c 50 (tcl (g i) * 6 + tcl (nxF g len i)) (c 50 (tcl (g i) * 6 + tcl (nxF g len i)) - L)
def bitsF (g : Nat → Int32) : Nat → Int32
  | 0 => 0
  | i + 1 => bitsF g i ||| (1 <<< (g i &&& 31))
def crdF (len : Nat) (c : CT) : CT :=
  put (put (put (forR (rdS (c 53) (lsF (c 50) (c 53) len (len - 1)) len) 0 len c) 46 8 (c 46 8 + lsF (c 50) (c 53) len (len - 1) * nI len)) 54 (tcl (c 46 7)) (bitsF (c 53) len)) 46 7 (c 46 7 + 1)
/-- a RING made less, ahead of its note -/
def crd1 (len : Nat) (c : CT) : CT := put (forR (rdS (c 53) (lsF (c 50) (c 53) len (len - 1)) len) 0 len c) 46 8 (c 46 8 + lsF (c 50) (c 53) len (len - 1) * nI len)
def crR (nv : Nat) : Nat → CT → CT
  | 0, c => c
  | k + 1, c => if (frF (c 50) nv (nv - 1) 2 (c 53)).1 = 0 then st1 c 53 (frF (c 50) nv (nv - 1) 2 (c 53)).2 else crR nv k (crdF (frF (c 50) nv (nv - 1) 2 (c 53)).1 (st1 c 53 (frF (c 50) nv (nv - 1) 2 (c 53)).2))
def clearF (c : CT) : CT := crR (tcl (c 7 2)) 8 (put (put (st1 c 50 (c 48)) 46 7 0) 46 8 0)
theorem clN_ok {d : Nat → Int32} {nv len : Nat} (hv : nv ≤ 6) {P : (Nat → Int32) → Bool × (Nat → Int32)} {dep la : Nat} (hd : dep < len)
    (hP : ∀ g, (∀ i, i < dep + 1 → vp_in (g i) nv) → (P g).1 = true → ∀ i, i < len → vp_in ((P g).2 i) nv) (hp : ∀ g i, i < dep + 1 → (P g).2 i = g i) :
    ∀ m x g, x + m = nv → (∀ i, i < dep → vp_in (g i) nv) → (clN d P dep la m x g).1 = true → ∀ i, i < len → vp_in ((clN d P dep la m x g).2 i) nv := by
  intro m
  induction m with
  | zero => intro x g _ _ h; exact absurd h (by rw [clN]; exact Bool.false_ne_true)
  | succ m ih =>
    intro x g hx hg
    have hu : ∀ i, i < dep + 1 → vp_in (upd g dep (nI x) i) nv := by
      intro i hi
      by_cases e : i = dep
      · rw [e, pk_us]; exact vp_in_nI (by omega) (by omega)
      · rw [pk_un e]; exact hg i (by omega)
    have hu2 : ∀ i, i < dep → vp_in ((P (upd g dep (nI x))).2 i) nv := fun i hi => by rw [hp _ i (by omega)]; exact hu i (by omega)
    rw [clN]
    split
    · split
      · exact ih _ _ (by omega) hg
      · split
        · next h => intro _; exact hP _ hu h
        · exact ih _ _ (by omega) hu2
    · exact ih _ _ (by omega) hg
theorem clS_ok {d : Nat → Int32} {nv len : Nat} (hv : nv ≤ 6) : ∀ k g, k < len → (∀ i, i < len - k → vp_in (g i) nv) → (clS d nv len k g).1 = true → ∀ i, i < len → vp_in ((clS d nv len k g).2 i) nv := by
  intro k
  induction k with
  | zero => intro g _ hg _ i hi; exact hg i (by omega)
  | succ k ih =>
    intro g hk hg
    rw [clS]
    have hz := vp_tcl (hg 0 (by omega))
    refine clN_ok hv (by omega) (fun g' h1 h2 => ih g' (by omega) (fun i hi => h1 i (by omega)) h2) (fun g' i hi => clS_pre k g' i (by omega)) _ _ g (by omega) hg
theorem frL_ok {d : Nat → Int32} {nv len : Nat} (hv : nv ≤ 6) (h1 : 1 ≤ len) : ∀ m a g, a + m = nv → (frL d nv len m a g).1 = true → ∀ i, i < len → vp_in ((frL d nv len m a g).2 i) nv := by
  intro m
  induction m with
  | zero => intro a g _ h; exact absurd h (by rw [frL]; exact Bool.false_ne_true)
  | succ m ih =>
    intro a g ha
    rw [frL]
    split
    · next h => exact fun _ => clS_ok hv (len - 1) _ (by omega) (fun i hi => by rw [show i = 0 by omega, pk_us]; exact vp_in_nI (by omega) (by omega)) h
    · exact ih _ _ (by omega)
theorem frF_ok {d : Nat → Int32} {nv : Nat} (hv : nv ≤ 6) : ∀ m l g, 1 ≤ l → ((frF d nv m l g).1 = 0 ∨ (l ≤ (frF d nv m l g).1 ∧ (frF d nv m l g).1 < l + m ∧ ∀ i, i < (frF d nv m l g).1 → vp_in ((frF d nv m l g).2 i) nv)) := by
  intro m
  induction m with
  | zero => intro l g _; exact Or.inl rfl
  | succ m ih =>
    intro l g hl
    rw [frF]
    split
    · next h => exact Or.inr ⟨Nat.le_refl _, by dsimp only; omega, frL_ok hv hl _ _ _ (by omega) h⟩
    · rcases ih (l + 1) (frL d nv l nv 0 g).2 (by omega) with e | ⟨h1, h2, h3⟩
      · exact Or.inl e
      · exact Or.inr ⟨by omega, by omega, h3⟩

theorem c_inRound (G : GX) {b : Nat} {c : CT} {co : Nat → Nat → Option Nat} {r : Nat → Option AE} {n : Nat} {i : Nat} (hi : i < 6) : MA G 0 yX0_inRound cX0_inRound 2 (some .int) 0 0 [.ref (b + 46), .int (nI i)] (HC b c co r n) (qI fun x h1 => x = c 53 i ∧ h1 = HC b c co r n) := by
  refine MA.of (own := RX0) false [some (.ref (b + 46)), some (.int (nI i))] (by decide +kernel) rfl (fun h => by cases h) (Nat.le_of_ble_eq_true rfl) rfl (fun X => ?_)
  refine A_iload_n dX0_inRound_0 rfl rfl ?_
  refine A_if_lt 19 dX0_inRound_1 (by decide) (fun c1 => ?_) (fun c1 => ?_)
  · exact absurd c1 (nI_pos (by omega))
  · refine A_iload_n dX0_inRound_4 rfl rfl ?_
    refine A_bipush (v := 6) dX0_inRound_5 (by decide) ?_
    refine A_icmp_ge 19 dX0_inRound_7 (by decide) (fun c7 => ?_) (fun c7 => ?_)
    · exact absurd c7 (nI_ge (b := 6) hi (by decide))
    · refine A_aload_n dX0_inRound_10 rfl rfl ?_
      refine A_get dX0_inRound_11 f_X0_24 (HC_at (by decide)) rfl ?_
      refine A_iload_n dX0_inRound_14 rfl rfl ?_
      refine A_ialdN dX0_inRound_15 (HC_at (by decide)) (by omega) (by decide) ?_
      refine A_goto 20 dX0_inRound_16 (by decide) ?_
      exact A_iret dX0_inRound_20 ⟨rfl, rfl⟩ ⟨by decide, by decide⟩

theorem c_pCopyR (G : GX) {b : Nat} {c : CT} {co : Nat → Nat → Option Nat} {r : Nat → Option AE} {n : Nat} : MA G 1 yX11_copy cX11_copy 2 none 0 0 [.ref (b + 49), .ref (b + 47)] (HC b c co r n) (qV fun h1 => h1 = HC b (st1 c 50 (c 48)) co r n) := by
  refine MA.of (own := RX11) false [some (.ref (b + 49)), some (.ref (b + 47))] (by decide +kernel) rfl (fun h => by cases h) (Nat.le_of_ble_eq_true rfl) rfl (fun X => ?_)
  refine A_aload_n dX11_copy_0 rfl rfl ?_
  refine A_get dX11_copy_1 f_X11_9 (HC_at (by decide)) rfl ?_
  refine A_iconst (v := 0) dX11_copy_4 (by decide) ?_
  refine A_aload_n dX11_copy_5 rfl rfl ?_
  refine A_get dX11_copy_6 f_X11_9 (HC_at (by decide)) rfl ?_
  refine A_iconst (v := 0) dX11_copy_9 (by decide) ?_
  refine A_aload_n dX11_copy_10 rfl rfl ?_
  refine A_get dX11_copy_11 f_X11_9 (HC_at (by decide)) rfl ?_
  refine A_alenI (v := nI _) dX11_copy_14 (HC_at (by decide)) rfl ?_
  refine A_copyI dX11_copy_15 w_996 (HC_at (by decide)) (HC_at (by decide)) (by decide) (by decide) (by decide) (by decide) (by decide) (by decide) (Nat.le_of_ble_eq_true rfl) ?_
  refine WA_h (HC_up (by decide) rfl) ?_
  refine WA_rowC (k := 50) (c 48) (by decide) (fun _ => rfl) (fun i hi => ?_) ?_
  · rw [st1_eq]
    show va_cpy (c 48) (c 50) 0 0 36 i = c 48 i
    rw [pk_cpy_in (Nat.zero_le _) (by omega)]
    rw [Nat.sub_zero, Nat.zero_add]
  rw [st1_st1]
  exact A_vret dX11_copy_18 rfl ⟨by decide, by decide⟩

theorem c_clearRound (G : GX) {b : Nat} {c : CT} {co : Nat → Nat → Option Nat} {r : Nat → Option AE} {n : Nat} {nv nc nf nl wk : Nat} {len : Nat} (hI : IX c nv nc nf nl wk) (hl2 : 2 ≤ len) (hln : len ≤ nv) (hg : ∀ i, i < len → vp_in (c 53 i) nv) : MA G 3 yX0_clearRound cX0_clearRound 6 (some .int) 0 0 [.ref (b + 46), .int (nI len)] (HC b c co r n) (qI fun x h1 => x = bitsF (c 53) len ∧ h1 = HC b (crd1 len c) co r n) := by
  refine MA.of (own := RX0) false [some (.ref (b + 46)), some (.int (nI len)), none, none, none, none] (by decide +kernel) rfl (fun h => by cases h) (Nat.le_of_ble_eq_true rfl) rfl (fun X => ?_)
  have hv6 := hI.2.1
  obtain ⟨T, hTe⟩ : ∃ T, T = crd1 len c := ⟨_, rfl⟩
  rw [← hTe]
  rw [crd1] at hTe
  obtain ⟨L, hLe⟩ : ∃ L, L = lsF (c 50) (c 53) len (len - 1) := ⟨_, rfl⟩
  rw [← hLe] at hTe
  have loop2 : ∀ (k i : Nat) (d : CT), i + k = len → (∀ l, l ≠ 50 → d l = c l) → (put (forR (rdS (c 53) L len) i k d) 46 8 (c 46 8 + L * nI len) = T) → WA X G RX0 cX0_clearRound false (some .int) (qI fun x h1 => x = bitsF (c 53) len ∧ h1 = HC b T co r n) 3 0 0 (HC b d co r n) 0 0 62 [some (.ref (b + 46)), some (.int (nI len)), some (.int L), some (.int (bitsF (c 53) i)), some (.int (nI i)), none] [] := by
    intro k
    induction k with
    | zero =>
      intro i d hk hs hT
      refine A_iload dX0_clearRound_62 rfl ?_
      refine A_iload_n dX0_clearRound_64 rfl rfl ?_
      refine A_icmp_ge 124 dX0_clearRound_65 (by decide) (fun c65 => ?_) (fun c65 => ?_)
      · refine A_aload_n dX0_clearRound_124 rfl rfl ?_
        refine A_dup dX0_clearRound_125 rfl ?_
        refine A_get dX0_clearRound_126 f_X0_77 (HC_at (by decide)) rfl ?_
        rw [hs 46 (by decide)]
        refine A_iload_n dX0_clearRound_129 rfl rfl ?_
        refine A_iload_n dX0_clearRound_130 rfl rfl ?_
        refine A_imul dX0_clearRound_131 ?_
        refine A_iadd dX0_clearRound_132 ?_
        refine A_putC 8 dX0_clearRound_133 p_X0_77 (by decide) rfl (Nat.le_of_ble_eq_true rfl) rfl ?_
        refine A_iload_n dX0_clearRound_136 rfl rfl ?_
        exact A_iret dX0_clearRound_137 ⟨by rw [show i = len by omega], by rw [← hT, show i = len by omega]; rfl⟩ ⟨by decide, by decide⟩
      · exact absurd (by exact nI_le (by omega) (by omega)) c65
    | succ k ih =>
      intro i d hk hs hT
      have hi : i < len := by omega
      refine A_iload dX0_clearRound_62 rfl ?_
      refine A_iload_n dX0_clearRound_64 rfl rfl ?_
      refine A_icmp_ge 124 dX0_clearRound_65 (by decide) (fun c65 => ?_) (fun c65 => ?_)
      · exact absurd c65 (by exact nI_ge (by omega) (by omega))
      · refine A_iload dX0_clearRound_68 rfl ?_
        refine A_iconst (v := 1) dX0_clearRound_70 (by decide) ?_
        refine A_iadd dX0_clearRound_71 ?_
        rw [nI_1]
        refine A_iload_n dX0_clearRound_72 rfl rfl ?_
        refine A_icmp_ge 83 dX0_clearRound_73 (by decide) (fun c73 => ?_) (fun c73 => ?_)
        · have hq9 : ¬ i + 1 < len := fun z => absurd c73 (nI_ge z (by omega))
          have hnx : nxF (c 53) len i = c 53 0 := by rw [nxF, if_neg hq9]
          refine A_iconst (v := 0) dX0_clearRound_83 (by decide) ?_
          refine A_istore (lv1 := [_, _, _, _, _, _]) dX0_clearRound_84 (Nat.le_of_ble_eq_true rfl) rfl rfl ?_
          refine A_aload_n dX0_clearRound_86 rfl rfl ?_
          refine A_get dX0_clearRound_87 f_X0_18 (HC_at (by decide)) rfl ?_
          refine A_aload_n dX0_clearRound_90 rfl rfl ?_
          refine A_iload dX0_clearRound_91 rfl ?_
          refine A_callVi dX0_clearRound_93 m_X0_105 cb_X0_inRound (As := [_]) rfl (HC_at (by decide)) rfl (c_inRound G (by omega)) rfl ⟨by decide, by decide⟩ (Nat.le_of_ble_eq_true rfl) ⟨by decide, by decide⟩ (fun x93 h93 hq => ?_)
          obtain ⟨rfl, rfl⟩ := hq
          rw [hs 53 (by decide)]
          refine A_aload_n dX0_clearRound_96 rfl rfl ?_
          refine A_iload dX0_clearRound_97 rfl ?_
          refine A_callVi dX0_clearRound_99 m_X0_105 cb_X0_inRound (As := [_]) rfl (HC_at (by decide)) rfl (c_inRound G (i := 0) (by omega)) rfl ⟨by decide, by decide⟩ (Nat.le_of_ble_eq_true rfl) ⟨by decide, by decide⟩ (fun x99 h99 hq => ?_)
          obtain ⟨rfl, rfl⟩ := hq
          rw [hs 53 (by decide)]
          refine A_eqI hnx.symm ?_
          have hgx : vp_in (nxF (c 53) len i) nv := by rw [hnx]; exact hg _ (by omega)
          refine A_iload_n dX0_clearRound_102 rfl rfl ?_
          refine A_ineg dX0_clearRound_103 ?_
          refine A_callVv dX0_clearRound_104 m_X0_66 cb_X11_add (As := [_, _, _]) rfl (HC_at (by decide)) rfl (c_pAdd50 G (hg i hi) hgx hv6) rfl ⟨by decide, by decide⟩ (Nat.le_of_ble_eq_true rfl) ⟨by decide, by decide⟩ (fun h104 hq => ?_)
          obtain rfl := hq
          rw [← Int32.sub_eq_add_neg]
          refine A_iload_n dX0_clearRound_107 rfl rfl ?_
          refine A_iconst (v := 1) dX0_clearRound_108 (by decide) ?_
          refine A_aload_n dX0_clearRound_109 rfl rfl ?_
          refine A_iload dX0_clearRound_110 rfl ?_
          refine A_callVi dX0_clearRound_112 m_X0_105 cb_X0_inRound (As := [_]) rfl (HC_at (by decide)) rfl (c_inRound G (by omega)) rfl ⟨by decide, by decide⟩ (Nat.le_of_ble_eq_true rfl) ⟨by decide, by decide⟩ (fun x112 h112 hq => ?_)
          obtain ⟨rfl, rfl⟩ := hq
          rw [put_ne (by decide), hs 53 (by decide)]
          refine A_ishl dX0_clearRound_115 ?_
          refine A_ior dX0_clearRound_116 ?_
          refine A_istore_n (lv1 := [_, _, _, _, _, _]) dX0_clearRound_117 rfl (Nat.le_of_ble_eq_true rfl) rfl rfl ?_
          refine A_inc 1 (lv1 := [_, _, _, _, _, _]) dX0_clearRound_118 rfl (by decide) rfl rfl ?_
          refine A_goto 62 dX0_clearRound_121 (by decide) ?_
          refine A_fg 5 (lv1 := [_, _, _, _, _, _]) rfl ?_
          rw [nI_1]
          exact ih (i + 1) (rdS (c 53) L len i d) (by omega) (fun l hl => by rw [rdS, put_ne hl]; exact hs l hl) hT
        · have hq9 : i + 1 < len := by
            rcases Nat.lt_or_ge (i + 1) len with z | z
            · exact z
            · exact absurd (nI_le z (by omega)) c73
          have hnx : nxF (c 53) len i = c 53 (i + 1) := by rw [nxF, if_pos hq9]
          refine A_iload dX0_clearRound_76 rfl ?_
          refine A_iconst (v := 1) dX0_clearRound_78 (by decide) ?_
          refine A_iadd dX0_clearRound_79 ?_
          rw [nI_1]
          refine A_goto 84 dX0_clearRound_80 (by decide) ?_
          refine A_istore (lv1 := [_, _, _, _, _, _]) dX0_clearRound_84 (Nat.le_of_ble_eq_true rfl) rfl rfl ?_
          refine A_aload_n dX0_clearRound_86 rfl rfl ?_
          refine A_get dX0_clearRound_87 f_X0_18 (HC_at (by decide)) rfl ?_
          refine A_aload_n dX0_clearRound_90 rfl rfl ?_
          refine A_iload dX0_clearRound_91 rfl ?_
          refine A_callVi dX0_clearRound_93 m_X0_105 cb_X0_inRound (As := [_]) rfl (HC_at (by decide)) rfl (c_inRound G (by omega)) rfl ⟨by decide, by decide⟩ (Nat.le_of_ble_eq_true rfl) ⟨by decide, by decide⟩ (fun x93 h93 hq => ?_)
          obtain ⟨rfl, rfl⟩ := hq
          rw [hs 53 (by decide)]
          refine A_aload_n dX0_clearRound_96 rfl rfl ?_
          refine A_iload dX0_clearRound_97 rfl ?_
          refine A_callVi dX0_clearRound_99 m_X0_105 cb_X0_inRound (As := [_]) rfl (HC_at (by decide)) rfl (c_inRound G (i := i + 1) (by omega)) rfl ⟨by decide, by decide⟩ (Nat.le_of_ble_eq_true rfl) ⟨by decide, by decide⟩ (fun x99 h99 hq => ?_)
          obtain ⟨rfl, rfl⟩ := hq
          rw [hs 53 (by decide)]
          refine A_eqI hnx.symm ?_
          have hgx : vp_in (nxF (c 53) len i) nv := by rw [hnx]; exact hg _ (by omega)
          refine A_iload_n dX0_clearRound_102 rfl rfl ?_
          refine A_ineg dX0_clearRound_103 ?_
          refine A_callVv dX0_clearRound_104 m_X0_66 cb_X11_add (As := [_, _, _]) rfl (HC_at (by decide)) rfl (c_pAdd50 G (hg i hi) hgx hv6) rfl ⟨by decide, by decide⟩ (Nat.le_of_ble_eq_true rfl) ⟨by decide, by decide⟩ (fun h104 hq => ?_)
          obtain rfl := hq
          rw [← Int32.sub_eq_add_neg]
          refine A_iload_n dX0_clearRound_107 rfl rfl ?_
          refine A_iconst (v := 1) dX0_clearRound_108 (by decide) ?_
          refine A_aload_n dX0_clearRound_109 rfl rfl ?_
          refine A_iload dX0_clearRound_110 rfl ?_
          refine A_callVi dX0_clearRound_112 m_X0_105 cb_X0_inRound (As := [_]) rfl (HC_at (by decide)) rfl (c_inRound G (by omega)) rfl ⟨by decide, by decide⟩ (Nat.le_of_ble_eq_true rfl) ⟨by decide, by decide⟩ (fun x112 h112 hq => ?_)
          obtain ⟨rfl, rfl⟩ := hq
          rw [put_ne (by decide), hs 53 (by decide)]
          refine A_ishl dX0_clearRound_115 ?_
          refine A_ior dX0_clearRound_116 ?_
          refine A_istore_n (lv1 := [_, _, _, _, _, _]) dX0_clearRound_117 rfl (Nat.le_of_ble_eq_true rfl) rfl rfl ?_
          refine A_inc 1 (lv1 := [_, _, _, _, _, _]) dX0_clearRound_118 rfl (by decide) rfl rfl ?_
          refine A_goto 62 dX0_clearRound_121 (by decide) ?_
          refine A_fg 5 (lv1 := [_, _, _, _, _, _]) rfl ?_
          rw [nI_1]
          exact ih (i + 1) (rdS (c 53) L len i d) (by omega) (fun l hl => by rw [rdS, put_ne hl]; exact hs l hl) hT
  have loop1 : ∀ (k i : Nat) , i + k = len - 1 → WA X G RX0 cX0_clearRound false (some .int) (qI fun x h1 => x = bitsF (c 53) len ∧ h1 = HC b T co r n) 3 0 0 (HC b c co r n) 0 0 22 [some (.ref (b + 46)), some (.int (nI len)), some (.int (lsF (c 50) (c 53) len i)), some (.int (nI (i + 1))), none, none] [] := by
    intro k
    induction k with
    | zero =>
      intro i  hk 
      refine A_iload_n dX0_clearRound_22 rfl rfl ?_
      refine A_iload_n dX0_clearRound_23 rfl rfl ?_
      refine A_icmp_ge 57 dX0_clearRound_24 (by decide) (fun c24 => ?_) (fun c24 => ?_)
      · refine A_iconst (v := 0) dX0_clearRound_57 (by decide) ?_
        refine A_istore_n (lv1 := [_, _, _, _, _, _]) dX0_clearRound_58 rfl (Nat.le_of_ble_eq_true rfl) rfl rfl ?_
        refine A_iconst (v := 0) dX0_clearRound_59 (by decide) ?_
        refine A_istore (lv1 := [_, _, _, _, _, _]) dX0_clearRound_60 (Nat.le_of_ble_eq_true rfl) rfl rfl ?_
        rw [show i = len - 1 by omega, ← hLe]
        exact loop2 len 0 c (by omega) (fun _ _ => rfl) hTe.symm
      · exact absurd (nI_le (by omega) (by omega)) c24
    | succ k ih =>
      intro i  hk 
      have hi : i < len - 1 := by omega
      refine A_iload_n dX0_clearRound_22 rfl rfl ?_
      refine A_iload_n dX0_clearRound_23 rfl rfl ?_
      refine A_icmp_ge 57 dX0_clearRound_24 (by decide) (fun c24 => ?_) (fun c24 => ?_)
      · exact absurd c24 (nI_ge (by omega) (by omega))
      · refine A_iload_n dX0_clearRound_27 rfl rfl ?_
        refine A_aload_n dX0_clearRound_28 rfl rfl ?_
        refine A_get dX0_clearRound_29 f_X0_18 (HC_at (by decide)) rfl ?_
        refine A_aload_n dX0_clearRound_32 rfl rfl ?_
        refine A_iload_n dX0_clearRound_33 rfl rfl ?_
        refine A_iconst (v := 1) dX0_clearRound_34 (by decide) ?_
        refine A_isub dX0_clearRound_35 ?_
        rw [nI_sub1 (by omega), Nat.add_sub_cancel]
        refine A_callVi dX0_clearRound_36 m_X0_105 cb_X0_inRound (As := [_]) rfl (HC_at (by decide)) rfl (c_inRound G (by omega)) rfl ⟨by decide, by decide⟩ (Nat.le_of_ble_eq_true rfl) ⟨by decide, by decide⟩ (fun x36 h36 hq => ?_)
        obtain ⟨rfl, rfl⟩ := hq
        refine A_aload_n dX0_clearRound_39 rfl rfl ?_
        refine A_iload_n dX0_clearRound_40 rfl rfl ?_
        refine A_callVi dX0_clearRound_41 m_X0_105 cb_X0_inRound (As := [_]) rfl (HC_at (by decide)) rfl (c_inRound G (by omega)) rfl ⟨by decide, by decide⟩ (Nat.le_of_ble_eq_true rfl) ⟨by decide, by decide⟩ (fun x41 h41 hq => ?_)
        obtain ⟨rfl, rfl⟩ := hq
        refine A_callVi dX0_clearRound_44 m_X0_100 cb_X11_at (As := [_, _]) rfl (HC_at (by decide)) rfl (c_pAt50v G (hg _ (by omega)) (hg _ (by omega)) hv6) rfl ⟨by decide, by decide⟩ (Nat.le_of_ble_eq_true rfl) ⟨by decide, by decide⟩ (fun x44 h44 hq => ?_)
        obtain ⟨rfl, rfl⟩ := hq
        refine A_min dX0_clearRound_47 w_1016 (by decide) (Nat.le_of_ble_eq_true rfl) ⟨by decide, by decide⟩ ?_
        refine A_istore_n (lv1 := [_, _, _, _, _, _]) dX0_clearRound_50 rfl (Nat.le_of_ble_eq_true rfl) rfl rfl ?_
        refine A_inc 1 (lv1 := [_, _, _, _, _, _]) dX0_clearRound_51 rfl (by decide) rfl rfl ?_
        refine A_goto 22 dX0_clearRound_54 (by decide) ?_
        rw [nI_1]
        exact ih (i + 1) (by omega)
  refine A_aload_n dX0_clearRound_0 rfl rfl ?_
  refine A_get dX0_clearRound_1 f_X0_18 (HC_at (by decide)) rfl ?_
  refine A_aload_n dX0_clearRound_4 rfl rfl ?_
  refine A_iload_n dX0_clearRound_5 rfl rfl ?_
  refine A_iconst (v := 1) dX0_clearRound_6 (by decide) ?_
  refine A_isub dX0_clearRound_7 ?_
  rw [nI_sub1 (by omega)]
  refine A_callVi dX0_clearRound_8 m_X0_105 cb_X0_inRound (As := [_]) rfl (HC_at (by decide)) rfl (c_inRound G (by omega)) rfl ⟨by decide, by decide⟩ (Nat.le_of_ble_eq_true rfl) ⟨by decide, by decide⟩ (fun x8 h8 hq => ?_)
  obtain ⟨rfl, rfl⟩ := hq
  refine A_aload_n dX0_clearRound_11 rfl rfl ?_
  refine A_iconst (v := 0) dX0_clearRound_12 (by decide) ?_
  refine A_callVi dX0_clearRound_13 m_X0_105 cb_X0_inRound (As := [_]) rfl (HC_at (by decide)) rfl (c_inRound G (i := 0) (by omega)) rfl ⟨by decide, by decide⟩ (Nat.le_of_ble_eq_true rfl) ⟨by decide, by decide⟩ (fun x13 h13 hq => ?_)
  obtain ⟨rfl, rfl⟩ := hq
  refine A_callVi dX0_clearRound_16 m_X0_100 cb_X11_at (As := [_, _]) rfl (HC_at (by decide)) rfl (c_pAt50v G (hg _ (by omega)) (hg _ (by omega)) hv6) rfl ⟨by decide, by decide⟩ (Nat.le_of_ble_eq_true rfl) ⟨by decide, by decide⟩ (fun x16 h16 hq => ?_)
  obtain ⟨rfl, rfl⟩ := hq
  refine A_istore_n (lv1 := [_, _, _, _, _, _]) dX0_clearRound_19 rfl (Nat.le_of_ble_eq_true rfl) rfl rfl ?_
  refine A_iconst (v := 1) dX0_clearRound_20 (by decide) ?_
  refine A_istore_n (lv1 := [_, _, _, _, _, _]) dX0_clearRound_21 rfl (Nat.le_of_ble_eq_true rfl) rfl rfl ?_
  exact loop1 (len - 1) 0 (by omega)

theorem rdS_keep {g : Nat → Int32} {L : Int32} {len : Nat} {k i : Nat} {c : CT} {l : Nat} (hl : l ≠ 50) : forR (rdS g L len) i k c l = c l := forR_keep (fun z => z l = c l) (fun _ _ hz => by rw [rdS, put_ne hl]; exact hz) k i c rfl
theorem crdF_l {len : Nat} {c : CT} {l : Nat} (hl : l ≤ 45 ∨ l = 48 ∨ l = 52 ∨ l = 53) : crdF len c l = c l := by
  rw [crdF, put_ne (by omega), put_ne (by omega), put_ne (by omega), rdS_keep (by omega)]
theorem crdF_n {len : Nat} {c : CT} : crdF len c 46 7 = c 46 7 + 1 := by rw [crdF, put_at]
theorem c_clearRings (G : GX) {b : Nat} {c : CT} {co : Nat → Nat → Option Nat} {r : Nat → Option AE} {n : Nat} {nv nc nf nl wk : Nat} (hI : IX c nv nc nf nl wk) : MA G 9 yX0_clearRings cX0_clearRings 3 none 0 0 [.ref (b + 46)] (HC b c co r n) (qV fun h1 => h1 = HC b (clearF c) co r n) := by
  refine MA.of (own := RX0) false [some (.ref (b + 46)), none, none] (by decide +kernel) rfl (fun h => by cases h) (Nat.le_of_ble_eq_true rfl) rfl (fun X => ?_)
  obtain ⟨T, hTe⟩ : ∃ T, T = clearF c := ⟨_, rfl⟩
  rw [← hTe]
  have loop : ∀ (k i : Nat) (c : CT), i + k = 8 → (IX c nv nc nf nl wk) → (c 46 7 = nI i) → (crR nv k c = T) → WA X G RX0 cX0_clearRings false none (qV fun h1 => h1 = HC b T co r n) 9 0 0 (HC b c co r n) 0 0 23 [some (.ref (b + 46)), some (.int (nI i)), none] [] := by
    intro k
    induction k with
    | zero =>
      intro i c hk hI hn9 hT
      refine A_iload_n dX0_clearRings_23 rfl rfl ?_
      refine A_bipush (v := 8) dX0_clearRings_24 (by decide) ?_
      refine A_icmp_ge 63 dX0_clearRings_26 (by decide) (fun c26 => ?_) (fun c26 => ?_)
      · exact A_vret dX0_clearRings_63 (congrArg (fun z => HC b z co r n) hT) ⟨by decide, by decide⟩
      · exact absurd (nI_le (a := 8) (by omega) (by omega)) c26
    | succ k ih =>
      intro i c hk hI hn9 hT
      have hi : i < 8 := by omega
      refine A_iload_n dX0_clearRings_23 rfl rfl ?_
      refine A_bipush (v := 8) dX0_clearRings_24 (by decide) ?_
      refine A_icmp_ge 63 dX0_clearRings_26 (by decide) (fun c26 => ?_) (fun c26 => ?_)
      · exact absurd c26 (nI_ge (b := 8) (by omega) (by decide))
      · refine A_aload_n dX0_clearRings_29 rfl rfl ?_
        refine A_callVi dX0_clearRings_30 m_X0_80 cb_X0_findRing (As := []) rfl (HC_at (by decide)) rfl (c_findRing G hI) rfl ⟨by decide, by decide⟩ (Nat.le_of_ble_eq_true rfl) ⟨by decide, by decide⟩ (fun x30 h30 hq => ?_)
        obtain ⟨rfl, rfl⟩ := hq
        refine A_istore_n (lv1 := [_, _, _]) dX0_clearRings_33 rfl (Nat.le_of_ble_eq_true rfl) rfl rfl ?_
        have hok9 := frF_ok (d := c 50) hI.2.1 (nv - 1) 2 (c 53) (by decide)
        refine A_iload_n dX0_clearRings_34 rfl rfl ?_
        refine A_if_ne 39 dX0_clearRings_35 (by decide) (fun c35 => ?_) (fun c35 => ?_)
        · have hz9 : ¬ (frF (c 50) nv (nv - 1) 2 (c 53)).1 = 0 := fun z => c35 (by rw [z]; rfl)
          refine A_aload_n dX0_clearRings_39 rfl rfl ?_
          refine A_get dX0_clearRings_40 f_X0_28 (HC_at (by decide)) rfl ?_
          refine A_iload_n dX0_clearRings_43 rfl rfl ?_
          refine A_aload_n dX0_clearRings_44 rfl rfl ?_
          refine A_iload_n dX0_clearRings_45 rfl rfl ?_
          obtain ⟨e1, e2, e3⟩ := hok9.resolve_left hz9
          refine A_callVi dX0_clearRings_46 m_X0_84 cb_X0_clearRound (As := [_]) rfl (HC_at (by decide)) rfl (c_clearRound G (hI.to (fun l hl => st1_ne (by omega))) e1 (by omega) (fun i hi => by rw [st1_eq]; exact e3 i hi)) rfl ⟨by decide, by decide⟩ (Nat.le_of_ble_eq_true rfl) ⟨by decide, by decide⟩ (fun x46 h46 hq => ?_)
          obtain ⟨rfl, rfl⟩ := hq
          refine A_iastCN dX0_clearRings_49 (by decide) (fun _ => rfl) (by omega) (by decide) ?_
          refine A_aload_n dX0_clearRings_50 rfl rfl ?_
          refine A_iload_n dX0_clearRings_51 rfl rfl ?_
          refine A_iconst (v := 1) dX0_clearRings_52 (by decide) ?_
          refine A_iadd dX0_clearRings_53 ?_
          refine A_putC 7 dX0_clearRings_54 p_X0_74 (by decide) rfl (Nat.le_of_ble_eq_true rfl) rfl ?_
          refine A_inc 1 (lv1 := [_, _, _]) dX0_clearRings_57 rfl (by decide) rfl rfl ?_
          refine A_goto 23 dX0_clearRings_60 (by decide) ?_
          refine A_fg 2 (lv1 := [_, _, _]) rfl ?_
          rw [nI_1]
          rw [crR, if_neg hz9] at hT
          refine WA_h (congrArg (fun z => HC b z co r n) (show _ = crdF (frF (c 50) nv (nv - 1) 2 (c 53)).1 (st1 c 53 (frF (c 50) nv (nv - 1) 2 (c 53)).2) from ?_)) (ih (i + 1) _ (by omega) (hI.to (fun l hl => by rw [crdF_l (by omega), st1_ne (by omega)])) (by rw [crdF_n, st1_ne (by decide), hn9]; exact nI_1 i) hT)
          rw [crdF, st1_ne (show (46 : Nat) ≠ 53 by decide), hn9, tcl, nI_clamp (by omega), nI_1]
          rfl
        · have hv6 := hI.2.1
          have hz9 : (frF (c 50) nv (nv - 1) 2 (c 53)).1 = 0 := by
            rcases hok9 with e | ⟨e1, e2, e3⟩
            · exact e
            · exact absurd c35 (nI_ne0 (by omega) (by omega))
          exact A_vret dX0_clearRings_38 (by rw [crR, if_pos hz9] at hT; rw [hT]) ⟨by decide, by decide⟩
  refine A_aload_n dX0_clearRings_0 rfl rfl ?_
  refine A_get dX0_clearRings_1 f_X0_18 (HC_at (by decide)) rfl ?_
  refine A_aload_n dX0_clearRings_4 rfl rfl ?_
  refine A_get dX0_clearRings_5 f_X0_12 (HC_at (by decide)) rfl ?_
  refine A_callVv dX0_clearRings_8 m_X0_70 cb_X11_copy (As := [_]) rfl (HC_at (by decide)) rfl (c_pCopyR G) rfl ⟨by decide, by decide⟩ (Nat.le_of_ble_eq_true rfl) ⟨by decide, by decide⟩ (fun h8 hq => ?_)
  obtain rfl := hq
  refine A_aload_n dX0_clearRings_11 rfl rfl ?_
  refine A_iconst (v := 0) dX0_clearRings_12 (by decide) ?_
  refine A_putC 7 dX0_clearRings_13 p_X0_74 (by decide) rfl (Nat.le_of_ble_eq_true rfl) rfl ?_
  refine A_aload_n dX0_clearRings_16 rfl rfl ?_
  refine A_iconst (v := 0) dX0_clearRings_17 (by decide) ?_
  refine A_putC 8 dX0_clearRings_18 p_X0_77 (by decide) rfl (Nat.le_of_ble_eq_true rfl) rfl ?_
  refine A_iconst (v := 0) dX0_clearRings_21 (by decide) ?_
  refine A_istore_n (lv1 := [_, _, _]) dX0_clearRings_22 rfl (Nat.le_of_ble_eq_true rfl) rfl rfl ?_
  exact loop 8 0 _ (by omega) (hI.to (fun l hl => by rw [put_ne (by omega), put_ne (by omega), st1_ne (by omega)])) (by rw [put_no (by decide), put_at]; rfl) (by rw [hTe, clearF, hI.nvf.1])
