/-! RINGS cleared: the walk -/
def CRel (j : Nat) (c m : CT) : Prop := c 50 = m 13 ∧ c 46 7 = nI j ∧ m 0 31 = nI j ∧ c 46 8 = m 0 32 ∧ ∀ i, i < j → c 54 i = m 14 i
theorem bits_S {g : Nat → Int32} {s : Nat → Nat} : ∀ n, (∀ i, i < n → g i = nI (s i)) → (∀ i, i < n → s i < 6) → bitsF g n = nI (bS s n)
  | 0, _, _ => rfl
  | n + 1, h, h6 => by
    rw [bitsF, bS, bits_S n (fun i hi => h i (by omega)) (fun i hi => h6 i (by omega)), h n (by omega)]
    exact (or6 _ (bS_b (s := s) n (fun i hi => h6 i (by omega))).1 (s n) (h6 n (by omega))).1
def clD (D : Nat → Int32) (s : Nat → Nat) (n : Nat) : Nat → Int32 := forR (cdD s (lsM D s n n) n) 0 n D
theorem crd_R {j n : Nat} {c m m2 : CT} {g : Nat → Int32} {s : Nat → Nat} (R : CRel j c m) (hj : j < 8) (hn : 2 ≤ n) (hg : ∀ i, i < n → g i = nI (s i)) (hs : ∀ i, i < n → s i < 6)
    (e13 : m2 13 = clD (m 13) s n) (e31 : m2 0 31 = nI j + 1) (e32 : m2 0 32 = m 0 32 + lsM (m 13) s n n * nI n) (e14 : m2 14 = upd (m 14) j (nI (bS s n))) : CRel (j + 1) (crdF n (st1 c 53 g)) m2 := by
  have hgc : ∀ i, i < n → tcl (g i) = s i := fun i hi => by rw [hg i hi, tcl_nI (by have := hs i hi; omega)]
  have els : lsF (m 13) g n (n - 1) = lsM (m 13) s n n := ls_e hn hgc
  have e48 : (st1 c 53 g) 50 = m 13 := by rw [st1_ne (by decide)]; exact R.1
  have e50 : (st1 c 53 g) 53 = g := st1_eq
  have e46 : (st1 c 53 g) 46 = c 46 := st1_ne (by decide)
  have e51 : (st1 c 53 g) 54 = c 54 := st1_ne (by decide)
  refine ⟨?_, ?_, ?_, ?_, ?_⟩
  · rw [crdF, put_ne (by decide), put_ne (by decide), put_ne (by decide), e50, e48, els, rd_D hgc n 0 _ (by omega), e48, e13, clD]
  · rw [crdF_n, e46, R.2.1]; exact nI_1 j
  · rw [e31]; exact nI_1 j
  · rw [crdF, put_no (by decide), put_ne (by decide), put_at, e50, e48, els, e46, R.2.2.2.1, e32]
  · intro i hi
    rw [crdF, put_ne (by decide), e50, e46, R.2.1, tcl_nI (by omega), e14, bits_S n hg hs]
    by_cases e : i = j
    · subst e; rw [put_at, pk_us]
    · rw [put_no e, pk_un e, put_ne (by decide), rdS_keep (by decide), e51]
      exact R.2.2.2.2 i (by omega)
theorem cl_ls (G : GX) (X : XC) {b : Nat} {m : CT} {ml : Nat → Nat → Int64} {r : Nat → Option AE} {n k : Nat} {s : Nat → Nat} {Qp : Option Value → AH → Prop} {u1 u2 : Nat} (hu : u1 = 0 ∧ u2 = 0) (hk : 2 ≤ k) (hk6 : k ≤ 6) (hs : ∀ i, i < k → s i < 6) (hrow : ∀ i, i < k → m 15 i = nI (s i)) (nxt : WA X G RX10 cX10_clears false none Qp 6 0 0 (HM b m ml r n) u1 u2 97 [some (.ref b), some (.int (nI k)), some (.int (lsM (m 13) s k k)), some (.int (nI (bS s k))), some (.int (nI k))] []) : ∀ (q i : Nat), i + q = k → WA X G RX10 cX10_clears false none Qp 6 0 0 (HM b m ml r n) u1 u2 46 [some (.ref b), some (.int (nI k)), some (.int (lsM (m 13) s k i)), some (.int (nI (bS s i))), some (.int (nI i))] [] := by
  obtain ⟨rfl, rfl⟩ := hu
  intro q
  induction q with
  | zero =>
    intro i hq
    have e9 : i = k := by omega
    subst e9
    refine A_iload dX10_clears_46 rfl ?_
    refine A_iload_n dX10_clears_48 rfl rfl ?_
    refine A_icmp_ge 97 dX10_clears_49 (by decide) (fun c49 => ?_) (fun c49 => ?_)
    · exact nxt
    · exact absurd (nI_le (Nat.le_refl _) (by omega)) c49
  | succ q ih =>
    intro i hq
    have hi : i < k := by omega
    have hn : (i + 1) % k < k := Nat.mod_lt _ (by omega)
    obtain ⟨hb1, hb2⟩ := bS_b (s := s) i (fun j hj => hs j (by omega))
    have si := hs i hi
    have sn := hs _ hn
    refine A_iload dX10_clears_46 rfl ?_
    refine A_iload_n dX10_clears_48 rfl rfl ?_
    refine A_icmp_ge 97 dX10_clears_49 (by decide) (fun c49 => ?_) (fun c49 => ?_)
    · exact absurd c49 (nI_ge hi (by omega))
    · refine A_iload_n dX10_clears_52 rfl rfl ?_
      refine A_aload_n dX10_clears_53 rfl rfl ?_
      refine A_aload_n dX10_clears_54 rfl rfl ?_
      refine A_get dX10_clears_55 f_X10_61 HM_at0 rfl ?_
      refine A_iload dX10_clears_58 rfl ?_
      refine A_ialdN dX10_clears_60 (HM_at (by decide)) (by omega) (by decide) ?_
      refine A_eqI (hrow i hi) ?_
      refine A_aload_n dX10_clears_61 rfl rfl ?_
      refine A_get dX10_clears_62 f_X10_61 HM_at0 rfl ?_
      refine A_iload dX10_clears_65 rfl ?_
      refine A_iconst (v := 1) dX10_clears_67 (by decide) ?_
      refine A_iadd dX10_clears_68 ?_
      refine A_iload_n dX10_clears_69 rfl rfl ?_
      refine A_irem dX10_clears_70 (nI_ne0 (by omega) (by omega)) ?_
      refine A_eqI (y := nI ((i + 1) % k)) (by rw [show nI i + 1 = nI (i + 1) from nI_1 i]; exact pk_rem (by omega) (by omega) (by omega)) ?_
      refine A_ialdN dX10_clears_71 (HM_at (by decide)) (by omega) (by decide) ?_
      refine A_eqI (hrow _ hn) ?_
      refine A_callVi dX10_clears_72 m_X10_400 cb_X10_debt (As := [_, _]) rfl HM_at0 rfl (k_debt G si sn) rfl ⟨by decide, by decide⟩ (Nat.le_of_ble_eq_true rfl) ⟨by decide, by decide⟩ (fun x72 h72 hq => ?_)
      obtain ⟨rfl, rfl⟩ := hq
      refine A_min dX10_clears_75 w_1328 (by decide) (Nat.le_of_ble_eq_true rfl) ⟨by decide, by decide⟩ ?_
      refine A_eqI (y := lsM (m 13) s k (i + 1)) rfl ?_
      refine A_istore_n (lv1 := [_, _, _, _, _]) dX10_clears_78 rfl (Nat.le_of_ble_eq_true rfl) rfl rfl ?_
      refine A_iload_n dX10_clears_79 rfl rfl ?_
      refine A_iconst (v := 1) dX10_clears_80 (by decide) ?_
      refine A_aload_n dX10_clears_81 rfl rfl ?_
      refine A_get dX10_clears_82 f_X10_61 HM_at0 rfl ?_
      refine A_iload dX10_clears_85 rfl ?_
      refine A_ialdN dX10_clears_87 (HM_at (by decide)) (by omega) (by decide) ?_
      refine A_eqI (hrow i hi) ?_
      refine A_ishl dX10_clears_88 ?_
      refine A_ior dX10_clears_89 ?_
      refine A_eqI (y := nI (bS s (i + 1))) (or6 _ hb1 (s i) si).1 ?_
      refine A_istore_n (lv1 := [_, _, _, _, _]) dX10_clears_90 rfl (Nat.le_of_ble_eq_true rfl) rfl rfl ?_
      refine A_inc 1 (lv1 := [_, _, _, _, _]) dX10_clears_91 rfl (by decide) rfl rfl ?_
      refine A_goto 46 dX10_clears_94 (by decide) ?_
      rw [nI_1]
      exact ih (i + 1) (by omega)

theorem cl_dd (G : GX) (X : XC) {b : Nat} {m : CT} {ml : Nat → Nat → Int64} {r : Nat → Option AE} {n k : Nat} {s : Nat → Nat} {Qp : Option Value → AH → Prop} {u1 u2 : Nat} {x y : Int32} (hu : u1 = 0 ∧ u2 = 0) (hk : 2 ≤ k) (hk6 : k ≤ 6) (hs : ∀ i, i < k → s i < 6) (hrow : ∀ i, i < k → m 15 i = nI (s i)) {T : Nat → Int32} (nxt : WA X G RX10 cX10_clears false none Qp 6 0 0 (HM b (st1 m 13 T) ml r n) u1 u2 143 [some (.ref b), some (.int (nI k)), some (.int x), some (.int y), some (.int (nI k))] []) : ∀ (q i : Nat) (g : Nat → Int32), i + q = k → forR (cdD s x k) i q g = T → WA X G RX10 cX10_clears false none Qp 6 0 0 (HM b (st1 m 13 g) ml r n) u1 u2 100 [some (.ref b), some (.int (nI k)), some (.int x), some (.int y), some (.int (nI i))] [] := by
  obtain ⟨rfl, rfl⟩ := hu
  intro q
  induction q with
  | zero =>
    intro i g hq hT
    have e9 : i = k := by omega
    subst e9
    refine A_iload dX10_clears_100 rfl ?_
    refine A_iload_n dX10_clears_102 rfl rfl ?_
    refine A_icmp_ge 143 dX10_clears_103 (by decide) (fun c103 => ?_) (fun c103 => ?_)
    · rw [show g = T from hT]
      exact nxt
    · exact absurd (nI_le (Nat.le_refl _) (by omega)) c103
  | succ q ih =>
    intro i g hq hT
    have hi : i < k := by omega
    have hn : (i + 1) % k < k := Nat.mod_lt _ (by omega)
    have si := hs i hi
    have sn := hs _ hn
    have e15 : (st1 m 13 g) 15 = m 15 := st1_ne (by decide)
    refine A_iload dX10_clears_100 rfl ?_
    refine A_iload_n dX10_clears_102 rfl rfl ?_
    refine A_icmp_ge 143 dX10_clears_103 (by decide) (fun c103 => ?_) (fun c103 => ?_)
    · exact absurd c103 (nI_ge hi (by omega))
    · refine A_aload_n dX10_clears_106 rfl rfl ?_
      refine A_get dX10_clears_107 f_X10_55 HM_at0 rfl ?_
      refine A_bipush (v := 6) dX10_clears_110 (by decide) ?_
      refine A_aload_n dX10_clears_112 rfl rfl ?_
      refine A_get dX10_clears_113 f_X10_61 HM_at0 rfl ?_
      refine A_iload dX10_clears_116 rfl ?_
      refine A_ialdN dX10_clears_118 (HM_at (by decide)) (by omega) (by decide) ?_
      refine A_eqI (y := nI (s i)) (by rw [e15]; exact hrow i hi) ?_
      refine A_imul dX10_clears_119 ?_
      refine A_aload_n dX10_clears_120 rfl rfl ?_
      refine A_get dX10_clears_121 f_X10_61 HM_at0 rfl ?_
      refine A_iload dX10_clears_124 rfl ?_
      refine A_iconst (v := 1) dX10_clears_126 (by decide) ?_
      refine A_iadd dX10_clears_127 ?_
      refine A_iload_n dX10_clears_128 rfl rfl ?_
      refine A_irem dX10_clears_129 (nI_ne0 (by omega) (by omega)) ?_
      refine A_eqI (y := nI ((i + 1) % k)) (by rw [show nI i + 1 = nI (i + 1) from nI_1 i]; exact pk_rem (by omega) (by omega) (by omega)) ?_
      refine A_ialdN dX10_clears_130 (HM_at (by decide)) (by omega) (by decide) ?_
      refine A_eqI (y := nI (s ((i + 1) % k))) (by rw [e15]; exact hrow _ hn) ?_
      refine A_iadd dX10_clears_131 ?_
      refine A_eqI (y := nI (6 * s i + s ((i + 1) % k))) (by rw [show (6 : Int32) = nI 6 from rfl, pk_mul, nI_add]) ?_
      refine A_dup2 dX10_clears_132 rfl rfl ?_
      refine A_ialdN dX10_clears_133 (HM_at (by decide)) (by omega) (by decide) ?_
      rw [st1_eq]
      refine A_iload_n dX10_clears_134 rfl rfl ?_
      refine A_isub dX10_clears_135 ?_
      refine A_iastMN dX10_clears_136 (by decide) (fun _ => rfl) (by omega) (by decide) ?_
      refine A_inc 1 (lv1 := [_, _, _, _, _]) dX10_clears_137 rfl (by decide) rfl rfl ?_
      refine A_goto 100 dX10_clears_140 (by decide) ?_
      rw [nI_1, st1M]
      exact ih (i + 1) _ (by omega) hT

def RES (D : Nat → Int32) (nv : Nat) (x9 : Int32) (g : Nat → Int32) : Prop := (x9 = -1 ∧ ∀ k, 2 ≤ k → k ≤ nv → ∀ u, ¬ VR D nv k u) ∨ ∃ k, x9 = nI k ∧ 2 ≤ k ∧ k ≤ nv ∧ (∀ j, 2 ≤ j → j < k → ∀ u, ¬ VR D nv j u) ∧ isN g k ∧ VR D nv k (tg g) ∧ ∀ u, VR D nv k u → cdF (nv - 1) (tg g) k ≤ cdF (nv - 1) u k
theorem CRel.c50 {j : Nat} {c m : CT} {g : Nat → Int32} (R : CRel j c m) : CRel j (st1 c 53 g) m := by
  unfold CRel
  rw [st1_ne (show (50 : Nat) ≠ 53 by decide), st1_ne (show (46 : Nat) ≠ 53 by decide), st1_ne (show (54 : Nat) ≠ 53 by decide)]
  exact R
theorem CRel.m15 {j : Nat} {c m : CT} {g : Nat → Int32} (R : CRel j c m) : CRel j c (st1 m 15 g) := by
  unfold CRel
  rw [st1_ne (show (13 : Nat) ≠ 15 by decide), st1_ne (show (0 : Nat) ≠ 15 by decide), st1_ne (show (14 : Nat) ≠ 15 by decide)]
  exact R
theorem crR_no {nv k j : Nat} {c m : CT} (hv6 : nv ≤ 6) (no : ∀ n, 2 ≤ n → n ≤ nv → ∀ s, ¬ VR (m 13) nv n s) (R : CRel j c m) : CRel j (crR nv k c) m := by
  cases k with
  | zero => exact R
  | succ k =>
    have e0 : (frF (c 50) nv (nv - 1) 2 (c 53)).1 = 0 := by
      by_cases z : nv = 0
      · subst z; rfl
      · rw [R.1]
        rcases frF_sp (d := m 13) hv6 (nv - 1) 2 (c 53) (by omega) (by omega) with ⟨h, _⟩ | ⟨a, b, _, d, _⟩
        · exact h
        · exact absurd d.1 (no _ a b _)
    rw [crR, if_pos e0]
    exact R.c50
theorem crR_yes {nv k j n : Nat} {c m : CT} {g : Nat → Int32} (hv6 : nv ≤ 6) (h2 : 2 ≤ n) (hnv : n ≤ nv) (less : ∀ j, 2 ≤ j → j < n → ∀ u, ¬ VR (m 13) nv j u) (hV : VR (m 13) nv n (tg g)) (least : ∀ u, VR (m 13) nv n u → cdF (nv - 1) (tg g) n ≤ cdF (nv - 1) u n) (R : CRel j c m) : ∃ g1, crR nv (k + 1) c = crR nv k (crdF n (st1 c 53 g1)) ∧ ∀ i, i < n → g1 i = nI (tg g i) := by
  rcases frF_sp (d := c 50) hv6 (nv - 1) 2 (c 53) (by omega) (by omega) with ⟨_, h⟩ | ⟨a, b, c3, d, e⟩
  · rw [R.1] at h
    exact absurd hV (h n h2 hnv _)
  · have d1 := d.1
    rw [R.1] at a b c3 d e d1
    have en : (frF (m 13) nv (nv - 1) 2 (c 53)).1 = n := by
      rcases Nat.lt_trichotomy (frF (m 13) nv (nv - 1) 2 (c 53)).1 n with z | z | z
      · exact absurd d1 (less _ a z _)
      · exact z
      · exact absurd hV (c3 n h2 z _)
    refine ⟨(frF (m 13) nv (nv - 1) 2 (c 53)).2, ?_, fun i hi => ?_⟩
    · rw [crR, R.1, if_neg (by omega), en]
    · have h1 := e i (by omega)
      rw [en] at d
      have h3 := Best_one (by omega) d hV least i hi
      rw [h1, h3]; rfl
theorem m4_f {m : CT} {T : Nat → Int32} {j : Nat} {B y z : Int32} : put (put (put (st1 m 13 T) 14 j B) 0 31 y) 0 32 z 13 = T ∧ put (put (put (st1 m 13 T) 14 j B) 0 31 y) 0 32 z 14 = upd (m 14) j B ∧ put (put (put (st1 m 13 T) 14 j B) 0 31 y) 0 32 z 0 31 = y ∧ put (put (put (st1 m 13 T) 14 j B) 0 31 y) 0 32 z 0 32 = z ∧ put (put (put (st1 m 13 T) 14 j B) 0 31 y) 0 32 z 1 = m 1 ∧ kM m (put (put (put (st1 m 13 T) 14 j B) 0 31 y) 0 32 z) := by
  refine ⟨?_, ?_, ?_, ?_, ?_, fun l x q => ?_, fun j x => ?_⟩
  · rw [put_ne (by decide), put_ne (by decide), put_ne (by decide), st1_eq]
  · rw [put_ne (by decide), put_ne (by decide)]
    funext i
    by_cases e : i = j
    · subst e; rw [put_at, pk_us]
    · rw [put_no e, pk_un e, st1_ne (by decide)]
  · rw [put_no (by decide), put_at]
  · rw [put_at]
  · rw [put_ne (by decide), put_ne (by decide), put_ne (by decide), st1_ne (by decide)]
  · rw [put_ne x, put_ne x, put_ne (by omega), st1_ne (by omega)]
  · rw [put_no (by omega), put_no (by omega), put_ne (by decide), st1_ne (by decide)]
theorem kM.t15 {m m1 : CT} {g : Nat → Int32} (h : kM m m1) : kM m (st1 m1 15 g) := h.tr ⟨fun l x y => st1_ne (by omega), fun j _ => by rw [st1_ne (by decide)]⟩
theorem cl_run (G : GX) (X : XC) {b : Nat} {m0 : CT} {ml : Nat → Nat → Int64} {r : Nat → Option AE} {n nv nc nf nl wk : Nat} {u1 u2 : Nat} (hu : u1 = 0 ∧ u2 = 0) : ∀ (k j : Nat) (c m : CT) (x9 : Int32) (l2 l3 l4 : Option Value), IM m nv nc nf nl wk → j + k ≤ 8 → pcn (m 13) 36 ≤ k → DOk (m 13) → kM m0 m → CRel j c m → RES (m 13) nv x9 (m 15) → WA X G RX10 cX10_clears false none (qV fun h1 => ∃ m1, h1 = HM b m1 ml r n ∧ kM m0 m1 ∧ ∃ J, J ≤ 8 ∧ CRel J (crR nv k c) m1) 6 0 0 (HM b m ml r n) u1 u2 19 [some (.ref b), some (.int x9), l2, l3, l4] [] := by
  obtain ⟨rfl, rfl⟩ := hu
  intro k
  induction k with
  | zero =>
    intro j c m x9 l2 l3 l4 hI hj hp hD hk R hres
    have hv6 : nv ≤ 6 := by obtain ⟨hv, hv6, _⟩ := hI; exact hv6
    rcases hres with ⟨rfl, no⟩ | ⟨q, rfl, h2, hnv, hless, hN, hV, hleast⟩
    · refine A_iload_n dX10_clears_19 rfl rfl ?_
      refine A_iconst (v := (-1)) dX10_clears_20 (by decide) ?_
      refine A_icmp_eq 183 dX10_clears_21 (by decide) (fun c21 => ?_) (fun c21 => ?_)
      · exact A_vret dX10_clears_183 ⟨_, rfl, hk, j, by omega, crR_no hv6 no R⟩ ⟨by decide, by decide⟩
      · exact absurd rfl c21
    · have := pcn_VR hD hv6 h2 hV
      omega
  | succ k ih =>
    intro j c m x9 l2 l3 l4 hI hj hp hD hk R hres
    have hv6 : nv ≤ 6 := by obtain ⟨hv, hv6, _⟩ := hI; exact hv6
    rcases hres with ⟨rfl, no⟩ | ⟨q, rfl, h2, hnv, hless, hN, hV, hleast⟩
    · refine A_iload_n dX10_clears_19 rfl rfl ?_
      refine A_iconst (v := (-1)) dX10_clears_20 (by decide) ?_
      refine A_icmp_eq 183 dX10_clears_21 (by decide) (fun c21 => ?_) (fun c21 => ?_)
      · exact A_vret dX10_clears_183 ⟨_, rfl, hk, j, by omega, crR_no hv6 no R⟩ ⟨by decide, by decide⟩
      · exact absurd rfl c21
    · obtain ⟨g1, eC, hg1⟩ := crR_yes (k := k) hv6 h2 hnv hless hV hleast R
      rw [eC]
      have hs : ∀ i, i < q → tg (m 15) i < 6 := fun i hi => by have := hV.1 i hi; omega
      have hrow : ∀ i, i < q → m 15 i = nI (tg (m 15) i) := hN
      have s0 := hs 0 (by omega)
      have s1 := hs 1 (by omega)
      obtain ⟨hD2, hp2⟩ := cd_ok hD hv6 h2 hV
      refine A_iload_n dX10_clears_19 rfl rfl ?_
      refine A_iconst (v := (-1)) dX10_clears_20 (by decide) ?_
      refine A_icmp_eq 183 dX10_clears_21 (by decide) (fun c21 => ?_) (fun c21 => ?_)
      · exact absurd c21 (n1_ne (by omega))
      · refine A_aload_n dX10_clears_24 rfl rfl ?_
        refine A_aload_n dX10_clears_25 rfl rfl ?_
        refine A_get dX10_clears_26 f_X10_61 HM_at0 rfl ?_
        refine A_iconst (v := 0) dX10_clears_29 (by decide) ?_
        refine A_ialdK (i := 0) dX10_clears_30 (HM_at (by decide)) rfl (by omega) (by decide) ?_
        refine A_eqI (hrow 0 (by omega)) ?_
        refine A_aload_n dX10_clears_31 rfl rfl ?_
        refine A_get dX10_clears_32 f_X10_61 HM_at0 rfl ?_
        refine A_iconst (v := 1) dX10_clears_35 (by decide) ?_
        refine A_ialdK (i := 1) dX10_clears_36 (HM_at (by decide)) rfl (by omega) (by decide) ?_
        refine A_eqI (hrow 1 (by omega)) ?_
        refine A_callVi dX10_clears_37 m_X10_400 cb_X10_debt (As := [_, _]) rfl HM_at0 rfl (k_debt G s0 s1) rfl ⟨by decide, by decide⟩ (Nat.le_of_ble_eq_true rfl) ⟨by decide, by decide⟩ (fun x37 h37 hq => ?_)
        obtain ⟨rfl, rfl⟩ := hq
        refine A_eqI (y := lsM (m 13) (tg (m 15)) q 0) rfl ?_
        refine A_istore_n (lv1 := [_, _, _, _, _]) dX10_clears_40 rfl (Nat.le_of_ble_eq_true rfl) rfl rfl ?_
        refine A_iconst (v := 0) dX10_clears_41 (by decide) ?_
        refine A_istore_n (lv1 := [_, _, _, _, _]) dX10_clears_42 rfl (Nat.le_of_ble_eq_true rfl) rfl rfl ?_
        refine A_iconst (v := 0) dX10_clears_43 (by decide) ?_
        refine A_istore (lv1 := [_, _, _, _, _]) dX10_clears_44 (Nat.le_of_ble_eq_true rfl) rfl rfl ?_
        refine cl_ls G X (s := tg (m 15)) ⟨rfl, rfl⟩ h2 (by omega) hs hrow ?_ q 0 (by omega)
        refine A_iconst (v := 0) dX10_clears_97 (by decide) ?_
        refine A_istore (lv1 := [_, _, _, _, _]) dX10_clears_98 (Nat.le_of_ble_eq_true rfl) rfl rfl ?_
        rw [show HM b m ml r n = HM b (st1 m 13 (m 13)) ml r n by rw [st1_self]]
        refine cl_dd G X (s := tg (m 15)) ⟨rfl, rfl⟩ h2 (by omega) hs hrow (T := clD (m 13) (tg (m 15)) q) ?_ q 0 (m 13) (by omega) rfl
        refine A_aload_n dX10_clears_143 rfl rfl ?_
        refine A_get dX10_clears_144 f_X10_58 HM_at0 rfl ?_
        refine A_aload_n dX10_clears_147 rfl rfl ?_
        refine A_get dX10_clears_148 f_X10_412 HM_at0 rfl ?_
        refine A_eqI (y := nI j) (by rw [st1_ne (by decide)]; exact R.2.2.1) ?_
        refine A_iload_n dX10_clears_151 rfl rfl ?_
        refine A_iastMN dX10_clears_152 (by decide) (fun _ => rfl) (by omega) (by decide) ?_
        refine A_aload_n dX10_clears_153 rfl rfl ?_
        refine A_dup dX10_clears_154 rfl ?_
        refine A_get dX10_clears_155 f_X10_412 HM_at0 rfl ?_
        refine A_eqI (y := nI j) (by rw [put_ne (by decide), st1_ne (by decide)]; exact R.2.2.1) ?_
        refine A_iconst (v := 1) dX10_clears_158 (by decide) ?_
        refine A_iadd dX10_clears_159 ?_
        refine A_eqI (y := nI j + 1) rfl ?_
        refine A_putM0 dX10_clears_160 p_X10_412 rfl (Nat.le_of_ble_eq_true rfl) rfl ?_
        refine A_aload_n dX10_clears_163 rfl rfl ?_
        refine A_dup dX10_clears_164 rfl ?_
        refine A_get dX10_clears_165 f_X10_415 HM_at0 rfl ?_
        refine A_eqI (y := m 0 32) (by rw [put_no (by decide), put_ne (by decide), st1_ne (by decide)]) ?_
        refine A_iload_n dX10_clears_168 rfl rfl ?_
        refine A_iload_n dX10_clears_169 rfl rfl ?_
        refine A_imul dX10_clears_170 ?_
        refine A_iadd dX10_clears_171 ?_
        refine A_putM0 dX10_clears_172 p_X10_415 rfl (Nat.le_of_ble_eq_true rfl) rfl ?_
        refine A_aload_n dX10_clears_175 rfl rfl ?_
        obtain ⟨f13, f14, f31, f32, f1, fk⟩ := m4_f (m := m) (T := clD (m 13) (tg (m 15)) q) (j := j) (B := nI (bS (tg (m 15)) q)) (y := nI j + 1) (z := m 0 32 + lsM (m 13) (tg (m 15)) q q * nI q)
        generalize hm4 : put (put (put (st1 m 13 (clD (m 13) (tg (m 15)) q)) 14 j (nI (bS (tg (m 15)) q))) 0 31 (nI j + 1)) 0 32 (m 0 32 + lsM (m 13) (tg (m 15)) q q * nI q) = m4 at f13 f14 f31 f32 f1 fk ⊢
        have f13b : (m4 13) = forR (cdD (tg (m 15)) (lsM (m 13) (tg (m 15)) q q) q) 0 q (m 13) := f13
        rw [← f13b] at hD2 hp2
        refine A_callVi dX10_clears_176 m_X10_418 cb_X10_ringSize (As := []) rfl HM_at0 rfl (k_ringSize G (hI.to f1) hD2) rfl ⟨by decide, by decide⟩ (Nat.le_of_ble_eq_true rfl) ⟨by decide, by decide⟩ (fun x176 h176 hq => ?_)
        obtain ⟨g2, rfl, hres2⟩ := hq
        refine A_istore_n (lv1 := [_, _, _, _, _]) dX10_clears_179 rfl (Nat.le_of_ble_eq_true rfl) rfl rfl ?_
        refine A_goto 19 dX10_clears_180 (by decide) ?_
        have w13 : (st1 m4 15 g2) 13 = m4 13 := st1_ne (by decide)
        refine ih (j + 1) (crdF q (st1 c 53 g1)) (st1 m4 15 g2) _ _ _ _ (hI.to ((st1_ne (by decide)).trans f1)) (by omega) (by rw [w13]; omega) (by rw [w13]; exact hD2) (hk.tr fk.t15) (crd_R R (by omega) h2 hg1 hs f13 f31 f32 f14).m15 (by rw [w13, st1_eq]; exact hres2)

theorem m5_f {m c : CT} {D : Nat → Int32} : put (put (st1 (runM 7 m) 13 D) 0 31 0) 0 32 0 13 = D ∧ put (put (st1 (runM 7 m) 13 D) 0 31 0) 0 32 0 0 31 = 0 ∧ put (put (st1 (runM 7 m) 13 D) 0 31 0) 0 32 0 0 32 = 0 ∧ put (put (st1 (runM 7 m) 13 D) 0 31 0) 0 32 0 1 = m 1 ∧ kM m (put (put (st1 (runM 7 m) 13 D) 0 31 0) 0 32 0) := by
  have hk : kM m (st1 (runM 7 m) 13 D) := sameD13
  refine ⟨?_, ?_, ?_, ?_, fun l x q => ?_, fun j x => ?_⟩
  · rw [put_ne (by decide), put_ne (by decide), st1_eq]
  · rw [put_no (by decide), put_at]
  · rw [put_at]
  · rw [put_ne (by decide), put_ne (by decide)]; exact hk.1 1 (by decide) (by decide)
  · rw [put_ne x, put_ne x]; exact hk.1 l x q
  · rw [put_no (by omega), put_no (by omega)]; exact hk.2 j x
theorem cr_0 {c m : CT} (e : m 13 = dRow c) (e1 : m 0 31 = 0) (e2 : m 0 32 = 0) : CRel 0 (put (put (st1 (dbF c) 50 (dbF c 48)) 46 7 0) 46 8 0) m := by
  refine ⟨?_, ?_, e1, ?_, fun i h => absurd h (by omega)⟩
  · rw [put_ne (by decide), put_ne (by decide), st1_eq, e, dRow_e]
  · rw [put_no (by decide), put_at]; rfl
  · rw [put_at, e2]
theorem k_clears (G : GX) {b : Nat} {c m : CT} {ml : Nat → Nat → Int64} {r : Nat → Option AE} {n : Nat} {nv nc nf nl wk : Nat} (h : BL nv nc nf nl wk c m) : MA G 6 yX10_clears cX10_clears 5 none 0 0 [.ref b] (HM b m ml r n) (qV fun h1 => ∃ m1, h1 = HM b m1 ml r n ∧ kM m m1 ∧ ∃ J, J ≤ 8 ∧ CRel J (clearF (dbF c)) m1) := by
  refine MA.of (own := RX10) false [some (.ref b), none, none, none, none] (by decide +kernel) rfl (fun h => by cases h) (Nat.le_of_ble_eq_true rfl) rfl (fun X => ?_)
  have hX := h.ix
  obtain ⟨xv, xv6, xc, xc8, xf, xf3, xl, xl8, xw, xw30, xC, xL⟩ := id hX
  have hI := h.im
  obtain ⟨hv, hv6, hc, hc8, hf, hf3, hl, hl8, hw, hw30, gC, gL⟩ := id hI
  have hT := h.tm
  refine A_aload_n dX10_clears_0 rfl rfl ?_
  refine A_callVv dX10_clears_1 m_X10_409 cb_X10_fillDebts (As := []) rfl HM_at0 rfl (k_fillDebts G h) rfl ⟨by decide, by decide⟩ (Nat.le_of_ble_eq_true rfl) ⟨by decide, by decide⟩ (fun h1 hq => ?_)
  obtain rfl := hq
  refine A_aload_n dX10_clears_4 rfl rfl ?_
  refine A_iconst (v := 0) dX10_clears_5 (by decide) ?_
  refine A_putM0 dX10_clears_6 p_X10_412 rfl (Nat.le_of_ble_eq_true rfl) rfl ?_
  refine A_aload_n dX10_clears_9 rfl rfl ?_
  refine A_iconst (v := 0) dX10_clears_10 (by decide) ?_
  refine A_putM0 dX10_clears_11 p_X10_415 rfl (Nat.le_of_ble_eq_true rfl) rfl ?_
  refine A_aload_n dX10_clears_14 rfl rfl ?_
  obtain ⟨f13, f31, f32, f1, fk⟩ := m5_f (m := m) (c := c) (D := dRow c)
  generalize hm5 : put (put (st1 (runM 7 m) 13 (dRow c)) 0 31 0) 0 32 0 = m5 at f13 f31 f32 f1 fk ⊢
  refine A_callVi dX10_clears_15 m_X10_418 cb_X10_ringSize (As := []) rfl HM_at0 rfl (k_ringSize G (hI.to f1) (by rw [f13]; exact dRow_ok h)) rfl ⟨by decide, by decide⟩ (Nat.le_of_ble_eq_true rfl) ⟨by decide, by decide⟩ (fun x15 h15 hq => ?_)
  obtain ⟨g2, rfl, hres2⟩ := hq
  refine A_istore_n (lv1 := [_, _, _, _, _]) dX10_clears_18 rfl (Nat.le_of_ble_eq_true rfl) rfl rfl ?_
  have w13 : (st1 m5 15 g2) 13 = m5 13 := st1_ne (by decide)
  have e7 : tcl (dbF c 7 2) = nv := by rw [dbF_D 7 (by decide)]; exact hX.nvf.1
  rw [clearF, e7]
  exact cl_run G X ⟨rfl, rfl⟩ 8 0 _ (st1 m5 15 g2) _ _ _ _ (hI.to ((st1_ne (by decide)).trans f1)) (by omega) (by rw [w13, f13]; exact pcn_row h) (by rw [w13, f13]; exact dRow_ok h) fk.t15 (cr_0 f13 f31 f32).m15 (by rw [w13, st1_eq]; exact hres2)
