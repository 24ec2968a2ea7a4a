/-! THE REFERENCE: melons, share, more, takes -/
def fcF (m : CT) (v : Int32) : Nat → Nat → Int32
  | _, 0 => -1
  | i, k + 1 => if m 1 (38 + 5 * i + 0) = v then nI i else fcF m v (i + 1) k
theorem fc_sim {nv nc nf nl wk : Nat} {c m : CT} (h : BL nv nc nf nl wk c m) (v : Int32) : ∀ (k i : Nat), i + k = nc → (fcF m v i k = -1 ∧ fdF c v i k = 0) ∨ ∃ j, j < nc ∧ fcF m v i k = nI j ∧ fdF c v i k = m 1 (38 + 5 * j + 1) ∧ 1 ≤ (m 1 (38 + 5 * j + 1)).toInt ∧ (m 1 (38 + 5 * j + 1)).toInt ≤ 99
  | 0, i, _ => Or.inl ⟨rfl, rfl⟩
  | k + 1, i, hk => by
    rw [fcF, fdF, h.sp.2.1 i (by omega) 0 (by decide)]
    by_cases e : m 1 (38 + 5 * i + 0) = v
    · rw [if_pos e, if_pos e]
      have e1 := h.sp.2.1 i (by omega) 1 (by decide)
      have e2 := (h.pr.2.1 i (by omega)).1
      rw [e1] at e2
      exact Or.inr ⟨i, by omega, rfl, e1, e2⟩
    · rw [if_neg e, if_neg e]
      exact fc_sim h v k (i + 1) (by omega)
def lnM (m : CT) (v : Int32) : Nat → Int32
  | 0 => 0
  | i + 1 => lnM m v i + (if m 1 (117 + 5 * i + 1) = v then m 10 (3 * i + 1) - m 10 (3 * i + 2) else 0)
def flM (m : CT) (v s : Int32) : Nat → Int32
  | 0 => s
  | i + 1 => flM m v s i + (if m 1 (157 + i) = v then m 9 (3 * i + 1) - m 9 (3 * i + 2) else 0)
theorem ln_sim {nv nc nf nl wk fl : Nat} {y m : CT} (S : SimY nv nc nf nl fl wk y m) (v : Int32) : ∀ k, k ≤ nl → lnM m v k = lnF y v k
  | 0, _ => rfl
  | k + 1, hk => by
    rw [lnM, lnF, ln_sim S v k (by omega), S.s4 k (by omega) 1 (by decide), S.d6 k (by omega), S.d7 k (by omega)]
    split
    · rfl
    · rw [Int32.add_zero]
theorem fl_sim {nv nc nf nl wk fl : Nat} {y m : CT} (S : SimY nv nc nf nl fl wk y m) (ht : ∀ i, i < nf → y 12 (4 * i + 3) = m 1 (157 + i)) (v s : Int32) : ∀ k, k ≤ nf → flM m v s k = flF y v s k
  | 0, _ => rfl
  | k + 1, hk => by
    rw [flM, flF, fl_sim S ht v s k (by omega), ht k (by omega), S.d3 k (by omega), S.d4 k (by omega)]
    split
    · rfl
    · rw [Int32.add_zero]
theorem k_firstCrop (G : GX) {b : Nat} {m : CT} {ml : Nat → Nat → Int64} {r : Nat → Option AE} {n : Nat} {nv nc nf nl wk : Nat} {v : Int32} (hI : IM m nv nc nf nl wk) : MA G 1 yX10_firstCrop cX10_firstCrop 3 (some .int) 0 0 [.ref b, .int v] (HM b m ml r n) (qI fun x9 h1 => x9 = fcF m v 0 nc ∧ h1 = HM b m ml r n) := by
  refine MA.of (own := RX10) false [some (.ref b), some (.int v), none] (by decide +kernel) rfl (fun h => by cases h) (Nat.le_of_ble_eq_true rfl) rfl (fun X => ?_)
  obtain ⟨hv, hv6, hc, hc8, hf, hf3, hl, hl8, hw, hw30, gC, gL⟩ := id hI
  have loop : ∀ (k i : Nat) , i + k = nc → (fcF m v i k = fcF m v 0 nc) → WA X G RX10 cX10_firstCrop false (some .int) (qI fun x9 h1 => x9 = fcF m v 0 nc ∧ h1 = HM b m ml r n) 1 0 0 (HM b m ml r n) 0 0 2 [some (.ref b), some (.int v), some (.int (nI i))] [] := by
    intro k
    induction k with
    | zero =>
      intro i  hk hp
      refine A_iload_n dX10_firstCrop_2 rfl rfl ?_
      refine A_aload_n dX10_firstCrop_3 rfl rfl ?_
      refine A_get dX10_firstCrop_4 f_X10_9 HM_at0 rfl ?_
      refine A_iconst (v := 1) dX10_firstCrop_7 (by decide) ?_
      refine A_ialdK (i := 1) dX10_firstCrop_8 (HM_at (by decide)) rfl (by omega) (by decide) ?_
      refine A_icmp_ge 30 dX10_firstCrop_9 (by decide) (fun c9 => ?_) (fun c9 => ?_)
      · refine A_iconst (v := (-1)) dX10_firstCrop_30 (by decide) ?_
        exact A_iret dX10_firstCrop_31 ⟨by rw [← hp, fcF], rfl⟩ ⟨by decide, by decide⟩
      · exact absurd (by rw [hc]; exact nI_le (by omega) (by omega)) c9
    | succ k ih =>
      intro i  hk hp
      have hi : i < nc := by omega
      refine A_iload_n dX10_firstCrop_2 rfl rfl ?_
      refine A_aload_n dX10_firstCrop_3 rfl rfl ?_
      refine A_get dX10_firstCrop_4 f_X10_9 HM_at0 rfl ?_
      refine A_iconst (v := 1) dX10_firstCrop_7 (by decide) ?_
      refine A_ialdK (i := 1) dX10_firstCrop_8 (HM_at (by decide)) rfl (by omega) (by decide) ?_
      refine A_icmp_ge 30 dX10_firstCrop_9 (by decide) (fun c9 => ?_) (fun c9 => ?_)
      · exact absurd c9 (by rw [hc]; exact nI_ge (by omega) (by omega))
      · refine A_aload_n dX10_firstCrop_12 rfl rfl ?_
        refine A_iload_n dX10_firstCrop_13 rfl rfl ?_
        refine A_iconst (v := 0) dX10_firstCrop_14 (by decide) ?_
        refine A_callVi dX10_firstCrop_15 m_X10_267 cb_X10_ofCrop (As := [_, _]) rfl HM_at0 rfl (k_ofCrop G 0 (by omega) (by decide)) rfl ⟨by decide, by decide⟩ (Nat.le_of_ble_eq_true rfl) ⟨by decide, by decide⟩ (fun x15 h15 hq => ?_)
        obtain ⟨rfl, rfl⟩ := hq
        refine A_iload_n dX10_firstCrop_18 rfl rfl ?_
        refine A_icmp_ne 24 dX10_firstCrop_19 (by decide) (fun c19 => ?_) (fun c19 => ?_)
        · refine A_inc 1 (lv1 := [_, _, _]) dX10_firstCrop_24 rfl (by decide) rfl rfl ?_
          refine A_goto 2 dX10_firstCrop_27 (by decide) ?_
          rw [nI_1]
          exact ih (i + 1) (by omega) (by rw [← hp, fcF, if_neg c19])
        · refine A_iload_n dX10_firstCrop_22 rfl rfl ?_
          exact A_iret dX10_firstCrop_23 ⟨by rw [← hp, fcF, if_pos c19], rfl⟩ ⟨by decide, by decide⟩
  refine A_iconst (v := 0) dX10_firstCrop_0 (by decide) ?_
  refine A_istore_n (lv1 := [_, _, _]) dX10_firstCrop_1 rfl (Nat.le_of_ble_eq_true rfl) rfl rfl ?_
  exact loop nc 0 (by omega) rfl

theorem melons_l2 (G : GX) (X : XC) {b : Nat} {m m0 : CT} {ml : Nat → Nat → Int64} {r : Nat → Option AE} {n : Nat} {nv nc nf nl wk j q : Nat} {A : Int32} {u1 u2 : Nat} (hu : u1 = 0 ∧ u2 = 0) (hI : IM m nv nc nf nl wk) (hq : q < nc) (hk0 : kM m0 m) (hd : 1 ≤ (m 1 (38 + 5 * q + 1)).toInt) (hA : (flM m (nI j) (lnM m (nI j) nl) nf + m 1 (38 + 5 * q + 1) - 1) / m 1 (38 + 5 * q + 1) = A) : ∀ k i : Nat, i + k = nf → WA X G RX10 cX10_melons false (some .int) (qI fun x9 h1 => x9 = A ∧ ∃ m1 ml1, h1 = HM b m1 ml1 r n ∧ KM m0 ml m1 ml1) 5 0 0 (HM b m ml r n) u1 u2 77 [some (.ref b), some (.int (nI j)), some (.int (nI q)), some (.int (flM m (nI j) (lnM m (nI j) nl) i)), some (.int (nI (i)))] [] := by
  obtain ⟨rfl, rfl⟩ := hu
  obtain ⟨hv, hv6, hc, hc8, hf, hf3, hl, hl8, hw, hw30, gC, gL⟩ := id hI
  have n0 : ¬ m 1 (38 + 5 * q + 1) = 0 := fun z => by rw [z] at hd; exact absurd hd (by decide)
  intro k
  induction k with
  | zero =>
    intro i hk
    have e9 : i = nf := by omega
    subst e9
    refine A_iload dX10_melons_77 rfl ?_
    refine A_aload_n dX10_melons_79 rfl rfl ?_
    refine A_get dX10_melons_80 f_X10_9 HM_at0 rfl ?_
    refine A_iconst (v := 2) dX10_melons_83 (by decide) ?_
    refine A_ialdK (i := 2) dX10_melons_84 (HM_at (by decide)) rfl (by omega) (by decide) ?_
    refine A_icmp_ge 122 dX10_melons_85 (by decide) (fun c85 => ?_) (fun c85 => ?_)
    · refine A_iload_n dX10_melons_122 rfl rfl ?_
      refine A_aload_n dX10_melons_123 rfl rfl ?_
      refine A_iload_n dX10_melons_124 rfl rfl ?_
      refine A_iconst (v := 1) dX10_melons_125 (by decide) ?_
      refine A_callVi dX10_melons_126 m_X10_267 cb_X10_ofCrop (As := [_, _]) rfl HM_at0 rfl (k_ofCrop G 1 (by omega) (by decide)) rfl ⟨by decide, by decide⟩ (Nat.le_of_ble_eq_true rfl) ⟨by decide, by decide⟩ (fun x126 h126 hq => ?_)
      obtain ⟨rfl, rfl⟩ := hq
      refine A_iadd dX10_melons_129 ?_
      refine A_iconst (v := 1) dX10_melons_130 (by decide) ?_
      refine A_isub dX10_melons_131 ?_
      refine A_aload_n dX10_melons_132 rfl rfl ?_
      refine A_iload_n dX10_melons_133 rfl rfl ?_
      refine A_iconst (v := 1) dX10_melons_134 (by decide) ?_
      refine A_callVi dX10_melons_135 m_X10_267 cb_X10_ofCrop (As := [_, _]) rfl HM_at0 rfl (k_ofCrop G 1 (by omega) (by decide)) rfl ⟨by decide, by decide⟩ (Nat.le_of_ble_eq_true rfl) ⟨by decide, by decide⟩ (fun x135 h135 hq => ?_)
      obtain ⟨rfl, rfl⟩ := hq
      refine A_idiv dX10_melons_138 n0 ?_
      exact A_iret dX10_melons_139 ⟨hA, _, _, rfl, hk0, rfl⟩ ⟨by decide, by decide⟩
    · exact absurd (by rw [hf]; exact nI_le (Nat.le_refl _) (by omega)) c85
  | succ k ih =>
    intro i hk
    refine A_iload dX10_melons_77 rfl ?_
    refine A_aload_n dX10_melons_79 rfl rfl ?_
    refine A_get dX10_melons_80 f_X10_9 HM_at0 rfl ?_
    refine A_iconst (v := 2) dX10_melons_83 (by decide) ?_
    refine A_ialdK (i := 2) dX10_melons_84 (HM_at (by decide)) rfl (by omega) (by decide) ?_
    refine A_icmp_ge 122 dX10_melons_85 (by decide) (fun c85 => ?_) (fun c85 => ?_)
    · exact absurd c85 (by rw [hf]; exact nI_ge (by omega) (by omega))
    · refine A_iload_n dX10_melons_88 rfl rfl ?_
      refine A_aload_n dX10_melons_89 rfl rfl ?_
      refine A_get dX10_melons_90 f_X10_9 HM_at0 rfl ?_
      refine A_sipush (v := 157) dX10_melons_93 (by decide) ?_
      refine A_iload dX10_melons_96 rfl ?_
      refine A_iadd dX10_melons_98 ?_
      refine A_ialdK (i := (157 + i)) dX10_melons_99 (HM_at (by decide)) (ixA rfl rfl) (by omega) (by decide) ?_
      refine A_iload_n dX10_melons_100 rfl rfl ?_
      refine A_icmp_ne 113 dX10_melons_101 (by decide) (fun c101 => ?_) (fun c101 => ?_)
      · refine A_iconst (v := 0) dX10_melons_113 (by decide) ?_
        refine A_iadd dX10_melons_114 ?_
        refine A_eqI (y := flM m (nI j) (lnM m (nI j) nl) (i + 1)) (by rw [flM, if_neg c101]) ?_
        refine A_istore_n (lv1 := [_, _, _, _, _]) dX10_melons_115 rfl (Nat.le_of_ble_eq_true rfl) rfl rfl ?_
        refine A_inc 1 (lv1 := [_, _, _, _, _]) dX10_melons_116 rfl (by decide) rfl rfl ?_
        refine A_goto 77 dX10_melons_119 (by decide) ?_
        rw [nI_1]
        exact ih (i + 1) (by omega)
      · refine A_aload_n dX10_melons_104 rfl rfl ?_
        refine A_iload dX10_melons_105 rfl ?_
        refine A_callVi dX10_melons_107 m_X10_297 cb_X10_shortOfFlood (As := [_]) rfl HM_at0 rfl (k_shortOfFlood G (by omega)) rfl ⟨by decide, by decide⟩ (Nat.le_of_ble_eq_true rfl) ⟨by decide, by decide⟩ (fun x107 h107 hq => ?_)
        obtain ⟨rfl, rfl⟩ := hq
        refine A_goto 114 dX10_melons_110 (by decide) ?_
        refine A_iadd dX10_melons_114 ?_
        refine A_eqI (y := flM m (nI j) (lnM m (nI j) nl) (i + 1)) (by rw [flM, if_pos c101]) ?_
        refine A_istore_n (lv1 := [_, _, _, _, _]) dX10_melons_115 rfl (Nat.le_of_ble_eq_true rfl) rfl rfl ?_
        refine A_inc 1 (lv1 := [_, _, _, _, _]) dX10_melons_116 rfl (by decide) rfl rfl ?_
        refine A_goto 77 dX10_melons_119 (by decide) ?_
        rw [nI_1]
        exact ih (i + 1) (by omega)

theorem melons_l1 (G : GX) (X : XC) {b : Nat} {m m0 : CT} {ml : Nat → Nat → Int64} {r : Nat → Option AE} {n : Nat} {nv nc nf nl wk j q : Nat} {A : Int32} {u1 u2 : Nat} (hu : u1 = 0 ∧ u2 = 0) (hI : IM m nv nc nf nl wk) (hq : q < nc) (hk0 : kM m0 m) (hd : 1 ≤ (m 1 (38 + 5 * q + 1)).toInt) (hA : (flM m (nI j) (lnM m (nI j) nl) nf + m 1 (38 + 5 * q + 1) - 1) / m 1 (38 + 5 * q + 1) = A) : ∀ k i : Nat, i + k = nl → WA X G RX10 cX10_melons false (some .int) (qI fun x9 h1 => x9 = A ∧ ∃ m1 ml1, h1 = HM b m1 ml1 r n ∧ KM m0 ml m1 ml1) 5 0 0 (HM b m ml r n) u1 u2 33 [some (.ref b), some (.int (nI j)), some (.int (nI q)), some (.int (lnM m (nI j) i)), some (.int (nI (i)))] [] := by
  obtain ⟨rfl, rfl⟩ := hu
  obtain ⟨hv, hv6, hc, hc8, hf, hf3, hl, hl8, hw, hw30, gC, gL⟩ := id hI
  have n0 : ¬ m 1 (38 + 5 * q + 1) = 0 := fun z => by rw [z] at hd; exact absurd hd (by decide)
  intro k
  induction k with
  | zero =>
    intro i hk
    have e9 : i = nl := by omega
    subst e9
    refine A_iload dX10_melons_33 rfl ?_
    refine A_aload_n dX10_melons_35 rfl rfl ?_
    refine A_get dX10_melons_36 f_X10_9 HM_at0 rfl ?_
    refine A_iconst (v := 3) dX10_melons_39 (by decide) ?_
    refine A_ialdK (i := 3) dX10_melons_40 (HM_at (by decide)) rfl (by omega) (by decide) ?_
    refine A_icmp_ge 74 dX10_melons_41 (by decide) (fun c41 => ?_) (fun c41 => ?_)
    · refine A_iconst (v := 0) dX10_melons_74 (by decide) ?_
      refine A_istore (lv1 := [_, _, _, _, _]) dX10_melons_75 (Nat.le_of_ble_eq_true rfl) rfl rfl ?_
      exact melons_l2 G X ⟨rfl, rfl⟩ hI hq hk0 hd hA nf 0 (by omega)
    · exact absurd (by rw [hl]; exact nI_le (Nat.le_refl _) (by omega)) c41
  | succ k ih =>
    intro i hk
    refine A_iload dX10_melons_33 rfl ?_
    refine A_aload_n dX10_melons_35 rfl rfl ?_
    refine A_get dX10_melons_36 f_X10_9 HM_at0 rfl ?_
    refine A_iconst (v := 3) dX10_melons_39 (by decide) ?_
    refine A_ialdK (i := 3) dX10_melons_40 (HM_at (by decide)) rfl (by omega) (by decide) ?_
    refine A_icmp_ge 74 dX10_melons_41 (by decide) (fun c41 => ?_) (fun c41 => ?_)
    · exact absurd c41 (by rw [hl]; exact nI_ge (by omega) (by omega))
    · refine A_iload_n dX10_melons_44 rfl rfl ?_
      refine A_aload_n dX10_melons_45 rfl rfl ?_
      refine A_iload dX10_melons_46 rfl ?_
      refine A_iconst (v := 1) dX10_melons_48 (by decide) ?_
      refine A_callVi dX10_melons_49 m_X10_261 cb_X10_ofLoan (As := [_, _]) rfl HM_at0 rfl (k_ofLoan G 1 (by omega) (by decide)) rfl ⟨by decide, by decide⟩ (Nat.le_of_ble_eq_true rfl) ⟨by decide, by decide⟩ (fun x49 h49 hq => ?_)
      obtain ⟨rfl, rfl⟩ := hq
      refine A_iload_n dX10_melons_52 rfl rfl ?_
      refine A_icmp_ne 65 dX10_melons_53 (by decide) (fun c53 => ?_) (fun c53 => ?_)
      · refine A_iconst (v := 0) dX10_melons_65 (by decide) ?_
        refine A_iadd dX10_melons_66 ?_
        refine A_eqI (y := lnM m (nI j) (i + 1)) (by rw [lnM, if_neg c53]) ?_
        refine A_istore_n (lv1 := [_, _, _, _, _]) dX10_melons_67 rfl (Nat.le_of_ble_eq_true rfl) rfl rfl ?_
        refine A_inc 1 (lv1 := [_, _, _, _, _]) dX10_melons_68 rfl (by decide) rfl rfl ?_
        refine A_goto 33 dX10_melons_71 (by decide) ?_
        rw [nI_1]
        exact ih (i + 1) (by omega)
      · refine A_aload_n dX10_melons_56 rfl rfl ?_
        refine A_iload dX10_melons_57 rfl ?_
        refine A_callVi dX10_melons_59 m_X10_300 cb_X10_shortOfLoan (As := [_]) rfl HM_at0 rfl (k_shortOfLoan G (by omega)) rfl ⟨by decide, by decide⟩ (Nat.le_of_ble_eq_true rfl) ⟨by decide, by decide⟩ (fun x59 h59 hq => ?_)
        obtain ⟨rfl, rfl⟩ := hq
        refine A_goto 66 dX10_melons_62 (by decide) ?_
        refine A_iadd dX10_melons_66 ?_
        refine A_eqI (y := lnM m (nI j) (i + 1)) (by rw [lnM, if_pos c53]) ?_
        refine A_istore_n (lv1 := [_, _, _, _, _]) dX10_melons_67 rfl (Nat.le_of_ble_eq_true rfl) rfl rfl ?_
        refine A_inc 1 (lv1 := [_, _, _, _, _]) dX10_melons_68 rfl (by decide) rfl rfl ?_
        refine A_goto 33 dX10_melons_71 (by decide) ?_
        rw [nI_1]
        exact ih (i + 1) (by omega)

theorem k_melons (G : GX) {b : Nat} {c m : CT} {ml : Nat → Nat → Int64} {r : Nat → Option AE} {n : Nat} {nv nc nf nl wk : Nat} {v : Int32} (h : BL nv nc nf nl wk c m) : MA G 5 yX10_melons cX10_melons 5 (some .int) 0 0 [.ref b, .int v] (HM b m ml r n) (qI fun x9 h1 => x9 = melonsA c nc nl nf v ∧ ∃ m1 ml1, h1 = HM b m1 ml1 r n ∧ KM m ml m1 ml1) := by
  refine MA.of (own := RX10) false [some (.ref b), some (.int v), none, none, none] (by decide +kernel) rfl (fun h => by cases h) (Nat.le_of_ble_eq_true rfl) rfl (fun X => ?_)
  have hX := h.ix
  obtain ⟨xv, xv6, xc, xc8, xf, xf3, xl, xl8, xw, xw30, xC, xL⟩ := id hX
  have hI := h.im
  obtain ⟨hv, hv6, hc, hc8, hf, hf3, hl, hl8, hw, hw30, gC, gL⟩ := id hI
  have hT := h.tm
  refine A_aload_n dX10_melons_0 rfl rfl ?_
  refine A_iload_n dX10_melons_1 rfl rfl ?_
  refine A_callVi dX10_melons_2 m_X10_93 cb_X10_isVillage (As := [_]) rfl HM_at0 rfl (k_isVillage G hv (by omega)) rfl ⟨by decide, by decide⟩ (Nat.le_of_ble_eq_true rfl) ⟨by decide, by decide⟩ (fun x2 h2 hq => ?_)
  obtain ⟨rfl, rfl⟩ := hq
  refine A_if_ne 11 dX10_melons_5 (by decide) (fun c5 => ?_) (fun c5 => ?_)
  · obtain ⟨j, hj, rfl⟩ := inI_of rfl c5 (by omega)
    obtain ⟨F, hF⟩ : ∃ F, fcF m (nI j) 0 nc = F := ⟨_, rfl⟩
    have hfc := fc_sim h (nI j) nc 0 (by omega)
    rw [hF] at hfc
    refine A_aload_n dX10_melons_11 rfl rfl ?_
    refine A_iload_n dX10_melons_12 rfl rfl ?_
    refine A_callVi dX10_melons_13 m_X10_443 cb_X10_firstCrop (As := [_]) rfl HM_at0 rfl (k_firstCrop G hI) rfl ⟨by decide, by decide⟩ (Nat.le_of_ble_eq_true rfl) ⟨by decide, by decide⟩ (fun x13 h13 hq => ?_)
    obtain ⟨rfl, rfl⟩ := hq
    refine A_eqI hF ?_
    refine A_istore_n (lv1 := [_, _, _, _, _]) dX10_melons_16 rfl (Nat.le_of_ble_eq_true rfl) rfl rfl ?_
    refine A_iload_n dX10_melons_17 rfl rfl ?_
    refine A_iconst (v := (-1)) dX10_melons_18 (by decide) ?_
    refine A_icmp_ne 24 dX10_melons_19 (by decide) (fun c19 => ?_) (fun c19 => ?_)
    · obtain ⟨q, hq, hFq, hfd, hd1, hd2⟩ := hfc.resolve_left (fun z => c19 z.1)
      subst hFq
      refine A_aload_n dX10_melons_24 rfl rfl ?_
      refine A_callVv dX10_melons_25 m_X10_317 cb_X10_year (As := []) rfl HM_at0 rfl (k_year G hI hT) rfl ⟨by decide, by decide⟩ (Nat.le_of_ble_eq_true rfl) ⟨by decide, by decide⟩ (fun h25 hq_ => ?_)
      obtain rfl := hq_
      obtain ⟨S, D⟩ := yr_sim h
      refine A_iconst (v := 0) dX10_melons_28 (by decide) ?_
      refine A_istore_n (lv1 := [_, _, _, _, _]) dX10_melons_29 rfl (Nat.le_of_ble_eq_true rfl) rfl rfl ?_
      refine A_iconst (v := 0) dX10_melons_30 (by decide) ?_
      refine A_istore (lv1 := [_, _, _, _, _]) dX10_melons_31 (Nat.le_of_ble_eq_true rfl) rfl rfl ?_
      have e1 : runM 7 m 1 = m 1 := runM_R.w
      refine melons_l1 G X ⟨rfl, rfl⟩ (hI.to e1) hq runM_k (by rw [e1]; exact hd1) ?_ nl 0 (by omega)
      have ht : ∀ i, i < nf → yrF c 12 (4 * i + 3) = runM 7 m 1 (157 + i) := fun i hi => by rw [e1, yrF_l (by decide)]; exact h.tk i hi
      rw [fl_sim S ht _ _ nf (Nat.le_refl _), ln_sim S _ nl (Nat.le_refl _), e1, melonsA, xv, if_neg c5, hfd, if_pos (by rw [Int32.le_iff_toInt_le]; exact hd1), soF]
    · refine A_iconst (v := (-1)) dX10_melons_22 (by decide) ?_
      exact A_iret dX10_melons_23 ⟨by rw [melonsA, xv, if_neg c5, if_neg]; intro z; rcases hfc with ⟨_, e⟩ | ⟨q, hq, hFq, _, _, _⟩; (rw [e] at z; exact absurd z (by decide)); (rw [c19] at hFq; have e := congrArg Int32.toInt hFq; rw [nI_toInt (by omega)] at e; have : (-1 : Int32).toInt = -1 := rfl; omega), ⟨_, _, rfl, KM.rf⟩⟩ ⟨by decide, by decide⟩
  · refine A_bipush (v := (-2)) dX10_melons_8 (by decide) ?_
    exact A_iret dX10_melons_10 ⟨by rw [melonsA, xv]; exact (if_pos (by assumption)).symm, ⟨_, _, rfl, KM.rf⟩⟩ ⟨by decide, by decide⟩

theorem k_shareOf (G : GX) {b : Nat} {c m : CT} {ml : Nat → Nat → Int64} {r : Nat → Option AE} {n : Nat} {nv nc nf nl wk : Nat} {j : Nat} (h : BL nv nc nf nl wk c m) (hj : j < nv) : MA G 1 yX10_shareOf cX10_shareOf 4 (some .int) 0 0 [.ref b, .int (nI j)] (HM b m ml r n) (qI fun x9 h1 => x9 = csF c nv (j + 1) ∧ h1 = HM b m ml r n) := by
  refine MA.of (own := RX10) false [some (.ref b), some (.int (nI j)), none, none] (by decide +kernel) rfl (fun h => by cases h) (Nat.le_of_ble_eq_true rfl) rfl (fun X => ?_)
  have hX := h.ix
  obtain ⟨xv, xv6, xc, xc8, xf, xf3, xl, xl8, xw, xw30, xC, xL⟩ := id hX
  have hI := h.im
  obtain ⟨hv, hv6, hc, hc8, hf, hf3, hl, hl8, hw, hw30, gC, gL⟩ := id hI
  have hT := h.tm
  have loop : ∀ (k i : Nat) , i + k = j + 1 → WA X G RX10 cX10_shareOf false (some .int) (qI fun x9 h1 => x9 = csF c nv (j + 1) ∧ h1 = HM b m ml r n) 1 0 0 (HM b m ml r n) 0 0 4 [some (.ref b), some (.int (nI j)), some (.int (csF c nv i)), some (.int (nI i))] [] := by
    intro k
    induction k with
    | zero =>
      intro i  hk 
      refine A_iload_n dX10_shareOf_4 rfl rfl ?_
      refine A_iload_n dX10_shareOf_5 rfl rfl ?_
      refine A_icmp_gt 31 dX10_shareOf_6 (by decide) (fun c6 => ?_) (fun c6 => ?_)
      · refine A_iload_n dX10_shareOf_31 rfl rfl ?_
        exact A_iret dX10_shareOf_32 ⟨by rw [show j + 1 = i by omega], rfl⟩ ⟨by decide, by decide⟩
      · exact absurd (nI_lt (a := j) (b := i) (by omega) (by omega)) c6
    | succ k ih =>
      intro i  hk 
      have hi : i < j + 1 := by omega
      refine A_iload_n dX10_shareOf_4 rfl rfl ?_
      refine A_iload_n dX10_shareOf_5 rfl rfl ?_
      refine A_icmp_gt 31 dX10_shareOf_6 (by decide) (fun c6 => ?_) (fun c6 => ?_)
      · exact absurd c6 (nI_nlt (by omega) (by omega))
      · refine A_iload_n dX10_shareOf_9 rfl rfl ?_
        refine A_aload_n dX10_shareOf_10 rfl rfl ?_
        refine A_iload_n dX10_shareOf_11 rfl rfl ?_
        refine A_iconst (v := 4) dX10_shareOf_12 (by decide) ?_
        refine A_callVi dX10_shareOf_13 m_X10_241 cb_X10_of (As := [_, _]) rfl HM_at0 rfl (k_of G 4 (by omega) (by decide)) rfl ⟨by decide, by decide⟩ (Nat.le_of_ble_eq_true rfl) ⟨by decide, by decide⟩ (fun x13 h13 hq => ?_)
        obtain ⟨rfl, rfl⟩ := hq
        refine A_eqI (y := c 8 (5 * i + 4)) (BL_c8 h (by omega) (by decide)).symm ?_
        refine A_aload_n dX10_shareOf_16 rfl rfl ?_
        refine A_callVi dX10_shareOf_17 m_X10_89 cb_X10_villages (As := []) rfl HM_at0 rfl (k_villages G) rfl ⟨by decide, by decide⟩ (Nat.le_of_ble_eq_true rfl) ⟨by decide, by decide⟩ (fun x17 h17 hq => ?_)
        obtain ⟨rfl, rfl⟩ := hq
        rw [hv]
        refine A_iload_n dX10_shareOf_20 rfl rfl ?_
        refine A_isub dX10_shareOf_21 ?_
        refine A_eqI (y := nI (nv - i)) (nI_subN (by omega)) ?_
        refine A_idiv dX10_shareOf_22 (nI_ne0 (by omega) (by omega)) ?_
        refine A_iadd dX10_shareOf_23 ?_
        refine A_istore_n (lv1 := [_, _, _, _]) dX10_shareOf_24 rfl (Nat.le_of_ble_eq_true rfl) rfl rfl ?_
        refine A_inc 1 (lv1 := [_, _, _, _]) dX10_shareOf_25 rfl (by decide) rfl rfl ?_
        refine A_goto 4 dX10_shareOf_28 (by decide) ?_
        rw [nI_1]
        exact ih (i + 1) (by omega)
  refine A_iconst (v := 0) dX10_shareOf_0 (by decide) ?_
  refine A_istore_n (lv1 := [_, _, _, _]) dX10_shareOf_1 rfl (Nat.le_of_ble_eq_true rfl) rfl rfl ?_
  refine A_iconst (v := 0) dX10_shareOf_2 (by decide) ?_
  refine A_istore_n (lv1 := [_, _, _, _]) dX10_shareOf_3 rfl (Nat.le_of_ble_eq_true rfl) rfl rfl ?_
  exact loop (j + 1) 0 (by omega)

def shR (c : CT) (nv j : Nat) : Nat → Int32
  | 0 => 0
  | i + 1 => shR c nv j i + (c 8 (5 * i + 4) - (if i < j then csF c nv (i + 1) else 0))
theorem shS_add (c : CT) (nv : Nat) (s x : Int32) : ∀ i, shS c nv (s + x) i = shS c nv s i + x
  | 0 => rfl
  | i + 1 => by
    rw [shS, shS, shS_add c nv s x i]
    simp only [Int32.sub_eq_add_neg, Int32.add_assoc]
    rw [Int32.add_comm x]
theorem shR_e {c : CT} {nv j : Nat} : ∀ i, i ≤ j → shR c nv j i = shS c nv (coF c i) i
  | 0, _ => rfl
  | i + 1, h => by
    rw [shR, shR_e i (by omega), if_pos (by omega), shS, coF, shS_add]
    simp only [Int32.sub_eq_add_neg, Int32.add_assoc]
theorem shR_end {c : CT} {nv : Nat} (h : 0 < nv) : shR c nv (nv - 1) nv = shS c nv (coF c nv) (nv - 1) := by
  obtain ⟨k, rfl⟩ : ∃ k, nv = k + 1 := ⟨nv - 1, by omega⟩
  rw [show k + 1 - 1 = k by omega, shR, shR_e k (Nat.le_refl _), if_neg (Nat.lt_irrefl k), coF, shS_add, Int32.sub_zero]
theorem share_w2 (G : GX) (X : XC) {b : Nat} {c m : CT} {ml : Nat → Nat → Int64} {r : Nat → Option AE} {n : Nat} {nv nc nf nl wk : Nat} {j : Nat} (h : BL nv nc nf nl wk c m) (hjn : j = nv - 1) (hj : j < nv) : WA X G RX10 cX10_share false (some .int) (qI fun x9 h1 => x9 = shS c nv (coF c nv) (nv - 1) ∧ h1 = HM b m ml r n) 2 0 0 (HM b m ml r n) 0 0 31 [some (.ref b), some (.int (nI j)), some (.int 0), some (.int (nI 0))] [] := by
  have hX := h.ix
  obtain ⟨xv, xv6, xc, xc8, xf, xf3, xl, xl8, xw, xw30, xC, xL⟩ := id hX
  have hI := h.im
  obtain ⟨hv, hv6, hc, hc8, hf, hf3, hl, hl8, hw, hw30, gC, gL⟩ := id hI
  have hT := h.tm
  have loop : ∀ (k i : Nat) , i + k = nv → WA X G RX10 cX10_share false (some .int) (qI fun x9 h1 => x9 = shS c nv (coF c nv) (nv - 1) ∧ h1 = HM b m ml r n) 2 0 0 (HM b m ml r n) 0 0 31 [some (.ref b), some (.int (nI j)), some (.int (shR c nv j i)), some (.int (nI i))] [] := by
    intro k
    induction k with
    | zero =>
      intro i  hk 
      refine A_iload_n dX10_share_31 rfl rfl ?_
      refine A_aload_n dX10_share_32 rfl rfl ?_
      refine A_callVi dX10_share_33 m_X10_89 cb_X10_villages (As := []) rfl HM_at0 rfl (k_villages G) rfl ⟨by decide, by decide⟩ (Nat.le_of_ble_eq_true rfl) ⟨by decide, by decide⟩ (fun x33 h33 hq => ?_)
      obtain ⟨rfl, rfl⟩ := hq
      refine A_icmp_ge 69 dX10_share_36 (by decide) (fun c36 => ?_) (fun c36 => ?_)
      · refine A_iload_n dX10_share_69 rfl rfl ?_
        exact A_iret dX10_share_70 ⟨by subst hjn; rw [← shR_end (by omega), show i = nv by omega], rfl⟩ ⟨by decide, by decide⟩
      · exact absurd (by rw [hv]; exact nI_le (by omega) (by omega)) c36
    | succ k ih =>
      intro i  hk 
      have hi : i < nv := by omega
      refine A_iload_n dX10_share_31 rfl rfl ?_
      refine A_aload_n dX10_share_32 rfl rfl ?_
      refine A_callVi dX10_share_33 m_X10_89 cb_X10_villages (As := []) rfl HM_at0 rfl (k_villages G) rfl ⟨by decide, by decide⟩ (Nat.le_of_ble_eq_true rfl) ⟨by decide, by decide⟩ (fun x33 h33 hq => ?_)
      obtain ⟨rfl, rfl⟩ := hq
      refine A_icmp_ge 69 dX10_share_36 (by decide) (fun c36 => ?_) (fun c36 => ?_)
      · exact absurd c36 (by rw [hv]; exact nI_ge (by omega) (by omega))
      · refine A_iload_n dX10_share_39 rfl rfl ?_
        refine A_aload_n dX10_share_40 rfl rfl ?_
        refine A_iload_n dX10_share_41 rfl rfl ?_
        refine A_iconst (v := 4) dX10_share_42 (by decide) ?_
        refine A_callVi dX10_share_43 m_X10_241 cb_X10_of (As := [_, _]) rfl HM_at0 rfl (k_of G 4 (by omega) (by decide)) rfl ⟨by decide, by decide⟩ (Nat.le_of_ble_eq_true rfl) ⟨by decide, by decide⟩ (fun x43 h43 hq => ?_)
        obtain ⟨rfl, rfl⟩ := hq
        refine A_eqI (y := c 8 (5 * i + 4)) (BL_c8 h (by omega) (by decide)).symm ?_
        refine A_iload_n dX10_share_46 rfl rfl ?_
        refine A_iload_n dX10_share_47 rfl rfl ?_
        refine A_icmp_ge 59 dX10_share_48 (by decide) (fun c48 => ?_) (fun c48 => ?_)
        · have q9 : ¬ i < j := fun z => nI_ge z (by omega) c48
          refine A_iconst (v := 0) dX10_share_59 (by decide) ?_
          refine A_isub dX10_share_60 ?_
          refine A_eqI (y := c 8 (5 * i + 4) - (if i < j then csF c nv (i + 1) else 0)) (by rw [if_neg q9]) ?_
          refine A_iadd dX10_share_61 ?_
          refine A_istore_n (lv1 := [_, _, _, _]) dX10_share_62 rfl (Nat.le_of_ble_eq_true rfl) rfl rfl ?_
          refine A_inc 1 (lv1 := [_, _, _, _]) dX10_share_63 rfl (by decide) rfl rfl ?_
          refine A_goto 31 dX10_share_66 (by decide) ?_
          rw [nI_1]
          exact ih (i + 1) (by omega)
        · have q9 : i < j := by rcases Nat.lt_or_ge i j with z | z; exact z; exact absurd (nI_le z (by omega)) c48
          refine A_aload_n dX10_share_51 rfl rfl ?_
          refine A_iload_n dX10_share_52 rfl rfl ?_
          refine A_callVi dX10_share_53 m_X10_446 cb_X10_shareOf (As := [_]) rfl HM_at0 rfl (k_shareOf G h (by omega)) rfl ⟨by decide, by decide⟩ (Nat.le_of_ble_eq_true rfl) ⟨by decide, by decide⟩ (fun x53 h53 hq => ?_)
          obtain ⟨rfl, rfl⟩ := hq
          refine A_goto 60 dX10_share_56 (by decide) ?_
          refine A_isub dX10_share_60 ?_
          refine A_eqI (y := c 8 (5 * i + 4) - (if i < j then csF c nv (i + 1) else 0)) (by rw [if_pos q9]) ?_
          refine A_iadd dX10_share_61 ?_
          refine A_istore_n (lv1 := [_, _, _, _]) dX10_share_62 rfl (Nat.le_of_ble_eq_true rfl) rfl rfl ?_
          refine A_inc 1 (lv1 := [_, _, _, _]) dX10_share_63 rfl (by decide) rfl rfl ?_
          refine A_goto 31 dX10_share_66 (by decide) ?_
          rw [nI_1]
          exact ih (i + 1) (by omega)
  exact loop nv 0 (by omega)
theorem k_share (G : GX) {b : Nat} {c m : CT} {ml : Nat → Nat → Int64} {r : Nat → Option AE} {n : Nat} {nv nc nf nl wk : Nat} {v : Int32} (h : BL nv nc nf nl wk c m) : MA G 2 yX10_share cX10_share 4 (some .int) 0 0 [.ref b, .int v] (HM b m ml r n) (qI fun x9 h1 => x9 = shareA c nv v ∧ h1 = HM b m ml r n) := by
  refine MA.of (own := RX10) false [some (.ref b), some (.int v), none, none] (by decide +kernel) rfl (fun h => by cases h) (Nat.le_of_ble_eq_true rfl) rfl (fun X => ?_)
  have hX := h.ix
  obtain ⟨xv, xv6, xc, xc8, xf, xf3, xl, xl8, xw, xw30, xC, xL⟩ := id hX
  have hI := h.im
  obtain ⟨hv, hv6, hc, hc8, hf, hf3, hl, hl8, hw, hw30, gC, gL⟩ := id hI
  have hT := h.tm
  refine A_aload_n dX10_share_0 rfl rfl ?_
  refine A_iload_n dX10_share_1 rfl rfl ?_
  refine A_callVi dX10_share_2 m_X10_93 cb_X10_isVillage (As := [_]) rfl HM_at0 rfl (k_isVillage G hv (by omega)) rfl ⟨by decide, by decide⟩ (Nat.le_of_ble_eq_true rfl) ⟨by decide, by decide⟩ (fun x2 h2 hq => ?_)
  obtain ⟨rfl, rfl⟩ := hq
  refine A_if_ne 11 dX10_share_5 (by decide) (fun c5 => ?_) (fun c5 => ?_)
  · obtain ⟨j, hj, rfl⟩ := inI_of rfl c5 (by omega)
    have eA : shareA c nv (nI j) = if j < nv - 1 then csF c nv (j + 1) else shS c nv (coF c nv) (nv - 1) := by rw [shareA, xv, if_neg c5, tcl_nI (by omega)]
    rw [eA]
    refine A_iload_n dX10_share_11 rfl rfl ?_
    refine A_aload_n dX10_share_12 rfl rfl ?_
    refine A_callVi dX10_share_13 m_X10_89 cb_X10_villages (As := []) rfl HM_at0 rfl (k_villages G) rfl ⟨by decide, by decide⟩ (Nat.le_of_ble_eq_true rfl) ⟨by decide, by decide⟩ (fun x13 h13 hq => ?_)
    obtain ⟨rfl, rfl⟩ := hq
    rw [hv]
    refine A_iconst (v := 1) dX10_share_16 (by decide) ?_
    refine A_isub dX10_share_17 ?_
    refine A_eqI (y := nI (nv - 1)) (nI_subN (b := 1) (by omega)) ?_
    refine A_icmp_ge 27 dX10_share_18 (by decide) (fun c18 => ?_) (fun c18 => ?_)
    · have q9 : ¬ j < nv - 1 := fun z => nI_ge z (by omega) c18
      rw [if_neg q9]
      refine A_iconst (v := 0) dX10_share_27 (by decide) ?_
      refine A_istore_n (lv1 := [_, _, _, _]) dX10_share_28 rfl (Nat.le_of_ble_eq_true rfl) rfl rfl ?_
      refine A_iconst (v := 0) dX10_share_29 (by decide) ?_
      refine A_istore_n (lv1 := [_, _, _, _]) dX10_share_30 rfl (Nat.le_of_ble_eq_true rfl) rfl rfl ?_
      exact share_w2 G X h (by omega) hj
    · rw [if_pos (show j < nv - 1 by rcases Nat.lt_or_ge j (nv - 1) with z | z; exact z; exact absurd (nI_le z (by omega)) c18)]
      refine A_aload_n dX10_share_21 rfl rfl ?_
      refine A_iload_n dX10_share_22 rfl rfl ?_
      refine A_callVi dX10_share_23 m_X10_446 cb_X10_shareOf (As := [_]) rfl HM_at0 rfl (k_shareOf G h hj) rfl ⟨by decide, by decide⟩ (Nat.le_of_ble_eq_true rfl) ⟨by decide, by decide⟩ (fun x23 h23 hq => ?_)
      obtain ⟨rfl, rfl⟩ := hq
      exact A_iret dX10_share_26 ⟨rfl, rfl⟩ ⟨by decide, by decide⟩
  · refine A_bipush (v := (-2)) dX10_share_8 (by decide) ?_
    exact A_iret dX10_share_10 ⟨by rw [shareA, xv]; exact (if_pos (by assumption)).symm, rfl⟩ ⟨by decide, by decide⟩
