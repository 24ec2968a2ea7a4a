/-! THE REFERENCE: DEBTS -/
def owM (m : CT) (i : Nat) (d : Nat → Int32) : Nat → Int32 := upd d (6 * tcl (m 1 (117 + 5 * i + 1)) + tcl (m 1 (117 + 5 * i + 0))) (d (6 * tcl (m 1 (117 + 5 * i + 1)) + tcl (m 1 (117 + 5 * i + 0))) + (m 10 (3 * i + 1) - m 10 (3 * i + 2)))
theorem ow_1 {nv nc nf nl wk fl i : Nat} {y m : CT} (S : SimY nv nc nf nl fl wk y m) (hi : i < nl) (d : Nat → Int32) : owM m i d = owS y i d := by
  have e0 := (S.s4 i hi 0 (by decide)).symm
  have e1 := (S.s4 i hi 1 (by decide)).symm
  have e2 := (S.d6 i hi).symm
  have e3 := (S.d7 i hi).symm
  unfold owM owS
  rw [e0, e1, e2, e3, Nat.mul_comm 6 (tcl (y 14 (5 * i + 1)))]
theorem forR_cong {α : Type} {f g : Nat → α → α} {N : Nat} (h : ∀ i d, i < N → f i d = g i d) : ∀ (k i : Nat) (d : α), i + k ≤ N → forR f i k d = forR g i k d
  | 0, _, _, _ => rfl
  | k + 1, i, d, hk => by
    show forR f (i + 1) k (f i d) = forR g (i + 1) k (g i d)
    rw [h i d (by omega)]
    exact forR_cong h k (i + 1) _ (by omega)
theorem ow_sim {nv nc nf nl wk fl : Nat} {y m : CT} (S : SimY nv nc nf nl fl wk y m) (k i : Nat) (d : Nat → Int32) (h : i + k ≤ nl) : forR (owM m) i k d = forR (owS y) i k d := forR_cong (N := nl) (fun i d hi => ow_1 S hi d) k i d h
def dRow (c : CT) : Nat → Int32 := owF (yrF c)
theorem dRow_e {c : CT} : dbF c 48 = dRow c := by rw [dbF, reckF, st1_eq]; rfl
theorem dRow_b {nv nc nf nl wk : Nat} {y : CT} (D : DY nv nc nf nl wk wk y) (h8 : nl ≤ 8) (hl : tcl (y 13 2) = nl) (j : Nat) : 0 ≤ (owF y j).toInt ∧ (owF y j).toInt ≤ 240000 := by
  have R := forR_inv (f := owS y) (fun i d => ∀ j, 0 ≤ (d j).toInt ∧ (d j).toInt ≤ (30000 * i : Nat)) nl (fun i d hi h j => by
    have h1 := D.2.2.2.1 i hi
    have h2 := h j
    have e1 : (y 36 i - y 37 i).toInt = (y 36 i).toInt - (y 37 i).toInt := subT (by omega) (by omega)
    unfold owS
    by_cases e : j = tcl (y 14 (5 * i + 1)) * 6 + tcl (y 14 (5 * i + 0))
    · subst e
      rw [pk_us, addT (by omega) (by omega), e1]
      omega
    · rw [pk_un e]; omega) nl 0 (fun _ => 0) (by omega) (fun j => by rw [T0]; omega)
  rw [Nat.zero_add] at R
  have := R j
  rw [owF, hl]
  omega
theorem fill_l2 (G : GX) (X : XC) {b : Nat} {m : CT} {ml : Nat → Nat → Int64} {r : Nat → Option AE} {n nv nc nf nl wk : Nat} {T : Nat → Int32} (hI : IM m nv nc nf nl wk) : ∀ (k i : Nat) (g : Nat → Int32), i + k = nl → forR (owM m) i k g = T → WA X G RX10 cX10_fillDebts false none (qV fun h1 => h1 = HM b (st1 m 13 T) ml r n) 5 0 0 (HM b (st1 m 13 g) ml r n) 0 0 27 [some (.ref b), some (.int (nI i))] [] := by
  obtain ⟨hv, hv6, hc, hc8, hf, hf3, hl, hl8, hw, hw30, gC, gL⟩ := id hI
  intro k
  induction k with
  | zero =>
    intro i g hk hT
    have hI2 : IM (st1 m 13 g) nv nc nf nl wk := hI.to (st1_ne (by decide))
    have w1 : (st1 m 13 g) 1 = m 1 := st1_ne (by decide)
    refine A_iload_n dX10_fillDebts_27 rfl rfl ?_
    refine A_aload_n dX10_fillDebts_28 rfl rfl ?_
    refine A_get dX10_fillDebts_29 f_X10_9 HM_at0 rfl ?_
    refine A_iconst (v := 3) dX10_fillDebts_32 (by decide) ?_
    refine A_ialdK (i := 3) dX10_fillDebts_33 (HM_at (by decide)) rfl (by omega) (by decide) ?_
    refine A_icmp_ge 72 dX10_fillDebts_34 (by decide) (fun c34 => ?_) (fun c34 => ?_)
    · exact A_vret dX10_fillDebts_72 (by rw [← hT]; rfl) ⟨by decide, by decide⟩
    · exact absurd (by rw [w1, hl]; exact nI_le (by omega) (by omega)) c34
  | succ k ih =>
    intro i g hk hT
    have hI2 : IM (st1 m 13 g) nv nc nf nl wk := hI.to (st1_ne (by decide))
    have w1 : (st1 m 13 g) 1 = m 1 := st1_ne (by decide)
    have hi : i < nl := by omega
    obtain ⟨j1, hj1, e1⟩ := vp_in_of (gL i hi).1 (by omega)
    obtain ⟨j2, hj2, e2⟩ := vp_in_of (gL i hi).2 (by omega)
    have eO : owM m i g = upd g (6 * j2 + j1) (g (6 * j2 + j1) + (m 10 (3 * i + 1) - m 10 (3 * i + 2))) := by rw [owM, e1, e2, tcl_nI (by omega), tcl_nI (by omega)]
    refine A_iload_n dX10_fillDebts_27 rfl rfl ?_
    refine A_aload_n dX10_fillDebts_28 rfl rfl ?_
    refine A_get dX10_fillDebts_29 f_X10_9 HM_at0 rfl ?_
    refine A_iconst (v := 3) dX10_fillDebts_32 (by decide) ?_
    refine A_ialdK (i := 3) dX10_fillDebts_33 (HM_at (by decide)) rfl (by omega) (by decide) ?_
    refine A_icmp_ge 72 dX10_fillDebts_34 (by decide) (fun c34 => ?_) (fun c34 => ?_)
    · exact absurd c34 (by rw [w1, hl]; exact nI_ge (by omega) (by omega))
    · refine A_aload_n dX10_fillDebts_37 rfl rfl ?_
      refine A_get dX10_fillDebts_38 f_X10_55 HM_at0 rfl ?_
      refine A_bipush (v := 6) dX10_fillDebts_41 (by decide) ?_
      refine A_aload_n dX10_fillDebts_43 rfl rfl ?_
      refine A_iload_n dX10_fillDebts_44 rfl rfl ?_
      refine A_iconst (v := 1) dX10_fillDebts_45 (by decide) ?_
      refine A_callVi dX10_fillDebts_46 m_X10_261 cb_X10_ofLoan (As := [_, _]) rfl HM_at0 rfl (k_ofLoan G 1 (by omega) (by decide)) rfl ⟨by decide, by decide⟩ (Nat.le_of_ble_eq_true rfl) ⟨by decide, by decide⟩ (fun x46 h46 hq => ?_)
      obtain ⟨rfl, rfl⟩ := hq
      refine A_eqI (y := nI j2) (by rw [w1]; exact e2) ?_
      refine A_imul dX10_fillDebts_49 ?_
      refine A_aload_n dX10_fillDebts_50 rfl rfl ?_
      refine A_iload_n dX10_fillDebts_51 rfl rfl ?_
      refine A_iconst (v := 0) dX10_fillDebts_52 (by decide) ?_
      refine A_callVi dX10_fillDebts_53 m_X10_261 cb_X10_ofLoan (As := [_, _]) rfl HM_at0 rfl (k_ofLoan G 0 (by omega) (by decide)) rfl ⟨by decide, by decide⟩ (Nat.le_of_ble_eq_true rfl) ⟨by decide, by decide⟩ (fun x53 h53 hq => ?_)
      obtain ⟨rfl, rfl⟩ := hq
      refine A_eqI (y := nI j1) (by rw [w1]; exact e1) ?_
      refine A_iadd dX10_fillDebts_56 ?_
      refine A_dup2 dX10_fillDebts_57 rfl rfl ?_
      refine A_ialdK (i := ((6 * j2) + j1)) dX10_fillDebts_58 (HM_at (by decide)) (ixA (ixU rfl rfl) rfl) (by omega) (by decide) ?_
      refine A_aload_n dX10_fillDebts_59 rfl rfl ?_
      refine A_iload_n dX10_fillDebts_60 rfl rfl ?_
      refine A_callVi dX10_fillDebts_61 m_X10_300 cb_X10_shortOfLoan (As := [_]) rfl HM_at0 rfl (k_shortOfLoan G (by omega)) rfl ⟨by decide, by decide⟩ (Nat.le_of_ble_eq_true rfl) ⟨by decide, by decide⟩ (fun x61 h61 hq => ?_)
      obtain ⟨rfl, rfl⟩ := hq
      rw [st1_ne (show (10 : Nat) ≠ 13 by decide), st1_eq]
      refine A_iadd dX10_fillDebts_64 ?_
      refine A_iastMK (i := ((6 * j2) + j1)) dX10_fillDebts_65 (by decide) (fun _ => rfl) (ixA (ixU rfl rfl) rfl) (by omega) (by decide) ?_
      refine A_inc 1 (lv1 := [_, _]) dX10_fillDebts_66 rfl (by decide) rfl rfl ?_
      refine A_goto 27 dX10_fillDebts_69 (by decide) ?_
      rw [nI_1, st1M, ← eO]
      exact ih (i + 1) _ (by omega) hT

theorem k_fillDebts (G : GX) {b : Nat} {c m : CT} {ml : Nat → Nat → Int64} {r : Nat → Option AE} {n : Nat} {nv nc nf nl wk : Nat} (h : BL nv nc nf nl wk c m) : MA G 5 yX10_fillDebts cX10_fillDebts 2 none 0 0 [.ref b] (HM b m ml r n) (qV fun h1 => h1 = HM b (st1 (runM 7 m) 13 (dRow c)) ml r n) := by
  refine MA.of (own := RX10) false [some (.ref b), none] (by decide +kernel) rfl (fun h => by cases h) (Nat.le_of_ble_eq_true rfl) rfl (fun X => ?_)
  have hX := h.ix
  obtain ⟨xv, xv6, xc, xc8, xf, xf3, xl, xl8, xw, xw30, xC, xL⟩ := id hX
  have hI := h.im
  obtain ⟨hv, hv6, hc, hc8, hf, hf3, hl, hl8, hw, hw30, gC, gL⟩ := id hI
  have hT := h.tm
  obtain ⟨S, D⟩ := yr_sim h
  have hyl : tcl (yrF c 13 2) = nl := by rw [yrF_l (by decide)]; exact hX.nvf.2.2.2.1
  have loop1 : ∀ (k i : Nat) (g : Nat → Int32), i + k = 36 → (∀ j, j < i → g j = 0) → WA X G RX10 cX10_fillDebts false none (qV fun h1 => h1 = HM b (st1 (runM 7 m) 13 (dRow c)) ml r n) 5 0 0 (HM b (st1 (runM 7 m) 13 g) ml r n) 0 0 6 [some (.ref b), some (.int (nI i))] [] := by
    intro k
    induction k with
    | zero =>
      intro i g hk hg
      have e9 : i = 36 := by omega
      subst e9
      refine A_iload_n dX10_fillDebts_6 rfl rfl ?_
      refine A_bipush (v := 36) dX10_fillDebts_7 (by decide) ?_
      refine A_icmp_ge 25 dX10_fillDebts_9 (by decide) (fun c9 => ?_) (fun c9 => ?_)
      · refine A_iconst (v := 0) dX10_fillDebts_25 (by decide) ?_
        refine A_istore_n (lv1 := [_, _]) dX10_fillDebts_26 rfl (Nat.le_of_ble_eq_true rfl) rfl rfl ?_
        refine WA_rowM (k := 13) (fun _ => 0) (by decide) (fun _ => rfl) (fun i hi => by rw [st1_eq]; exact hg i hi) ?_
        rw [st1_st1]
        exact fill_l2 G X (hI.to runM_R.w) nl 0 _ (by omega) (by rw [ow_sim S nl 0 _ (by omega), dRow, owF, hyl])
      · exact absurd (by decide) c9
    | succ k ih =>
      intro i g hk hg
      refine A_iload_n dX10_fillDebts_6 rfl rfl ?_
      refine A_bipush (v := 36) dX10_fillDebts_7 (by decide) ?_
      refine A_icmp_ge 25 dX10_fillDebts_9 (by decide) (fun c9 => ?_) (fun c9 => ?_)
      · exact absurd c9 (nI_ge (b := 36) (by omega) (by decide))
      · refine A_aload_n dX10_fillDebts_12 rfl rfl ?_
        refine A_get dX10_fillDebts_13 f_X10_55 HM_at0 rfl ?_
        refine A_iload_n dX10_fillDebts_16 rfl rfl ?_
        refine A_iconst (v := 0) dX10_fillDebts_17 (by decide) ?_
        refine A_iastMK (i := i) dX10_fillDebts_18 (by decide) (fun _ => rfl) rfl (by omega) (by decide) ?_
        refine A_inc 1 (lv1 := [_, _]) dX10_fillDebts_19 rfl (by decide) rfl rfl ?_
        refine A_goto 6 dX10_fillDebts_22 (by decide) ?_
        rw [nI_1, st1M]
        exact ih (i + 1) _ (by omega) (fun j hj => by by_cases e : j = i; (subst e; rw [pk_us]); (rw [pk_un e]; exact hg j (by omega)))
  refine A_aload_n dX10_fillDebts_0 rfl rfl ?_
  refine A_callVv dX10_fillDebts_1 m_X10_317 cb_X10_year (As := []) rfl HM_at0 rfl (k_year G hI hT) rfl ⟨by decide, by decide⟩ (Nat.le_of_ble_eq_true rfl) ⟨by decide, by decide⟩ (fun h1 hq => ?_)
  obtain rfl := hq
  refine A_iconst (v := 0) dX10_fillDebts_4 (by decide) ?_
  refine A_istore_n (lv1 := [_, _]) dX10_fillDebts_5 rfl (Nat.le_of_ble_eq_true rfl) rfl rfl ?_
  refine WA_h (congrArg (fun z => HM b z ml r n) (show _ = st1 (runM 7 m) 13 (runM 7 m 13) from st1_self.symm)) ?_
  exact loop1 36 0 _ (by omega) (fun j hj => absurd hj (by omega))

theorem k_debt (G : GX) {b : Nat} {m : CT} {ml : Nat → Nat → Int64} {r : Nat → Option AE} {n : Nat} {j k : Nat} (hj : j < 6) (hk : k < 6) : MA G 0 yX10_debt cX10_debt 3 (some .int) 0 0 [.ref b, .int (nI j), .int (nI k)] (HM b m ml r n) (qI fun x9 h1 => x9 = m 13 (6 * j + k) ∧ h1 = HM b m ml r n) := by
  refine MA.of (own := RX10) false [some (.ref b), some (.int (nI j)), some (.int (nI k))] (by decide +kernel) rfl (fun h => by cases h) (Nat.le_of_ble_eq_true rfl) rfl (fun X => ?_)
  refine A_aload_n dX10_debt_0 rfl rfl ?_
  refine A_get dX10_debt_1 f_X10_55 HM_at0 rfl ?_
  refine A_bipush (v := 6) dX10_debt_4 (by decide) ?_
  refine A_iload_n dX10_debt_6 rfl rfl ?_
  refine A_imul dX10_debt_7 ?_
  refine A_iload_n dX10_debt_8 rfl rfl ?_
  refine A_iadd dX10_debt_9 ?_
  refine A_ialdK (i := ((6 * j) + k)) dX10_debt_10 (HM_at (by decide)) (ixA (ixU rfl rfl) rfl) (by omega) (by decide) ?_
  exact A_iret dX10_debt_11 ⟨rfl, rfl⟩ ⟨by decide, by decide⟩

theorem pair_of {nv : Nat} {v t : Int32} (hv6 : nv ≤ 6) (h : ¬ pairM nv v t = 0) : ∃ j k, j < nv ∧ k < nv ∧ j ≠ k ∧ v = nI j ∧ t = nI k := by
  have h1 : ¬ (inI v (nI nv) = 0 ∨ inI t (nI nv) = 0 ∨ v = t) := fun z => h (if_pos z)
  obtain ⟨j, hj, ej⟩ := inI_of rfl (fun z => h1 (Or.inl z)) (by omega)
  obtain ⟨k, hk, ek⟩ := inI_of rfl (fun z => h1 (Or.inr (Or.inl z))) (by omega)
  exact ⟨j, k, hj, hk, fun e => h1 (Or.inr (Or.inr (by rw [ej, ek, e]))), ej, ek⟩
theorem pair_e {nv : Nat} {c : CT} {v t : Int32} (xv : c 7 2 = nI nv) : pairI c v t = pairM nv v t := by rw [pairI, pairM, xv]
theorem sameD13 {m : CT} {g : Nat → Int32} : kM m (st1 (runM 7 m) 13 g) := runM_k.tr ⟨fun l x y => st1_ne (by omega), fun j _ => by rw [st1_ne (by decide)]⟩
theorem pr_N {j k : Nat} (hj : j < 6) (hk : k < 6) : pr (nI j) (nI k) = 6 * j + k := by rw [pr, tcl_nI (by omega), tcl_nI (by omega), Nat.mul_comm]
theorem k_owes (G : GX) {b : Nat} {c m : CT} {ml : Nat → Nat → Int64} {r : Nat → Option AE} {n : Nat} {nv nc nf nl wk : Nat} {v t : Int32} (h : BL nv nc nf nl wk c m) : MA G 6 yX10_owes cX10_owes 3 (some .int) 0 0 [.ref b, .int v, .int t] (HM b m ml r n) (qI fun x9 h1 => x9 = owesA c v t ∧ ∃ m1 ml1, h1 = HM b m1 ml1 r n ∧ KM m ml m1 ml1) := by
  refine MA.of (own := RX10) false [some (.ref b), some (.int v), some (.int t)] (by decide +kernel) rfl (fun h => by cases h) (Nat.le_of_ble_eq_true rfl) rfl (fun X => ?_)
  have hX := h.ix
  obtain ⟨xv, xv6, xc, xc8, xf, xf3, xl, xl8, xw, xw30, xC, xL⟩ := id hX
  have hI := h.im
  obtain ⟨hv, hv6, hc, hc8, hf, hf3, hl, hl8, hw, hw30, gC, gL⟩ := id hI
  have hT := h.tm
  refine A_aload_n dX10_owes_0 rfl rfl ?_
  refine A_iload_n dX10_owes_1 rfl rfl ?_
  refine A_iload_n dX10_owes_2 rfl rfl ?_
  refine A_callVi dX10_owes_3 m_X10_421 cb_X10_areTwo (As := [_, _]) rfl HM_at0 rfl (k_areTwo G hv (by omega)) rfl ⟨by decide, by decide⟩ (Nat.le_of_ble_eq_true rfl) ⟨by decide, by decide⟩ (fun x3 h3 hq => ?_)
  obtain ⟨rfl, rfl⟩ := hq
  refine A_if_ne 12 dX10_owes_6 (by decide) (fun c6 => ?_) (fun c6 => ?_)
  · have eA : owesA c v t = dbF c 48 (pr v t) := by rw [owesA, pair_e xv, if_neg c6]
    obtain ⟨j, k, hj, hk, hjk, rfl, rfl⟩ := pair_of hv6 c6
    refine A_aload_n dX10_owes_12 rfl rfl ?_
    refine A_callVv dX10_owes_13 m_X10_409 cb_X10_fillDebts (As := []) rfl HM_at0 rfl (k_fillDebts G h) rfl ⟨by decide, by decide⟩ (Nat.le_of_ble_eq_true rfl) ⟨by decide, by decide⟩ (fun h13 hq => ?_)
    obtain rfl := hq
    refine A_aload_n dX10_owes_16 rfl rfl ?_
    refine A_iload_n dX10_owes_17 rfl rfl ?_
    refine A_iload_n dX10_owes_18 rfl rfl ?_
    refine A_callVi dX10_owes_19 m_X10_400 cb_X10_debt (As := [_, _]) rfl HM_at0 rfl (k_debt G (by omega) (by omega)) rfl ⟨by decide, by decide⟩ (Nat.le_of_ble_eq_true rfl) ⟨by decide, by decide⟩ (fun x19 h19 hq => ?_)
    obtain ⟨rfl, rfl⟩ := hq
    exact A_iret dX10_owes_22 ⟨by rw [eA, pr_N (by omega) (by omega), dRow_e, st1_eq], _, _, rfl, sameD13, rfl⟩ ⟨by decide, by decide⟩
  · refine A_bipush (v := (-2)) dX10_owes_9 (by decide) ?_
    exact A_iret dX10_owes_11 ⟨by rw [owesA, pair_e xv, if_pos c6], ⟨_, _, rfl, KM.rf⟩⟩ ⟨by decide, by decide⟩

def DOk (d : Nat → Int32) : Prop := ∀ j, 0 ≤ (d j).toInt ∧ (d j).toInt ≤ 240000
theorem dRow_ok {nv nc nf nl wk : Nat} {c m : CT} (h : BL nv nc nf nl wk c m) : DOk (dRow c) := fun j => dRow_b (yr_sim h).2 h.nb.2.2.2 (by rw [yrF_l (by decide)]; exact h.ix.nvf.2.2.2.1) j
theorem d_pos {d : Nat → Int32} (h : DOk d) (j : Nat) : (d j ≤ 0 ↔ d j = 0) := by rw [Int32.le_iff_toInt_le, eqT0, T0]; have := h j; omega
def aDF (d : Nat → Int32) (v : Nat) : Nat → Int32
  | 0 => 0
  | t + 1 => aDF d v t + d (6 * v + t)
theorem k_allDebts (G : GX) {b : Nat} {m : CT} {ml : Nat → Nat → Int64} {r : Nat → Option AE} {n : Nat} {nv nc nf nl wk : Nat} {v : Nat} (hI : IM m nv nc nf nl wk) (hv9 : v < nv) : MA G 1 yX10_allDebts cX10_allDebts 4 (some .int) 0 0 [.ref b, .int (nI v)] (HM b m ml r n) (qI fun x9 h1 => x9 = aDF (m 13) v nv ∧ h1 = HM b m ml r n) := by
  refine MA.of (own := RX10) false [some (.ref b), some (.int (nI v)), none, none] (by decide +kernel) rfl (fun h => by cases h) (Nat.le_of_ble_eq_true rfl) rfl (fun X => ?_)
  obtain ⟨hv, hv6, hc, hc8, hf, hf3, hl, hl8, hw, hw30, gC, gL⟩ := id hI
  have loop : ∀ (k i : Nat) , i + k = nv → WA X G RX10 cX10_allDebts false (some .int) (qI fun x9 h1 => x9 = aDF (m 13) v nv ∧ h1 = HM b m ml r n) 1 0 0 (HM b m ml r n) 0 0 4 [some (.ref b), some (.int (nI v)), some (.int (aDF (m 13) v i)), some (.int (nI i))] [] := by
    intro k
    induction k with
    | zero =>
      intro i  hk 
      refine A_iload_n dX10_allDebts_4 rfl rfl ?_
      refine A_aload_n dX10_allDebts_5 rfl rfl ?_
      refine A_callVi dX10_allDebts_6 m_X10_89 cb_X10_villages (As := []) rfl HM_at0 rfl (k_villages G) rfl ⟨by decide, by decide⟩ (Nat.le_of_ble_eq_true rfl) ⟨by decide, by decide⟩ (fun x6 h6 hq => ?_)
      obtain ⟨rfl, rfl⟩ := hq
      refine A_icmp_ge 27 dX10_allDebts_9 (by decide) (fun c9 => ?_) (fun c9 => ?_)
      · refine A_iload_n dX10_allDebts_27 rfl rfl ?_
        exact A_iret dX10_allDebts_28 ⟨by rw [show nv = i by omega], rfl⟩ ⟨by decide, by decide⟩
      · exact absurd (by rw [hv]; exact nI_le (by omega) (by omega)) c9
    | succ k ih =>
      intro i  hk 
      have hi : i < nv := by omega
      refine A_iload_n dX10_allDebts_4 rfl rfl ?_
      refine A_aload_n dX10_allDebts_5 rfl rfl ?_
      refine A_callVi dX10_allDebts_6 m_X10_89 cb_X10_villages (As := []) rfl HM_at0 rfl (k_villages G) rfl ⟨by decide, by decide⟩ (Nat.le_of_ble_eq_true rfl) ⟨by decide, by decide⟩ (fun x6 h6 hq => ?_)
      obtain ⟨rfl, rfl⟩ := hq
      refine A_icmp_ge 27 dX10_allDebts_9 (by decide) (fun c9 => ?_) (fun c9 => ?_)
      · exact absurd c9 (by rw [hv]; exact nI_ge (by omega) (by omega))
      · refine A_iload_n dX10_allDebts_12 rfl rfl ?_
        refine A_aload_n dX10_allDebts_13 rfl rfl ?_
        refine A_iload_n dX10_allDebts_14 rfl rfl ?_
        refine A_iload_n dX10_allDebts_15 rfl rfl ?_
        refine A_callVi dX10_allDebts_16 m_X10_400 cb_X10_debt (As := [_, _]) rfl HM_at0 rfl (k_debt G (by omega) (by omega)) rfl ⟨by decide, by decide⟩ (Nat.le_of_ble_eq_true rfl) ⟨by decide, by decide⟩ (fun x16 h16 hq => ?_)
        obtain ⟨rfl, rfl⟩ := hq
        refine A_iadd dX10_allDebts_19 ?_
        refine A_istore_n (lv1 := [_, _, _, _]) dX10_allDebts_20 rfl (Nat.le_of_ble_eq_true rfl) rfl rfl ?_
        refine A_inc 1 (lv1 := [_, _, _, _]) dX10_allDebts_21 rfl (by decide) rfl rfl ?_
        refine A_goto 4 dX10_allDebts_24 (by decide) ?_
        rw [nI_1]
        exact ih (i + 1) (by omega)
  refine A_iconst (v := 0) dX10_allDebts_0 (by decide) ?_
  refine A_istore_n (lv1 := [_, _, _, _]) dX10_allDebts_1 rfl (Nat.le_of_ble_eq_true rfl) rfl rfl ?_
  refine A_iconst (v := 0) dX10_allDebts_2 (by decide) ?_
  refine A_istore_n (lv1 := [_, _, _, _]) dX10_allDebts_3 rfl (Nat.le_of_ble_eq_true rfl) rfl rfl ?_
  exact loop nv 0 (by omega)

theorem bit01 (x s : Int32) : (x >>> s) &&& 1 = 0 ∨ (x >>> s) &&& 1 = 1 := by
  obtain ⟨j, hj, e⟩ := pk_andE (x >>> s) (m := 1) 1 rfl
  rw [e]
  match j, hj with
  | 0, _ => exact Or.inl rfl
  | 1, _ => exact Or.inr rfl
theorem k_nextPaid (G : GX) {b : Nat} {m : CT} {ml : Nat → Nat → Int64} {r : Nat → Option AE} {n : Nat} {nv nc nf nl wk : Nat} {law dn : Int32} {v : Nat} (hI : IM m nv nc nf nl wk) (hv9 : v < nv) (hD : DOk (m 13)) : MA G 1 yX10_nextPaid cX10_nextPaid 6 (some .int) 0 0 [.ref b, .int law, .int (nI v), .int dn] (HM b m ml r n) (qI fun x9 h1 => x9 = nextF (m 13) law v dn nv ∧ h1 = HM b m ml r n) := by
  refine MA.of (own := RX10) false [some (.ref b), some (.int law), some (.int (nI v)), some (.int dn), none, none] (by decide +kernel) rfl (fun h => by cases h) (Nat.le_of_ble_eq_true rfl) rfl (fun X => ?_)
  obtain ⟨hv, hv6, hc, hc8, hf, hf3, hl, hl8, hw, hw30, gC, gL⟩ := id hI
  have loop : ∀ (k i : Nat), i + k = nv → WA X G RX10 cX10_nextPaid false (some .int) (qI fun x9 h1 => x9 = nextF (m 13) law v dn nv ∧ h1 = HM b m ml r n) 1 0 0 (HM b m ml r n) 0 0 6 [some (.ref b), some (.int law), some (.int (nI v)), some (.int dn), some (.int (nextF (m 13) law v dn i)), some (.int (nI i))] [] := by
    intro k
    induction k with
    | zero =>
      intro i hk
      refine A_iload dX10_nextPaid_6 rfl ?_
      refine A_aload_n dX10_nextPaid_8 rfl rfl ?_
      refine A_callVi dX10_nextPaid_9 m_X10_89 cb_X10_villages (As := []) rfl HM_at0 rfl (k_villages G) rfl ⟨by decide, by decide⟩ (Nat.le_of_ble_eq_true rfl) ⟨by decide, by decide⟩ (fun x9 h9 hq => ?_)
      obtain ⟨rfl, rfl⟩ := hq
      refine A_icmp_ge 81 dX10_nextPaid_12 (by decide) (fun c12 => ?_) (fun c12 => ?_)
      · refine A_iload dX10_nextPaid_81 rfl ?_
        exact A_iret dX10_nextPaid_83 ⟨by rw [show nv = i by omega], rfl⟩ ⟨by decide, by decide⟩
      · exact absurd (by rw [hv]; exact nI_le (by omega) (by omega)) c12
    | succ k ih =>
      intro i hk
      have hs : nextF (m 13) law v dn (i + 1) = if m 13 (v * 6 + i) ≤ 0 then nextF (m 13) law v dn i else if ¬ (dn >>> (nI i &&& 31)) &&& 1 = 0 then nextF (m 13) law v dn i else if nextF (m 13) law v dn i = -1 then nI i else if ¬ law = 1 then nextF (m 13) law v dn i else if m 13 (v * 6 + tcl (nextF (m 13) law v dn i)) ≤ m 13 (v * 6 + i) then nextF (m 13) law v dn i else nI i := by rw [nextF]
      rw [Nat.mul_comm v 6] at hs
      have hb01 := bit01 dn (nI i &&& 31)
      rcases nextF_ix (d := m 13) (law := law) (v := v) (done := dn) i with eN | ⟨j, hj, eN⟩
      · rw [eN] at hs ⊢
        refine A_iload dX10_nextPaid_6 rfl ?_
        refine A_aload_n dX10_nextPaid_8 rfl rfl ?_
        refine A_callVi dX10_nextPaid_9 m_X10_89 cb_X10_villages (As := []) rfl HM_at0 rfl (k_villages G) rfl ⟨by decide, by decide⟩ (Nat.le_of_ble_eq_true rfl) ⟨by decide, by decide⟩ (fun x9 h9 hq => ?_)
        obtain ⟨rfl, rfl⟩ := hq
        refine A_icmp_ge 81 dX10_nextPaid_12 (by decide) (fun c12 => ?_) (fun c12 => ?_)
        · exact absurd c12 (by rw [hv]; exact nI_ge (by omega) (by omega))
        · refine A_iload_n dX10_nextPaid_15 rfl rfl ?_
          refine A_iload dX10_nextPaid_16 rfl ?_
          refine A_ishr dX10_nextPaid_18 ?_
          refine A_iconst (v := 1) dX10_nextPaid_19 (by decide) ?_
          refine A_iand dX10_nextPaid_20 ?_
          refine A_iconst (v := 1) dX10_nextPaid_21 (by decide) ?_
          refine A_icmp_eq 75 dX10_nextPaid_22 (by decide) (fun c22 => ?_) (fun c22 => ?_)
          · refine A_inc 1 (lv1 := [_, _, _, _, _, _]) dX10_nextPaid_75 rfl (by decide) rfl rfl ?_
            refine A_goto 6 dX10_nextPaid_78 (by decide) ?_
            rw [nI_1]
            have u1 : ¬ (dn >>> (nI i &&& 31)) &&& 1 = 0 := fun z => by rw [z] at c22; exact absurd c22 (by decide)
            rw [if_pos u1, ite_self] at hs
            rw [← hs]
            exact ih (i + 1) (by omega)
          · refine A_aload_n dX10_nextPaid_25 rfl rfl ?_
            refine A_iload_n dX10_nextPaid_26 rfl rfl ?_
            refine A_iload dX10_nextPaid_27 rfl ?_
            refine A_callVi dX10_nextPaid_29 m_X10_400 cb_X10_debt (As := [_, _]) rfl HM_at0 rfl (k_debt G (by omega) (by omega)) rfl ⟨by decide, by decide⟩ (Nat.le_of_ble_eq_true rfl) ⟨by decide, by decide⟩ (fun x29 h29 hq => ?_)
            obtain ⟨rfl, rfl⟩ := hq
            refine A_if_ne 38 dX10_nextPaid_32 (by decide) (fun c32 => ?_) (fun c32 => ?_)
            · refine A_iload dX10_nextPaid_38 rfl ?_
              refine A_iconst (v := (-1)) dX10_nextPaid_40 (by decide) ?_
              refine A_icmp_eq 66 dX10_nextPaid_41 (by decide) (fun c41 => ?_) (fun c41 => ?_)
              · refine A_iload dX10_nextPaid_66 rfl ?_
                refine A_goto 73 dX10_nextPaid_68 (by decide) ?_
                refine A_istore (lv1 := [_, _, _, _, _, _]) dX10_nextPaid_73 (Nat.le_of_ble_eq_true rfl) rfl rfl ?_
                refine A_inc 1 (lv1 := [_, _, _, _, _, _]) dX10_nextPaid_75 rfl (by decide) rfl rfl ?_
                refine A_goto 6 dX10_nextPaid_78 (by decide) ?_
                rw [nI_1]
                have p0 : ¬ m 13 (6 * v + i) ≤ 0 := fun z => c32 ((d_pos hD _).mp z)
                have u0 : ¬ ¬ (dn >>> (nI i &&& 31)) &&& 1 = 0 := fun z => c22 (hb01.resolve_left z)
                rw [if_neg p0, if_neg u0, if_pos rfl] at hs
                rw [← hs]
                exact ih (i + 1) (by omega)
              · exact absurd rfl c41
            · refine A_goto 75 dX10_nextPaid_35 (by decide) ?_
              refine A_inc 1 (lv1 := [_, _, _, _, _, _]) dX10_nextPaid_75 rfl (by decide) rfl rfl ?_
              refine A_goto 6 dX10_nextPaid_78 (by decide) ?_
              rw [nI_1]
              rw [if_pos ((d_pos hD _).mpr c32)] at hs
              rw [← hs]
              exact ih (i + 1) (by omega)
      · have n1 : ¬ nI j = -1 := fun z => by have e := congrArg Int32.toInt z; rw [nI_toInt (by omega)] at e; have : (-1 : Int32).toInt = -1 := rfl; omega
        rw [eN, if_neg n1, tcl_nI (by omega)] at hs
        rw [eN]
        refine A_iload dX10_nextPaid_6 rfl ?_
        refine A_aload_n dX10_nextPaid_8 rfl rfl ?_
        refine A_callVi dX10_nextPaid_9 m_X10_89 cb_X10_villages (As := []) rfl HM_at0 rfl (k_villages G) rfl ⟨by decide, by decide⟩ (Nat.le_of_ble_eq_true rfl) ⟨by decide, by decide⟩ (fun x9 h9 hq => ?_)
        obtain ⟨rfl, rfl⟩ := hq
        refine A_icmp_ge 81 dX10_nextPaid_12 (by decide) (fun c12 => ?_) (fun c12 => ?_)
        · exact absurd c12 (by rw [hv]; exact nI_ge (by omega) (by omega))
        · refine A_iload_n dX10_nextPaid_15 rfl rfl ?_
          refine A_iload dX10_nextPaid_16 rfl ?_
          refine A_ishr dX10_nextPaid_18 ?_
          refine A_iconst (v := 1) dX10_nextPaid_19 (by decide) ?_
          refine A_iand dX10_nextPaid_20 ?_
          refine A_iconst (v := 1) dX10_nextPaid_21 (by decide) ?_
          refine A_icmp_eq 75 dX10_nextPaid_22 (by decide) (fun c22 => ?_) (fun c22 => ?_)
          · refine A_inc 1 (lv1 := [_, _, _, _, _, _]) dX10_nextPaid_75 rfl (by decide) rfl rfl ?_
            refine A_goto 6 dX10_nextPaid_78 (by decide) ?_
            rw [nI_1]
            have u1 : ¬ (dn >>> (nI i &&& 31)) &&& 1 = 0 := fun z => by rw [z] at c22; exact absurd c22 (by decide)
            rw [if_pos u1, ite_self] at hs
            rw [← hs]
            exact ih (i + 1) (by omega)
          · refine A_aload_n dX10_nextPaid_25 rfl rfl ?_
            refine A_iload_n dX10_nextPaid_26 rfl rfl ?_
            refine A_iload dX10_nextPaid_27 rfl ?_
            refine A_callVi dX10_nextPaid_29 m_X10_400 cb_X10_debt (As := [_, _]) rfl HM_at0 rfl (k_debt G (by omega) (by omega)) rfl ⟨by decide, by decide⟩ (Nat.le_of_ble_eq_true rfl) ⟨by decide, by decide⟩ (fun x29 h29 hq => ?_)
            obtain ⟨rfl, rfl⟩ := hq
            refine A_if_ne 38 dX10_nextPaid_32 (by decide) (fun c32 => ?_) (fun c32 => ?_)
            · refine A_iload dX10_nextPaid_38 rfl ?_
              refine A_iconst (v := (-1)) dX10_nextPaid_40 (by decide) ?_
              refine A_icmp_eq 66 dX10_nextPaid_41 (by decide) (fun c41 => ?_) (fun c41 => ?_)
              · exact absurd c41 n1
              · refine A_iload_n dX10_nextPaid_44 rfl rfl ?_
                refine A_iconst (v := 1) dX10_nextPaid_45 (by decide) ?_
                refine A_icmp_ne 71 dX10_nextPaid_46 (by decide) (fun c46 => ?_) (fun c46 => ?_)
                · refine A_iload dX10_nextPaid_71 rfl ?_
                  refine A_istore (lv1 := [_, _, _, _, _, _]) dX10_nextPaid_73 (Nat.le_of_ble_eq_true rfl) rfl rfl ?_
                  refine A_inc 1 (lv1 := [_, _, _, _, _, _]) dX10_nextPaid_75 rfl (by decide) rfl rfl ?_
                  refine A_goto 6 dX10_nextPaid_78 (by decide) ?_
                  rw [nI_1]
                  have p0 : ¬ m 13 (6 * v + i) ≤ 0 := fun z => c32 ((d_pos hD _).mp z)
                  have u0 : ¬ ¬ (dn >>> (nI i &&& 31)) &&& 1 = 0 := fun z => c22 (hb01.resolve_left z)
                  rw [if_neg p0, if_neg u0, if_pos c46] at hs
                  rw [← hs]
                  exact ih (i + 1) (by omega)
                · refine A_aload_n dX10_nextPaid_49 rfl rfl ?_
                  refine A_iload_n dX10_nextPaid_50 rfl rfl ?_
                  refine A_iload dX10_nextPaid_51 rfl ?_
                  refine A_callVi dX10_nextPaid_53 m_X10_400 cb_X10_debt (As := [_, _]) rfl HM_at0 rfl (k_debt G (by omega) (by omega)) rfl ⟨by decide, by decide⟩ (Nat.le_of_ble_eq_true rfl) ⟨by decide, by decide⟩ (fun x53 h53 hq => ?_)
                  obtain ⟨rfl, rfl⟩ := hq
                  refine A_aload_n dX10_nextPaid_56 rfl rfl ?_
                  refine A_iload_n dX10_nextPaid_57 rfl rfl ?_
                  refine A_iload dX10_nextPaid_58 rfl ?_
                  refine A_callVi dX10_nextPaid_60 m_X10_400 cb_X10_debt (As := [_, _]) rfl HM_at0 rfl (k_debt G (by omega) (by omega)) rfl ⟨by decide, by decide⟩ (Nat.le_of_ble_eq_true rfl) ⟨by decide, by decide⟩ (fun x60 h60 hq => ?_)
                  obtain ⟨rfl, rfl⟩ := hq
                  refine A_icmp_ge 71 dX10_nextPaid_63 (by decide) (fun c63 => ?_) (fun c63 => ?_)
                  · refine A_iload dX10_nextPaid_71 rfl ?_
                    refine A_istore (lv1 := [_, _, _, _, _, _]) dX10_nextPaid_73 (Nat.le_of_ble_eq_true rfl) rfl rfl ?_
                    refine A_inc 1 (lv1 := [_, _, _, _, _, _]) dX10_nextPaid_75 rfl (by decide) rfl rfl ?_
                    refine A_goto 6 dX10_nextPaid_78 (by decide) ?_
                    rw [nI_1]
                    have p0 : ¬ m 13 (6 * v + i) ≤ 0 := fun z => c32 ((d_pos hD _).mp z)
                    have u0 : ¬ ¬ (dn >>> (nI i &&& 31)) &&& 1 = 0 := fun z => c22 (hb01.resolve_left z)
                    rw [if_neg p0, if_neg u0, if_neg (fun z => z c46), if_pos c63] at hs
                    rw [← hs]
                    exact ih (i + 1) (by omega)
                  · refine A_iload dX10_nextPaid_66 rfl ?_
                    refine A_goto 73 dX10_nextPaid_68 (by decide) ?_
                    refine A_istore (lv1 := [_, _, _, _, _, _]) dX10_nextPaid_73 (Nat.le_of_ble_eq_true rfl) rfl rfl ?_
                    refine A_inc 1 (lv1 := [_, _, _, _, _, _]) dX10_nextPaid_75 rfl (by decide) rfl rfl ?_
                    refine A_goto 6 dX10_nextPaid_78 (by decide) ?_
                    rw [nI_1]
                    have p0 : ¬ m 13 (6 * v + i) ≤ 0 := fun z => c32 ((d_pos hD _).mp z)
                    have u0 : ¬ ¬ (dn >>> (nI i &&& 31)) &&& 1 = 0 := fun z => c22 (hb01.resolve_left z)
                    rw [if_neg p0, if_neg u0, if_neg (fun z => z c46), if_neg c63] at hs
                    rw [← hs]
                    exact ih (i + 1) (by omega)
            · refine A_goto 75 dX10_nextPaid_35 (by decide) ?_
              refine A_inc 1 (lv1 := [_, _, _, _, _, _]) dX10_nextPaid_75 rfl (by decide) rfl rfl ?_
              refine A_goto 6 dX10_nextPaid_78 (by decide) ?_
              rw [nI_1]
              rw [if_pos ((d_pos hD _).mpr c32)] at hs
              rw [← hs]
              exact ih (i + 1) (by omega)
  refine A_iconst (v := (-1)) dX10_nextPaid_0 (by decide) ?_
  refine A_istore (lv1 := [_, _, _, _, _, _]) dX10_nextPaid_1 (Nat.le_of_ble_eq_true rfl) rfl rfl ?_
  refine A_iconst (v := 0) dX10_nextPaid_3 (by decide) ?_
  refine A_istore (lv1 := [_, _, _, _, _, _]) dX10_nextPaid_4 (Nat.le_of_ble_eq_true rfl) rfl rfl ?_
  exact loop nv 0 (by omega)
