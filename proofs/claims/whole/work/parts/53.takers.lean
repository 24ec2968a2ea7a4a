/-! THE REFERENCE: sums of a YEAR; TAKERS counted, kept, brought back, set -/
theorem k_brought (G : GX) {b : Nat} {m : CT} {ml : Nat → Nat → Int64} {r : Nat → Option AE} {n : Nat} {nv nc nf nl wk : Nat} (hI : IM m nv nc nf nl wk) : MA G 0 yX10_brought cX10_brought 3 (some .int) 0 0 [.ref b] (HM b m ml r n) (qI fun x h1 => x = sumI (fun i => m 11 (3 * i + 0)) (nc) ∧ h1 = HM b m ml r n) := by
  refine MA.of (own := RX10) false [some (.ref b), none, none] (by decide +kernel) rfl (fun h => by cases h) (Nat.le_of_ble_eq_true rfl) rfl (fun X => ?_)
  obtain ⟨hv, hv6, hc, hc8, hf, hf3, hl, hl8, hw, hw30, gC, gL⟩ := id hI
  have loop : ∀ (k i : Nat) , i + k = nc → WA X G RX10 cX10_brought false (some .int) (qI fun x h1 => x = sumI (fun i => m 11 (3 * i + 0)) (nc) ∧ h1 = HM b m ml r n) 0 0 0 (HM b m ml r n) 0 0 4 [some (.ref b), some (.int (sumI (fun i => m 11 (3 * i + 0)) i)), some (.int (nI i))] [] := by
    intro k
    induction k with
    | zero =>
      intro i  hk 
      refine A_iload_n dX10_brought_4 rfl rfl ?_
      refine A_aload_n dX10_brought_5 rfl rfl ?_
      refine A_get dX10_brought_6 f_X10_9 HM_at0 rfl ?_
      refine A_iconst (v := 1) dX10_brought_9 (by decide) ?_
      refine A_ialdK (i := 1) dX10_brought_10 (HM_at (by decide)) rfl (by omega) (by decide) ?_
      refine A_icmp_ge 33 dX10_brought_11 (by decide) (fun c11 => ?_) (fun c11 => ?_)
      · refine A_iload_n dX10_brought_33 rfl rfl ?_
        exact A_iret dX10_brought_34 ⟨by rw [show nc = i by omega], rfl⟩ ⟨by decide, by decide⟩
      · exact absurd (by rw [hc]; exact nI_le (by omega) (by omega)) c11
    | succ k ih =>
      intro i  hk 
      have hi : i < nc := by omega
      refine A_iload_n dX10_brought_4 rfl rfl ?_
      refine A_aload_n dX10_brought_5 rfl rfl ?_
      refine A_get dX10_brought_6 f_X10_9 HM_at0 rfl ?_
      refine A_iconst (v := 1) dX10_brought_9 (by decide) ?_
      refine A_ialdK (i := 1) dX10_brought_10 (HM_at (by decide)) rfl (by omega) (by decide) ?_
      refine A_icmp_ge 33 dX10_brought_11 (by decide) (fun c11 => ?_) (fun c11 => ?_)
      · exact absurd c11 (by rw [hc]; exact nI_ge (by omega) (by omega))
      · refine A_iload_n dX10_brought_14 rfl rfl ?_
        refine A_aload_n dX10_brought_15 rfl rfl ?_
        refine A_get dX10_brought_16 f_X10_46 HM_at0 rfl ?_
        refine A_iconst (v := 3) dX10_brought_19 (by decide) ?_
        refine A_iload_n dX10_brought_20 rfl rfl ?_
        refine A_imul dX10_brought_21 ?_
        refine A_iconst (v := 0) dX10_brought_22 (by decide) ?_
        refine A_iadd dX10_brought_23 ?_
        refine A_ialdK (i := ((3 * i) + 0)) dX10_brought_24 (HM_at (by decide)) (ixA (ixU rfl rfl) rfl) (by omega) (by decide) ?_
        refine A_iadd dX10_brought_25 ?_
        refine A_istore_n (lv1 := [_, _, _]) dX10_brought_26 rfl (Nat.le_of_ble_eq_true rfl) rfl rfl ?_
        refine A_inc 1 (lv1 := [_, _, _]) dX10_brought_27 rfl (by decide) rfl rfl ?_
        refine A_goto 4 dX10_brought_30 (by decide) ?_
        rw [nI_1]
        exact ih (i + 1) (by omega)
  refine A_iconst (v := 0) dX10_brought_0 (by decide) ?_
  refine A_istore_n (lv1 := [_, _, _]) dX10_brought_1 rfl (Nat.le_of_ble_eq_true rfl) rfl rfl ?_
  refine A_iconst (v := 0) dX10_brought_2 (by decide) ?_
  refine A_istore_n (lv1 := [_, _, _]) dX10_brought_3 rfl (Nat.le_of_ble_eq_true rfl) rfl rfl ?_
  exact loop nc 0 (by omega)

theorem k_shortOfFlood (G : GX) {b : Nat} {m : CT} {ml : Nat → Nat → Int64} {r : Nat → Option AE} {n : Nat} {i : Nat} (hi : i < 3) : MA G 0 yX10_shortOfFlood cX10_shortOfFlood 2 (some .int) 0 0 [.ref b, .int (nI i)] (HM b m ml r n) (qI fun x9 h1 => x9 = m 9 (3 * i + 1) - m 9 (3 * i + 2) ∧ h1 = HM b m ml r n) := by
  refine MA.of (own := RX10) false [some (.ref b), some (.int (nI i))] (by decide +kernel) rfl (fun h => by cases h) (Nat.le_of_ble_eq_true rfl) rfl (fun X => ?_)
  refine A_aload_n dX10_shortOfFlood_0 rfl rfl ?_
  refine A_get dX10_shortOfFlood_1 f_X10_40 HM_at0 rfl ?_
  refine A_iconst (v := 3) dX10_shortOfFlood_4 (by decide) ?_
  refine A_iload_n dX10_shortOfFlood_5 rfl rfl ?_
  refine A_imul dX10_shortOfFlood_6 ?_
  refine A_iconst (v := 1) dX10_shortOfFlood_7 (by decide) ?_
  refine A_iadd dX10_shortOfFlood_8 ?_
  refine A_ialdK (i := ((3 * i) + 1)) dX10_shortOfFlood_9 (HM_at (by decide)) (ixA (ixU rfl rfl) rfl) (by omega) (by decide) ?_
  refine A_aload_n dX10_shortOfFlood_10 rfl rfl ?_
  refine A_get dX10_shortOfFlood_11 f_X10_40 HM_at0 rfl ?_
  refine A_iconst (v := 3) dX10_shortOfFlood_14 (by decide) ?_
  refine A_iload_n dX10_shortOfFlood_15 rfl rfl ?_
  refine A_imul dX10_shortOfFlood_16 ?_
  refine A_iconst (v := 2) dX10_shortOfFlood_17 (by decide) ?_
  refine A_iadd dX10_shortOfFlood_18 ?_
  refine A_ialdK (i := ((3 * i) + 2)) dX10_shortOfFlood_19 (HM_at (by decide)) (ixA (ixU rfl rfl) rfl) (by omega) (by decide) ?_
  refine A_isub dX10_shortOfFlood_20 ?_
  exact A_iret dX10_shortOfFlood_21 ⟨rfl, rfl⟩ ⟨by decide, by decide⟩

theorem k_shortOfLoan (G : GX) {b : Nat} {m : CT} {ml : Nat → Nat → Int64} {r : Nat → Option AE} {n : Nat} {i : Nat} (hi : i < 8) : MA G 0 yX10_shortOfLoan cX10_shortOfLoan 2 (some .int) 0 0 [.ref b, .int (nI i)] (HM b m ml r n) (qI fun x9 h1 => x9 = m 10 (3 * i + 1) - m 10 (3 * i + 2) ∧ h1 = HM b m ml r n) := by
  refine MA.of (own := RX10) false [some (.ref b), some (.int (nI i))] (by decide +kernel) rfl (fun h => by cases h) (Nat.le_of_ble_eq_true rfl) rfl (fun X => ?_)
  refine A_aload_n dX10_shortOfLoan_0 rfl rfl ?_
  refine A_get dX10_shortOfLoan_1 f_X10_43 HM_at0 rfl ?_
  refine A_iconst (v := 3) dX10_shortOfLoan_4 (by decide) ?_
  refine A_iload_n dX10_shortOfLoan_5 rfl rfl ?_
  refine A_imul dX10_shortOfLoan_6 ?_
  refine A_iconst (v := 1) dX10_shortOfLoan_7 (by decide) ?_
  refine A_iadd dX10_shortOfLoan_8 ?_
  refine A_ialdK (i := ((3 * i) + 1)) dX10_shortOfLoan_9 (HM_at (by decide)) (ixA (ixU rfl rfl) rfl) (by omega) (by decide) ?_
  refine A_aload_n dX10_shortOfLoan_10 rfl rfl ?_
  refine A_get dX10_shortOfLoan_11 f_X10_43 HM_at0 rfl ?_
  refine A_iconst (v := 3) dX10_shortOfLoan_14 (by decide) ?_
  refine A_iload_n dX10_shortOfLoan_15 rfl rfl ?_
  refine A_imul dX10_shortOfLoan_16 ?_
  refine A_iconst (v := 2) dX10_shortOfLoan_17 (by decide) ?_
  refine A_iadd dX10_shortOfLoan_18 ?_
  refine A_ialdK (i := ((3 * i) + 2)) dX10_shortOfLoan_19 (HM_at (by decide)) (ixA (ixU rfl rfl) rfl) (by omega) (by decide) ?_
  refine A_isub dX10_shortOfLoan_20 ?_
  exact A_iret dX10_shortOfLoan_21 ⟨rfl, rfl⟩ ⟨by decide, by decide⟩

theorem k_shortOfFloods (G : GX) {b : Nat} {m : CT} {ml : Nat → Nat → Int64} {r : Nat → Option AE} {n : Nat} {nv nc nf nl wk : Nat} (hI : IM m nv nc nf nl wk) : MA G 1 yX10_shortOfFloods cX10_shortOfFloods 3 (some .int) 0 0 [.ref b] (HM b m ml r n) (qI fun x h1 => x = sumI (fun i => m 9 (3 * i + 1) - m 9 (3 * i + 2)) (nf) ∧ h1 = HM b m ml r n) := by
  refine MA.of (own := RX10) false [some (.ref b), none, none] (by decide +kernel) rfl (fun h => by cases h) (Nat.le_of_ble_eq_true rfl) rfl (fun X => ?_)
  obtain ⟨hv, hv6, hc, hc8, hf, hf3, hl, hl8, hw, hw30, gC, gL⟩ := id hI
  have loop : ∀ (k i : Nat) , i + k = nf → WA X G RX10 cX10_shortOfFloods false (some .int) (qI fun x h1 => x = sumI (fun i => m 9 (3 * i + 1) - m 9 (3 * i + 2)) (nf) ∧ h1 = HM b m ml r n) 1 0 0 (HM b m ml r n) 0 0 4 [some (.ref b), some (.int (sumI (fun i => m 9 (3 * i + 1) - m 9 (3 * i + 2)) i)), some (.int (nI i))] [] := by
    intro k
    induction k with
    | zero =>
      intro i  hk 
      refine A_iload_n dX10_shortOfFloods_4 rfl rfl ?_
      refine A_aload_n dX10_shortOfFloods_5 rfl rfl ?_
      refine A_get dX10_shortOfFloods_6 f_X10_9 HM_at0 rfl ?_
      refine A_iconst (v := 2) dX10_shortOfFloods_9 (by decide) ?_
      refine A_ialdK (i := 2) dX10_shortOfFloods_10 (HM_at (by decide)) rfl (by omega) (by decide) ?_
      refine A_icmp_ge 28 dX10_shortOfFloods_11 (by decide) (fun c11 => ?_) (fun c11 => ?_)
      · refine A_iload_n dX10_shortOfFloods_28 rfl rfl ?_
        exact A_iret dX10_shortOfFloods_29 ⟨by rw [show nf = i by omega], rfl⟩ ⟨by decide, by decide⟩
      · exact absurd (by rw [hf]; exact nI_le (by omega) (by omega)) c11
    | succ k ih =>
      intro i  hk 
      have hi : i < nf := by omega
      refine A_iload_n dX10_shortOfFloods_4 rfl rfl ?_
      refine A_aload_n dX10_shortOfFloods_5 rfl rfl ?_
      refine A_get dX10_shortOfFloods_6 f_X10_9 HM_at0 rfl ?_
      refine A_iconst (v := 2) dX10_shortOfFloods_9 (by decide) ?_
      refine A_ialdK (i := 2) dX10_shortOfFloods_10 (HM_at (by decide)) rfl (by omega) (by decide) ?_
      refine A_icmp_ge 28 dX10_shortOfFloods_11 (by decide) (fun c11 => ?_) (fun c11 => ?_)
      · exact absurd c11 (by rw [hf]; exact nI_ge (by omega) (by omega))
      · refine A_iload_n dX10_shortOfFloods_14 rfl rfl ?_
        refine A_aload_n dX10_shortOfFloods_15 rfl rfl ?_
        refine A_iload_n dX10_shortOfFloods_16 rfl rfl ?_
        refine A_callVi dX10_shortOfFloods_17 m_X10_297 cb_X10_shortOfFlood (As := [_]) rfl HM_at0 rfl (k_shortOfFlood G (by omega)) rfl ⟨by decide, by decide⟩ (Nat.le_of_ble_eq_true rfl) ⟨by decide, by decide⟩ (fun x17 h17 hq => ?_)
        obtain ⟨rfl, rfl⟩ := hq
        refine A_iadd dX10_shortOfFloods_20 ?_
        refine A_istore_n (lv1 := [_, _, _]) dX10_shortOfFloods_21 rfl (Nat.le_of_ble_eq_true rfl) rfl rfl ?_
        refine A_inc 1 (lv1 := [_, _, _]) dX10_shortOfFloods_22 rfl (by decide) rfl rfl ?_
        refine A_goto 4 dX10_shortOfFloods_25 (by decide) ?_
        rw [nI_1]
        exact ih (i + 1) (by omega)
  refine A_iconst (v := 0) dX10_shortOfFloods_0 (by decide) ?_
  refine A_istore_n (lv1 := [_, _, _]) dX10_shortOfFloods_1 rfl (Nat.le_of_ble_eq_true rfl) rfl rfl ?_
  refine A_iconst (v := 0) dX10_shortOfFloods_2 (by decide) ?_
  refine A_istore_n (lv1 := [_, _, _]) dX10_shortOfFloods_3 rfl (Nat.le_of_ble_eq_true rfl) rfl rfl ?_
  exact loop nf 0 (by omega)

theorem k_shortOfLoans (G : GX) {b : Nat} {m : CT} {ml : Nat → Nat → Int64} {r : Nat → Option AE} {n : Nat} {nv nc nf nl wk : Nat} (hI : IM m nv nc nf nl wk) : MA G 1 yX10_shortOfLoans cX10_shortOfLoans 3 (some .int) 0 0 [.ref b] (HM b m ml r n) (qI fun x h1 => x = sumI (fun i => m 10 (3 * i + 1) - m 10 (3 * i + 2)) (nl) ∧ h1 = HM b m ml r n) := by
  refine MA.of (own := RX10) false [some (.ref b), none, none] (by decide +kernel) rfl (fun h => by cases h) (Nat.le_of_ble_eq_true rfl) rfl (fun X => ?_)
  obtain ⟨hv, hv6, hc, hc8, hf, hf3, hl, hl8, hw, hw30, gC, gL⟩ := id hI
  have loop : ∀ (k i : Nat) , i + k = nl → WA X G RX10 cX10_shortOfLoans false (some .int) (qI fun x h1 => x = sumI (fun i => m 10 (3 * i + 1) - m 10 (3 * i + 2)) (nl) ∧ h1 = HM b m ml r n) 1 0 0 (HM b m ml r n) 0 0 4 [some (.ref b), some (.int (sumI (fun i => m 10 (3 * i + 1) - m 10 (3 * i + 2)) i)), some (.int (nI i))] [] := by
    intro k
    induction k with
    | zero =>
      intro i  hk 
      refine A_iload_n dX10_shortOfLoans_4 rfl rfl ?_
      refine A_aload_n dX10_shortOfLoans_5 rfl rfl ?_
      refine A_get dX10_shortOfLoans_6 f_X10_9 HM_at0 rfl ?_
      refine A_iconst (v := 3) dX10_shortOfLoans_9 (by decide) ?_
      refine A_ialdK (i := 3) dX10_shortOfLoans_10 (HM_at (by decide)) rfl (by omega) (by decide) ?_
      refine A_icmp_ge 28 dX10_shortOfLoans_11 (by decide) (fun c11 => ?_) (fun c11 => ?_)
      · refine A_iload_n dX10_shortOfLoans_28 rfl rfl ?_
        exact A_iret dX10_shortOfLoans_29 ⟨by rw [show nl = i by omega], rfl⟩ ⟨by decide, by decide⟩
      · exact absurd (by rw [hl]; exact nI_le (by omega) (by omega)) c11
    | succ k ih =>
      intro i  hk 
      have hi : i < nl := by omega
      refine A_iload_n dX10_shortOfLoans_4 rfl rfl ?_
      refine A_aload_n dX10_shortOfLoans_5 rfl rfl ?_
      refine A_get dX10_shortOfLoans_6 f_X10_9 HM_at0 rfl ?_
      refine A_iconst (v := 3) dX10_shortOfLoans_9 (by decide) ?_
      refine A_ialdK (i := 3) dX10_shortOfLoans_10 (HM_at (by decide)) rfl (by omega) (by decide) ?_
      refine A_icmp_ge 28 dX10_shortOfLoans_11 (by decide) (fun c11 => ?_) (fun c11 => ?_)
      · exact absurd c11 (by rw [hl]; exact nI_ge (by omega) (by omega))
      · refine A_iload_n dX10_shortOfLoans_14 rfl rfl ?_
        refine A_aload_n dX10_shortOfLoans_15 rfl rfl ?_
        refine A_iload_n dX10_shortOfLoans_16 rfl rfl ?_
        refine A_callVi dX10_shortOfLoans_17 m_X10_300 cb_X10_shortOfLoan (As := [_]) rfl HM_at0 rfl (k_shortOfLoan G (by omega)) rfl ⟨by decide, by decide⟩ (Nat.le_of_ble_eq_true rfl) ⟨by decide, by decide⟩ (fun x17 h17 hq => ?_)
        obtain ⟨rfl, rfl⟩ := hq
        refine A_iadd dX10_shortOfLoans_20 ?_
        refine A_istore_n (lv1 := [_, _, _]) dX10_shortOfLoans_21 rfl (Nat.le_of_ble_eq_true rfl) rfl rfl ?_
        refine A_inc 1 (lv1 := [_, _, _]) dX10_shortOfLoans_22 rfl (by decide) rfl rfl ?_
        refine A_goto 4 dX10_shortOfLoans_25 (by decide) ?_
        rw [nI_1]
        exact ih (i + 1) (by omega)
  refine A_iconst (v := 0) dX10_shortOfLoans_0 (by decide) ?_
  refine A_istore_n (lv1 := [_, _, _]) dX10_shortOfLoans_1 rfl (Nat.le_of_ble_eq_true rfl) rfl rfl ?_
  refine A_iconst (v := 0) dX10_shortOfLoans_2 (by decide) ?_
  refine A_istore_n (lv1 := [_, _, _]) dX10_shortOfLoans_3 rfl (Nat.le_of_ble_eq_true rfl) rfl rfl ?_
  exact loop nl 0 (by omega)

def shortM (m : CT) (nf nl : Nat) : Int32 := sumI (fun i => m 9 (3 * i + 1) - m 9 (3 * i + 2)) nf + sumI (fun i => m 10 (3 * i + 1) - m 10 (3 * i + 2)) nl
theorem k_shortOfAll (G : GX) {b : Nat} {m : CT} {ml : Nat → Nat → Int64} {r : Nat → Option AE} {n : Nat} {nv nc nf nl wk : Nat} (hI : IM m nv nc nf nl wk) : MA G 2 yX10_shortOfAll cX10_shortOfAll 1 (some .int) 0 0 [.ref b] (HM b m ml r n) (qI fun x9 h1 => x9 = shortM m nf nl ∧ h1 = HM b m ml r n) := by
  refine MA.of (own := RX10) false [some (.ref b)] (by decide +kernel) rfl (fun h => by cases h) (Nat.le_of_ble_eq_true rfl) rfl (fun X => ?_)
  refine A_aload_n dX10_shortOfAll_0 rfl rfl ?_
  refine A_callVi dX10_shortOfAll_1 m_X10_303 cb_X10_shortOfFloods (As := []) rfl HM_at0 rfl (k_shortOfFloods G hI) rfl ⟨by decide, by decide⟩ (Nat.le_of_ble_eq_true rfl) ⟨by decide, by decide⟩ (fun x1 h1 hq => ?_)
  obtain ⟨rfl, rfl⟩ := hq
  refine A_aload_n dX10_shortOfAll_4 rfl rfl ?_
  refine A_callVi dX10_shortOfAll_5 m_X10_306 cb_X10_shortOfLoans (As := []) rfl HM_at0 rfl (k_shortOfLoans G hI) rfl ⟨by decide, by decide⟩ (Nat.le_of_ble_eq_true rfl) ⟨by decide, by decide⟩ (fun x5 h5 hq => ?_)
  obtain ⟨rfl, rfl⟩ := hq
  refine A_iadd dX10_shortOfAll_8 ?_
  exact A_iret dX10_shortOfAll_9 ⟨rfl, rfl⟩ ⟨by decide, by decide⟩

theorem k_floodSum (G : GX) {b : Nat} {m : CT} {ml : Nat → Nat → Int64} {r : Nat → Option AE} {n : Nat} {nv nc nf nl wk : Nat} {q : Nat} (hI : IM m nv nc nf nl wk) (hq3 : q < 3) : MA G 0 yX10_floodSum cX10_floodSum 4 (some .int) 0 0 [.ref b, .int (nI q)] (HM b m ml r n) (qI fun x h1 => x = sumI (fun i => m 9 (3 * i + q)) (nf) ∧ h1 = HM b m ml r n) := by
  refine MA.of (own := RX10) false [some (.ref b), some (.int (nI q)), none, none] (by decide +kernel) rfl (fun h => by cases h) (Nat.le_of_ble_eq_true rfl) rfl (fun X => ?_)
  obtain ⟨hv, hv6, hc, hc8, hf, hf3, hl, hl8, hw, hw30, gC, gL⟩ := id hI
  have loop : ∀ (k i : Nat) , i + k = nf → WA X G RX10 cX10_floodSum false (some .int) (qI fun x h1 => x = sumI (fun i => m 9 (3 * i + q)) (nf) ∧ h1 = HM b m ml r n) 0 0 0 (HM b m ml r n) 0 0 4 [some (.ref b), some (.int (nI q)), some (.int (sumI (fun i => m 9 (3 * i + q)) i)), some (.int (nI i))] [] := by
    intro k
    induction k with
    | zero =>
      intro i  hk 
      refine A_iload_n dX10_floodSum_4 rfl rfl ?_
      refine A_aload_n dX10_floodSum_5 rfl rfl ?_
      refine A_get dX10_floodSum_6 f_X10_9 HM_at0 rfl ?_
      refine A_iconst (v := 2) dX10_floodSum_9 (by decide) ?_
      refine A_ialdK (i := 2) dX10_floodSum_10 (HM_at (by decide)) rfl (by omega) (by decide) ?_
      refine A_icmp_ge 33 dX10_floodSum_11 (by decide) (fun c11 => ?_) (fun c11 => ?_)
      · refine A_iload_n dX10_floodSum_33 rfl rfl ?_
        exact A_iret dX10_floodSum_34 ⟨by rw [show nf = i by omega], rfl⟩ ⟨by decide, by decide⟩
      · exact absurd (by rw [hf]; exact nI_le (by omega) (by omega)) c11
    | succ k ih =>
      intro i  hk 
      have hi : i < nf := by omega
      refine A_iload_n dX10_floodSum_4 rfl rfl ?_
      refine A_aload_n dX10_floodSum_5 rfl rfl ?_
      refine A_get dX10_floodSum_6 f_X10_9 HM_at0 rfl ?_
      refine A_iconst (v := 2) dX10_floodSum_9 (by decide) ?_
      refine A_ialdK (i := 2) dX10_floodSum_10 (HM_at (by decide)) rfl (by omega) (by decide) ?_
      refine A_icmp_ge 33 dX10_floodSum_11 (by decide) (fun c11 => ?_) (fun c11 => ?_)
      · exact absurd c11 (by rw [hf]; exact nI_ge (by omega) (by omega))
      · refine A_iload_n dX10_floodSum_14 rfl rfl ?_
        refine A_aload_n dX10_floodSum_15 rfl rfl ?_
        refine A_get dX10_floodSum_16 f_X10_40 HM_at0 rfl ?_
        refine A_iconst (v := 3) dX10_floodSum_19 (by decide) ?_
        refine A_iload_n dX10_floodSum_20 rfl rfl ?_
        refine A_imul dX10_floodSum_21 ?_
        refine A_iload_n dX10_floodSum_22 rfl rfl ?_
        refine A_iadd dX10_floodSum_23 ?_
        refine A_ialdK (i := ((3 * i) + q)) dX10_floodSum_24 (HM_at (by decide)) (ixA (ixU rfl rfl) rfl) (by omega) (by decide) ?_
        refine A_iadd dX10_floodSum_25 ?_
        refine A_istore_n (lv1 := [_, _, _, _]) dX10_floodSum_26 rfl (Nat.le_of_ble_eq_true rfl) rfl rfl ?_
        refine A_inc 1 (lv1 := [_, _, _, _]) dX10_floodSum_27 rfl (by decide) rfl rfl ?_
        refine A_goto 4 dX10_floodSum_30 (by decide) ?_
        rw [nI_1]
        exact ih (i + 1) (by omega)
  refine A_iconst (v := 0) dX10_floodSum_0 (by decide) ?_
  refine A_istore_n (lv1 := [_, _, _, _]) dX10_floodSum_1 rfl (Nat.le_of_ble_eq_true rfl) rfl rfl ?_
  refine A_iconst (v := 0) dX10_floodSum_2 (by decide) ?_
  refine A_istore_n (lv1 := [_, _, _, _]) dX10_floodSum_3 rfl (Nat.le_of_ble_eq_true rfl) rfl rfl ?_
  exact loop nf 0 (by omega)

theorem k_takersMany (G : GX) {b : Nat} {m : CT} {ml : Nat → Nat → Int64} {r : Nat → Option AE} {n : Nat} {nv nc nf nl wk : Nat} (hI : IM m nv nc nf nl wk) : MA G 1 yX10_takersMany cX10_takersMany 3 (some .int) 0 0 [.ref b] (HM b m ml r n) (qI fun x9 h1 => x9 = nI (tot nv nf) ∧ h1 = HM b m ml r n) := by
  refine MA.of (own := RX10) false [some (.ref b), none, none] (by decide +kernel) rfl (fun h => by cases h) (Nat.le_of_ble_eq_true rfl) rfl (fun X => ?_)
  obtain ⟨hv, hv6, hc, hc8, hf, hf3, hl, hl8, hw, hw30, gC, gL⟩ := id hI
  have loop : ∀ (k i : Nat) , i + k = nf → WA X G RX10 cX10_takersMany false (some .int) (qI fun x h1 => x = nI (tot nv nf) ∧ h1 = HM b m ml r n) 1 0 0 (HM b m ml r n) 0 0 4 [some (.ref b), some (.int (nI ((nv + 1) ^ i))), some (.int (nI i))] [] := by
    intro k
    induction k with
    | zero =>
      intro i  hk 
      refine A_iload_n dX10_takersMany_4 rfl rfl ?_
      refine A_aload_n dX10_takersMany_5 rfl rfl ?_
      refine A_get dX10_takersMany_6 f_X10_9 HM_at0 rfl ?_
      refine A_iconst (v := 2) dX10_takersMany_9 (by decide) ?_
      refine A_ialdK (i := 2) dX10_takersMany_10 (HM_at (by decide)) rfl (by omega) (by decide) ?_
      refine A_icmp_ge 29 dX10_takersMany_11 (by decide) (fun c11 => ?_) (fun c11 => ?_)
      · refine A_iload_n dX10_takersMany_29 rfl rfl ?_
        exact A_iret dX10_takersMany_30 ⟨by rw [show i = nf by omega]; rfl, rfl⟩ ⟨by decide, by decide⟩
      · exact absurd (by rw [hf]; exact nI_le (by omega) (by omega)) c11
    | succ k ih =>
      intro i  hk 
      have hi : i < nf := by omega
      refine A_iload_n dX10_takersMany_4 rfl rfl ?_
      refine A_aload_n dX10_takersMany_5 rfl rfl ?_
      refine A_get dX10_takersMany_6 f_X10_9 HM_at0 rfl ?_
      refine A_iconst (v := 2) dX10_takersMany_9 (by decide) ?_
      refine A_ialdK (i := 2) dX10_takersMany_10 (HM_at (by decide)) rfl (by omega) (by decide) ?_
      refine A_icmp_ge 29 dX10_takersMany_11 (by decide) (fun c11 => ?_) (fun c11 => ?_)
      · exact absurd c11 (by rw [hf]; exact nI_ge (by omega) (by omega))
      · refine A_iload_n dX10_takersMany_14 rfl rfl ?_
        refine A_aload_n dX10_takersMany_15 rfl rfl ?_
        refine A_callVi dX10_takersMany_16 m_X10_89 cb_X10_villages (As := []) rfl HM_at0 rfl (k_villages G) rfl ⟨by decide, by decide⟩ (Nat.le_of_ble_eq_true rfl) ⟨by decide, by decide⟩ (fun x16 h16 hq => ?_)
        obtain ⟨rfl, rfl⟩ := hq
        refine A_iconst (v := 1) dX10_takersMany_19 (by decide) ?_
        refine A_iadd dX10_takersMany_20 ?_
        refine A_eqI (y := nI (nv + 1)) (by rw [hv]; exact nI_1 nv) ?_
        refine A_imul dX10_takersMany_21 ?_
        refine A_eqI (y := nI ((nv + 1) ^ (i + 1))) (by rw [pk_mul, ← Nat.pow_succ]) ?_
        refine A_istore_n (lv1 := [_, _, _]) dX10_takersMany_22 rfl (Nat.le_of_ble_eq_true rfl) rfl rfl ?_
        refine A_inc 1 (lv1 := [_, _, _]) dX10_takersMany_23 rfl (by decide) rfl rfl ?_
        refine A_goto 4 dX10_takersMany_26 (by decide) ?_
        rw [nI_1]
        exact ih (i + 1) (by omega)
  refine A_iconst (v := 1) dX10_takersMany_0 (by decide) ?_
  refine A_istore_n (lv1 := [_, _, _]) dX10_takersMany_1 rfl (Nat.le_of_ble_eq_true rfl) rfl rfl ?_
  refine A_iconst (v := 0) dX10_takersMany_2 (by decide) ?_
  refine A_istore_n (lv1 := [_, _, _]) dX10_takersMany_3 rfl (Nat.le_of_ble_eq_true rfl) rfl rfl ?_
  exact loop nf 0 (by omega)

theorem k_keepsTakers (G : GX) {b : Nat} {m : CT} {ml : Nat → Nat → Int64} {r : Nat → Option AE} {n : Nat} : MA G 0 yX10_keepsTakers cX10_keepsTakers 2 none 0 0 [.ref b] (HM b m ml r n) (qV fun h1 => ∃ g, h1 = HM b (st1 m 12 g) ml r n ∧ (∀ j, g j = if j < 3 then m 1 (157 + j) else m 12 j)) := by
  refine MA.of (own := RX10) false [some (.ref b), none] (by decide +kernel) rfl (fun h => by cases h) (Nat.le_of_ble_eq_true rfl) rfl (fun X => ?_)
  have loop : ∀ (k i : Nat) (g : Nat → Int32), i + k = 3 → (∀ j, g j = if j < i then m 1 (157 + j) else m 12 j) → WA X G RX10 cX10_keepsTakers false none (qV fun h1 => ∃ g, h1 = HM b (st1 m 12 g) ml r n ∧ (∀ j, g j = if j < 3 then m 1 (157 + j) else m 12 j)) 0 0 0 (HM b (st1 m 12 g) ml r n) 0 0 2 [some (.ref b), some (.int (nI i))] [] := by
    intro k
    induction k with
    | zero =>
      intro i g hk hg
      refine A_iload_n dX10_keepsTakers_2 rfl rfl ?_
      refine A_iconst (v := 3) dX10_keepsTakers_3 (by decide) ?_
      refine A_icmp_ge 29 dX10_keepsTakers_4 (by decide) (fun c4 => ?_) (fun c4 => ?_)
      · exact A_vret dX10_keepsTakers_29 ⟨g, rfl, fun j => by rw [hg j, show i = 3 by omega]⟩ ⟨by decide, by decide⟩
      · exact absurd (nI_le (a := 3) (b := i) (by omega) (by omega)) c4
    | succ k ih =>
      intro i g hk hg
      have hi : i < 3 := by omega
      refine A_iload_n dX10_keepsTakers_2 rfl rfl ?_
      refine A_iconst (v := 3) dX10_keepsTakers_3 (by decide) ?_
      refine A_icmp_ge 29 dX10_keepsTakers_4 (by decide) (fun c4 => ?_) (fun c4 => ?_)
      · exact absurd c4 (nI_ge (b := 3) (by omega) (by decide))
      · refine A_aload_n dX10_keepsTakers_7 rfl rfl ?_
        refine A_get dX10_keepsTakers_8 f_X10_52 HM_at0 rfl ?_
        refine A_iload_n dX10_keepsTakers_11 rfl rfl ?_
        refine A_aload_n dX10_keepsTakers_12 rfl rfl ?_
        refine A_get dX10_keepsTakers_13 f_X10_9 HM_at0 rfl ?_
        refine A_sipush (v := 157) dX10_keepsTakers_16 (by decide) ?_
        refine A_iload_n dX10_keepsTakers_19 rfl rfl ?_
        refine A_iadd dX10_keepsTakers_20 ?_
        refine A_ialdK (i := (157 + i)) dX10_keepsTakers_21 (HM_at (by decide)) (ixA rfl rfl) (by omega) (by decide) ?_
        refine A_iastMK (i := i) dX10_keepsTakers_22 (by decide) (fun _ => rfl) rfl (by omega) (by decide) ?_
        refine A_inc 1 (lv1 := [_, _]) dX10_keepsTakers_23 rfl (by decide) rfl rfl ?_
        refine A_goto 2 dX10_keepsTakers_26 (by decide) ?_
        rw [nI_1]
        rw [st1M, st1_ne (by decide)]
        exact ih (i + 1) _ (by omega) (fun j => by by_cases e : j = i; (subst e; rw [pk_us, if_pos (by omega)]); (rw [pk_un e, hg j]; by_cases e2 : j < i; (rw [if_pos e2, if_pos (by omega)]); (rw [if_neg e2, if_neg (by omega)])))
  refine A_iconst (v := 0) dX10_keepsTakers_0 (by decide) ?_
  refine A_istore_n (lv1 := [_, _]) dX10_keepsTakers_1 rfl (Nat.le_of_ble_eq_true rfl) rfl rfl ?_
  rw [show HM b m ml r n = HM b (st1 m 12 (m 12)) ml r n by rw [st1_selfM]]
  exact loop 3 0 (m 12) (by omega) (fun j => by rw [if_neg (by omega)])

theorem k_bringsTakersBack (G : GX) {b : Nat} {m : CT} {ml : Nat → Nat → Int64} {r : Nat → Option AE} {n : Nat} : MA G 0 yX10_bringsTakersBack cX10_bringsTakersBack 2 none 0 0 [.ref b] (HM b m ml r n) (qV fun h1 => ∃ g, h1 = HM b (st1 m 1 g) ml r n ∧ (∀ j, g j = if 157 ≤ j ∧ j < 157 + 3 then m 12 (j - 157) else m 1 j)) := by
  refine MA.of (own := RX10) false [some (.ref b), none] (by decide +kernel) rfl (fun h => by cases h) (Nat.le_of_ble_eq_true rfl) rfl (fun X => ?_)
  have loop : ∀ (k i : Nat) (g : Nat → Int32), i + k = 3 → (∀ j, g j = if 157 ≤ j ∧ j < 157 + i then m 12 (j - 157) else m 1 j) → WA X G RX10 cX10_bringsTakersBack false none (qV fun h1 => ∃ g, h1 = HM b (st1 m 1 g) ml r n ∧ (∀ j, g j = if 157 ≤ j ∧ j < 157 + 3 then m 12 (j - 157) else m 1 j)) 0 0 0 (HM b (st1 m 1 g) ml r n) 0 0 2 [some (.ref b), some (.int (nI i))] [] := by
    intro k
    induction k with
    | zero =>
      intro i g hk hg
      refine A_iload_n dX10_bringsTakersBack_2 rfl rfl ?_
      refine A_iconst (v := 3) dX10_bringsTakersBack_3 (by decide) ?_
      refine A_icmp_ge 29 dX10_bringsTakersBack_4 (by decide) (fun c4 => ?_) (fun c4 => ?_)
      · exact A_vret dX10_bringsTakersBack_29 ⟨g, rfl, fun j => by rw [hg j, show i = 3 by omega]⟩ ⟨by decide, by decide⟩
      · exact absurd (nI_le (a := 3) (b := i) (by omega) (by omega)) c4
    | succ k ih =>
      intro i g hk hg
      have hi : i < 3 := by omega
      refine A_iload_n dX10_bringsTakersBack_2 rfl rfl ?_
      refine A_iconst (v := 3) dX10_bringsTakersBack_3 (by decide) ?_
      refine A_icmp_ge 29 dX10_bringsTakersBack_4 (by decide) (fun c4 => ?_) (fun c4 => ?_)
      · exact absurd c4 (nI_ge (b := 3) (by omega) (by decide))
      · refine A_aload_n dX10_bringsTakersBack_7 rfl rfl ?_
        refine A_get dX10_bringsTakersBack_8 f_X10_9 HM_at0 rfl ?_
        refine A_sipush (v := 157) dX10_bringsTakersBack_11 (by decide) ?_
        refine A_iload_n dX10_bringsTakersBack_14 rfl rfl ?_
        refine A_iadd dX10_bringsTakersBack_15 ?_
        refine A_aload_n dX10_bringsTakersBack_16 rfl rfl ?_
        refine A_get dX10_bringsTakersBack_17 f_X10_52 HM_at0 rfl ?_
        refine A_iload_n dX10_bringsTakersBack_20 rfl rfl ?_
        refine A_ialdK (i := i) dX10_bringsTakersBack_21 (HM_at (by decide)) rfl (by omega) (by decide) ?_
        refine A_iastMK (i := (157 + i)) dX10_bringsTakersBack_22 (by decide) (fun _ => rfl) (ixA rfl rfl) (by omega) (by decide) ?_
        refine A_inc 1 (lv1 := [_, _]) dX10_bringsTakersBack_23 rfl (by decide) rfl rfl ?_
        refine A_goto 2 dX10_bringsTakersBack_26 (by decide) ?_
        rw [nI_1]
        rw [st1M, st1_ne (by decide)]
        exact ih (i + 1) _ (by omega) (fun j => by by_cases e : j = 157 + i; (subst e; rw [pk_us, if_pos (by omega), Nat.add_sub_cancel_left]); (rw [pk_un e, hg j]; by_cases e2 : 157 ≤ j ∧ j < 157 + i; (rw [if_pos e2, if_pos (by omega)]); (rw [if_neg e2, if_neg (by omega)])))
  refine A_iconst (v := 0) dX10_bringsTakersBack_0 (by decide) ?_
  refine A_istore_n (lv1 := [_, _]) dX10_bringsTakersBack_1 rfl (Nat.le_of_ble_eq_true rfl) rfl rfl ?_
  rw [show HM b m ml r n = HM b (st1 m 1 (m 1)) ml r n by rw [st1_selfM]]
  exact loop 3 0 (m 1) (by omega) (fun j => by rw [if_neg (by omega)])

/-- the reference's world with the k-th TAKERS -/
def tkW (m : CT) (nv nf k : Nat) : Nat → Int32 := fun j => if 157 ≤ j ∧ j < 157 + nf then nI (tkc nv nf k (j - 157)) - 1 else m 1 j
theorem tkW_lo {m : CT} {nv nf k j : Nat} (h : j < 157) : tkW m nv nf k j = m 1 j := by rw [tkW, if_neg (by omega)]
theorem IM.tk {m : CT} {nv nc nf nl wk : Nat} (h : IM m nv nc nf nl wk) (g : Nat → Int32) (e : ∀ j, j < 157 → g j = m 1 j) : IM (st1 m 1 g) nv nc nf nl wk := by
  obtain ⟨hv, hv6, hc, hc8, hf, hf3, hl, hl8, hw, hw30, gC, gL⟩ := h
  unfold IM
  simp only [st1_eq]
  refine ⟨(e _ (by decide)).trans hv, hv6, (e _ (by decide)).trans hc, hc8, (e _ (by decide)).trans hf, hf3, (e _ (by decide)).trans hl, hl8, (e _ (by decide)).trans hw, hw30, fun i hi => ?_, fun i hi => ?_⟩
  · rw [e _ (by omega)]; exact gC i hi
  · rw [e _ (by omega), e _ (by omega)]; exact gL i hi
theorem k_takersAre (G : GX) {b : Nat} {m : CT} {ml : Nat → Nat → Int64} {r : Nat → Option AE} {n : Nat} {nv nc nf nl wk : Nat} {kk : Nat} (hI : IM m nv nc nf nl wk) (hk9 : kk < 343) : MA G 1 yX10_takersAre cX10_takersAre 4 none 0 0 [.ref b, .int (nI kk)] (HM b m ml r n) (qV fun h1 => h1 = HM b (st1 m 1 (tkW m nv nf kk)) ml r n) := by
  refine MA.of (own := RX10) false [some (.ref b), some (.int (nI kk)), none, none] (by decide +kernel) rfl (fun h => by cases h) (Nat.le_of_ble_eq_true rfl) rfl (fun X => ?_)
  obtain ⟨hv, hv6, hc, hc8, hf, hf3, hl, hl8, hw, hw30, gC, gL⟩ := id hI
  have loop : ∀ (k : Nat) (g : Nat → Int32) (x : Int32), k ≤ nf → x = nI k + (-1) → (∀ j, g j = if 157 + k ≤ j ∧ j < 157 + nf then nI (tkc nv nf kk (j - 157)) - 1 else m 1 j) → WA X G RX10 cX10_takersAre false none (qV fun h1 => h1 = HM b (st1 m 1 (tkW m nv nf kk)) ml r n) 1 0 0 (HM b (st1 m 1 g) ml r n) 0 0 11 [some (.ref b), some (.int (nI kk)), some (.int (nI (kk / (nv + 1) ^ (nf - k)))), some (.int x)] [] := by
    intro k
    induction k with
    | zero =>
      intro g x hk hx hg
      subst hx
      refine A_iload_n dX10_takersAre_11 rfl rfl ?_
      refine A_if_lt 50 dX10_takersAre_12 (by decide) (fun c12 => ?_) (fun c12 => ?_)
      · exact A_vret dX10_takersAre_50 (by rw [show g = tkW m nv nf kk from funext (fun j => by rw [hg j]; rfl)]) ⟨by decide, by decide⟩
      · exact absurd (by decide) c12
    | succ k ih =>
      intro g x hk hx hg
      rw [pk_m1] at hx
      subst hx
      have hg0 : (st1 m 1 g) 1 0 = nI nv := by rw [st1_eq, hg 0, if_neg (by omega)]; exact hv
      have hq : kk / (nv + 1) ^ (nf - (k + 1)) < 343 := Nat.lt_of_le_of_lt (Nat.div_le_self _ _) hk9
      have eV : (st1 m 1 g) 1 0 + 1 = nI (nv + 1) := by rw [hg0]; exact nI_1 nv
      refine A_iload_n dX10_takersAre_11 rfl rfl ?_
      refine A_if_lt 50 dX10_takersAre_12 (by decide) (fun c12 => ?_) (fun c12 => ?_)
      · exact absurd c12 (nI_pos (by omega))
      · refine A_aload_n dX10_takersAre_15 rfl rfl ?_
        refine A_get dX10_takersAre_16 f_X10_9 HM_at0 rfl ?_
        refine A_sipush (v := 157) dX10_takersAre_19 (by decide) ?_
        refine A_iload_n dX10_takersAre_22 rfl rfl ?_
        refine A_iadd dX10_takersAre_23 ?_
        refine A_iload_n dX10_takersAre_24 rfl rfl ?_
        refine A_aload_n dX10_takersAre_25 rfl rfl ?_
        refine A_callVi dX10_takersAre_26 m_X10_89 cb_X10_villages (As := []) rfl HM_at0 rfl (k_villages G) rfl ⟨by decide, by decide⟩ (Nat.le_of_ble_eq_true rfl) ⟨by decide, by decide⟩ (fun x26 h26 hq => ?_)
        obtain ⟨rfl, rfl⟩ := hq
        refine A_iconst (v := 1) dX10_takersAre_29 (by decide) ?_
        refine A_iadd dX10_takersAre_30 ?_
        refine A_eqI eV ?_
        refine A_irem dX10_takersAre_31 (nI_ne0 (by omega) (by omega)) ?_
        refine A_eqI (y := nI (tkc nv nf kk k)) ((pk_rem (by omega) (by omega) (by omega)).trans (by rw [tkc, show nf - 1 - k = nf - (k + 1) by omega])) ?_
        refine A_iconst (v := 1) dX10_takersAre_32 (by decide) ?_
        refine A_isub dX10_takersAre_33 ?_
        refine A_iastMK (i := (157 + k)) dX10_takersAre_34 (by decide) (fun _ => rfl) (ixA rfl rfl) (by omega) (by decide) ?_
        refine A_iload_n dX10_takersAre_35 rfl rfl ?_
        refine A_aload_n dX10_takersAre_36 rfl rfl ?_
        refine A_callVi dX10_takersAre_37 m_X10_89 cb_X10_villages (As := []) rfl HM_at0 rfl (k_villages G) rfl ⟨by decide, by decide⟩ (Nat.le_of_ble_eq_true rfl) ⟨by decide, by decide⟩ (fun x37 h37 hq => ?_)
        obtain ⟨rfl, rfl⟩ := hq
        rw [show (put (st1 m 1 g) 1 (157 + k) (nI (tkc nv nf kk k) - 1)) 1 0 = nI nv by rw [put_no (by omega)]; exact hg0]
        refine A_iconst (v := 1) dX10_takersAre_40 (by decide) ?_
        refine A_iadd dX10_takersAre_41 ?_
        refine A_eqI (nI_1 nv) ?_
        refine A_idiv dX10_takersAre_42 (nI_ne0 (by omega) (by omega)) ?_
        refine A_eqI (y := nI (kk / (nv + 1) ^ (nf - k))) ((pk_div (by omega) (by omega) (by omega)).trans (by rw [Nat.div_div_eq_div_mul, ← Nat.pow_succ, show (nf - (k + 1)).succ = nf - k by omega])) ?_
        refine A_istore_n (lv1 := [_, _, _, _]) dX10_takersAre_43 rfl (Nat.le_of_ble_eq_true rfl) rfl rfl ?_
        refine A_inc (-1) (lv1 := [_, _, _, _]) dX10_takersAre_44 rfl (by decide) rfl rfl ?_
        refine A_goto 11 dX10_takersAre_47 (by decide) ?_
        rw [st1M]
        exact ih _ _ (by omega) rfl (fun j => by by_cases e : j = 157 + k; (subst e; rw [pk_us, if_pos (by omega), show 157 + k - 157 = k by omega]); (rw [pk_un e, hg j]; by_cases e2 : 157 + (k + 1) ≤ j ∧ j < 157 + nf; (rw [if_pos e2, if_pos (by omega)]); (rw [if_neg e2, if_neg (by omega)])))
  refine A_iload_n dX10_takersAre_0 rfl rfl ?_
  refine A_istore_n (lv1 := [_, _, _, _]) dX10_takersAre_1 rfl (Nat.le_of_ble_eq_true rfl) rfl rfl ?_
  refine A_aload_n dX10_takersAre_2 rfl rfl ?_
  refine A_get dX10_takersAre_3 f_X10_9 HM_at0 rfl ?_
  refine A_iconst (v := 2) dX10_takersAre_6 (by decide) ?_
  refine A_ialdK (i := 2) dX10_takersAre_7 (HM_at (by decide)) rfl (by omega) (by decide) ?_
  refine A_iconst (v := 1) dX10_takersAre_8 (by decide) ?_
  refine A_isub dX10_takersAre_9 ?_
  refine A_istore_n (lv1 := [_, _, _, _]) dX10_takersAre_10 rfl (Nat.le_of_ble_eq_true rfl) rfl rfl ?_
  rw [show HM b m ml r n = HM b (st1 m 1 (m 1)) ml r n by rw [st1_selfM]]
  have e := loop nf (m 1) (m 1 2 - 1) (Nat.le_refl _) (by rw [hf, Int32.sub_eq_add_neg]) (fun j => by rw [if_neg (by omega)])
  rw [Nat.sub_self, Nat.pow_zero, Nat.div_one] at e
  exact e

theorem k_takerIn (G : GX) {b : Nat} {m : CT} {ml : Nat → Nat → Int64} {r : Nat → Option AE} {n : Nat} {nv nc nf nl wk : Nat} {kk f : Nat} (hI : IM m nv nc nf nl wk) (hk9 : kk < 343) (hf9 : f < nf) : MA G 1 yX10_takerIn cX10_takerIn 5 (some .int) 0 0 [.ref b, .int (nI kk), .int (nI f)] (HM b m ml r n) (qI fun x h1 => x = nI (tkc nv nf kk f) - 1 ∧ h1 = HM b m ml r n) := by
  refine MA.of (own := RX10) false [some (.ref b), some (.int (nI kk)), some (.int (nI f)), none, none] (by decide +kernel) rfl (fun h => by cases h) (Nat.le_of_ble_eq_true rfl) rfl (fun X => ?_)
  obtain ⟨hv, hv6, hc, hc8, hf, hf3, hl, hl8, hw, hw30, gC, gL⟩ := id hI
  have loop : ∀ (k j : Nat), j + k = nf - 1 - f → WA X G RX10 cX10_takerIn false (some .int) (qI fun x h1 => x = nI (tkc nv nf kk f) - 1 ∧ h1 = HM b m ml r n) 1 0 0 (HM b m ml r n) 0 0 12 [some (.ref b), some (.int (nI kk)), some (.int (nI f)), some (.int (nI (kk / (nv + 1) ^ j))), some (.int (nI (f + k)))] [] := by
    intro k
    induction k with
    | zero =>
      intro j hj
      have hq : kk / (nv + 1) ^ j < 343 := Nat.lt_of_le_of_lt (Nat.div_le_self _ _) hk9
      have eV : m 1 0 + 1 = nI (nv + 1) := by rw [hv]; exact nI_1 nv
      refine A_iload dX10_takerIn_12 rfl ?_
      refine A_iload_n dX10_takerIn_14 rfl rfl ?_
      refine A_icmp_le 33 dX10_takerIn_15 (by decide) (fun c15 => ?_) (fun c15 => ?_)
      · refine A_iload_n dX10_takerIn_33 rfl rfl ?_
        refine A_aload_n dX10_takerIn_34 rfl rfl ?_
        refine A_callVi dX10_takerIn_35 m_X10_89 cb_X10_villages (As := []) rfl HM_at0 rfl (k_villages G) rfl ⟨by decide, by decide⟩ (Nat.le_of_ble_eq_true rfl) ⟨by decide, by decide⟩ (fun x35 h35 hq => ?_)
        obtain ⟨rfl, rfl⟩ := hq
        refine A_iconst (v := 1) dX10_takerIn_38 (by decide) ?_
        refine A_iadd dX10_takerIn_39 ?_
        refine A_eqI eV ?_
        refine A_irem dX10_takerIn_40 (nI_ne0 (by omega) (by omega)) ?_
        refine A_eqI (y := nI (tkc nv nf kk f)) ((pk_rem (by omega) (by omega) (by omega)).trans (by rw [tkc, show nf - 1 - f = j by omega])) ?_
        refine A_iconst (v := 1) dX10_takerIn_41 (by decide) ?_
        refine A_isub dX10_takerIn_42 ?_
        exact A_iret dX10_takerIn_43 ⟨rfl, rfl⟩ ⟨by decide, by decide⟩
      · exact absurd (nI_le (Nat.le_refl _) (by omega)) c15
    | succ k ih =>
      intro j hj
      have hq : kk / (nv + 1) ^ j < 343 := Nat.lt_of_le_of_lt (Nat.div_le_self _ _) hk9
      have eV : m 1 0 + 1 = nI (nv + 1) := by rw [hv]; exact nI_1 nv
      refine A_iload dX10_takerIn_12 rfl ?_
      refine A_iload_n dX10_takerIn_14 rfl rfl ?_
      refine A_icmp_le 33 dX10_takerIn_15 (by decide) (fun c15 => ?_) (fun c15 => ?_)
      · exact absurd c15 (nI_ge (by omega) (by omega))
      · refine A_iload_n dX10_takerIn_18 rfl rfl ?_
        refine A_aload_n dX10_takerIn_19 rfl rfl ?_
        refine A_callVi dX10_takerIn_20 m_X10_89 cb_X10_villages (As := []) rfl HM_at0 rfl (k_villages G) rfl ⟨by decide, by decide⟩ (Nat.le_of_ble_eq_true rfl) ⟨by decide, by decide⟩ (fun x20 h20 hq => ?_)
        obtain ⟨rfl, rfl⟩ := hq
        refine A_iconst (v := 1) dX10_takerIn_23 (by decide) ?_
        refine A_iadd dX10_takerIn_24 ?_
        refine A_eqI eV ?_
        refine A_idiv dX10_takerIn_25 (nI_ne0 (by omega) (by omega)) ?_
        refine A_eqI (y := nI (kk / (nv + 1) ^ (j + 1))) ((pk_div (by omega) (by omega) (by omega)).trans (by rw [Nat.div_div_eq_div_mul, ← Nat.pow_succ])) ?_
        refine A_istore_n (lv1 := [_, _, _, _, _]) dX10_takerIn_26 rfl (Nat.le_of_ble_eq_true rfl) rfl rfl ?_
        refine A_inc (-1) (lv1 := [_, _, _, _, _]) dX10_takerIn_27 rfl (by decide) rfl rfl ?_
        refine A_goto 12 dX10_takerIn_30 (by decide) ?_
        rw [show nI (f + (k + 1)) + -1 = nI (f + k) from pk_m1 (f + k)]
        exact ih (j + 1) (by omega)
  refine A_iload_n dX10_takerIn_0 rfl rfl ?_
  refine A_istore_n (lv1 := [_, _, _, _, _]) dX10_takerIn_1 rfl (Nat.le_of_ble_eq_true rfl) rfl rfl ?_
  refine A_aload_n dX10_takerIn_2 rfl rfl ?_
  refine A_get dX10_takerIn_3 f_X10_9 HM_at0 rfl ?_
  refine A_iconst (v := 2) dX10_takerIn_6 (by decide) ?_
  refine A_ialdK (i := 2) dX10_takerIn_7 (HM_at (by decide)) rfl (by omega) (by decide) ?_
  refine A_iconst (v := 1) dX10_takerIn_8 (by decide) ?_
  refine A_isub dX10_takerIn_9 ?_
  refine A_istore (lv1 := [_, _, _, _, _]) dX10_takerIn_10 (Nat.le_of_ble_eq_true rfl) rfl rfl ?_
  rw [show m 1 2 - 1 = nI (f + (nf - 1 - f)) by rw [hf, show f + (nf - 1 - f) = nf - 1 by omega]; exact pk_sub (b := 1) (by omega)]
  have e := loop (nf - 1 - f) 0 (by omega)
  rw [Nat.pow_zero, Nat.div_one] at e
  exact e
