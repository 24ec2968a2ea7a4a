/-! THE REFERENCE: rings ring left -/
theorem k_rings (G : GX) {b : Nat} {c m : CT} {ml : Nat → Nat → Int64} {r : Nat → Option AE} {n : Nat} {nv nc nf nl wk : Nat} {t : Int32} (h : BL nv nc nf nl wk c m) : MA G 7 yX10_rings cX10_rings 2 (some .int) 0 0 [.ref b, .int t] (HM b m ml r n) (qI fun x9 h1 => x9 = ringsA c t ∧ ∃ m1 ml1, h1 = HM b m1 ml1 r n ∧ KM m ml m1 ml1) := by
  refine MA.of (own := RX10) false [some (.ref b), some (.int t)] (by decide +kernel) rfl (fun h => by cases h) (Nat.le_of_ble_eq_true rfl) rfl (fun X => ?_)
  have hX := h.ix
  obtain ⟨xv, xv6, xc, xc8, xf, xf3, xl, xl8, xw, xw30, xC, xL⟩ := id hX
  have hI := h.im
  obtain ⟨hv, hv6, hc, hc8, hf, hf3, hl, hl8, hw, hw30, gC, gL⟩ := id hI
  have hT := h.tm
  refine A_aload_n dX10_rings_0 rfl rfl ?_
  refine A_callVi dX10_rings_1 m_X10_322 cb_X10_isPlain (As := []) rfl HM_at0 rfl (k_isPlain G) rfl ⟨by decide, by decide⟩ (Nat.le_of_ble_eq_true rfl) ⟨by decide, by decide⟩ (fun x1 h1 hq => ?_)
  obtain ⟨rfl, rfl⟩ := hq
  refine A_eqI (pl_i h) ?_
  refine A_if_eq 17 dX10_rings_4 (by decide) (fun c4 => ?_) (fun c4 => ?_)
  · refine A_bipush (v := (-2)) dX10_rings_17 (by decide) ?_
    exact A_iret dX10_rings_19 ⟨by rw [ringsA, if_neg (fun z => (fun z => by rw [if_pos z] at c4; exact absurd c4 (by decide)) z.1)], ⟨_, _, rfl, KM.rf⟩⟩ ⟨by decide, by decide⟩
  · refine A_iload_n dX10_rings_7 rfl rfl ?_
    refine A_i2l dX10_rings_8 ?_
    refine A_lconst (v := 0) dX10_rings_9 (by decide) ?_
    refine A_lconst (v := 1) dX10_rings_10 (by decide) ?_
    refine A_callSi dX10_rings_11 m_X10_85 cb_X10_in (As := [_, _, _]) rfl (k_in G) rfl ⟨by decide, by decide⟩ (Nat.le_of_ble_eq_true rfl) ⟨by decide, by decide⟩ (fun x11 h11 hq => ?_)
    obtain ⟨rfl, rfl⟩ := hq
    refine A_eqI (inL_n 1 (by decide) (by decide)) ?_
    refine A_if_ne 20 dX10_rings_14 (by decide) (fun c14 => ?_) (fun c14 => ?_)
    · have hp : 0 < c 6 5 := (by by_cases z : 0 < c 6 5; exact z; exact absurd (if_neg z) c4)
      have h01 := t01 c14
      have eA : ringsA c t = if t = 0 then clearF (dbF c) 46 7 else clearF (dbF c) 46 8 := if_pos ⟨hp, h01⟩
      rw [eA]
      refine A_aload_n dX10_rings_20 rfl rfl ?_
      refine A_callVv dX10_rings_21 m_X10_424 cb_X10_clears (As := []) rfl HM_at0 rfl (k_clears G h) rfl ⟨by decide, by decide⟩ (Nat.le_of_ble_eq_true rfl) ⟨by decide, by decide⟩ (fun h21 hq => ?_)
      obtain ⟨m1, rfl, hk1, J, hJ, d48, d7, d31, d8, dr⟩ := hq
      refine A_iload_n dX10_rings_24 rfl rfl ?_
      refine A_if_ne 35 dX10_rings_25 (by decide) (fun c25 => ?_) (fun c25 => ?_)
      · refine A_aload_n dX10_rings_35 rfl rfl ?_
        refine A_get dX10_rings_36 f_X10_415 HM_at0 rfl ?_
        exact A_iret dX10_rings_39 ⟨by rw [if_neg c25, d8], _, _, rfl, hk1, rfl⟩ ⟨by decide, by decide⟩
      · refine A_aload_n dX10_rings_28 rfl rfl ?_
        refine A_get dX10_rings_29 f_X10_412 HM_at0 rfl ?_
        refine A_goto 39 dX10_rings_32 (by decide) ?_
        exact A_iret dX10_rings_39 ⟨by rw [if_pos c25, d7, d31], _, _, rfl, hk1, rfl⟩ ⟨by decide, by decide⟩
    · refine A_bipush (v := (-2)) dX10_rings_17 (by decide) ?_
      exact A_iret dX10_rings_19 ⟨by rw [ringsA, if_neg (fun z => t01_n c14 z.2)], ⟨_, _, rfl, KM.rf⟩⟩ ⟨by decide, by decide⟩

theorem k_ring (G : GX) {b : Nat} {c m : CT} {ml : Nat → Nat → Int64} {r : Nat → Option AE} {n : Nat} {nv nc nf nl wk : Nat} {i : Int32} (h : BL nv nc nf nl wk c m) : MA G 7 yX10_ring cX10_ring 2 (some .int) 0 0 [.ref b, .int i] (HM b m ml r n) (qI fun x9 h1 => x9 = ringA c i ∧ ∃ m1 ml1, h1 = HM b m1 ml1 r n ∧ KM m ml m1 ml1) := by
  refine MA.of (own := RX10) false [some (.ref b), some (.int i)] (by decide +kernel) rfl (fun h => by cases h) (Nat.le_of_ble_eq_true rfl) rfl (fun X => ?_)
  have hX := h.ix
  obtain ⟨xv, xv6, xc, xc8, xf, xf3, xl, xl8, xw, xw30, xC, xL⟩ := id hX
  have hI := h.im
  obtain ⟨hv, hv6, hc, hc8, hf, hf3, hl, hl8, hw, hw30, gC, gL⟩ := id hI
  have hT := h.tm
  refine A_aload_n dX10_ring_0 rfl rfl ?_
  refine A_callVi dX10_ring_1 m_X10_322 cb_X10_isPlain (As := []) rfl HM_at0 rfl (k_isPlain G) rfl ⟨by decide, by decide⟩ (Nat.le_of_ble_eq_true rfl) ⟨by decide, by decide⟩ (fun x1 h1 hq => ?_)
  obtain ⟨rfl, rfl⟩ := hq
  refine A_eqI (pl_i h) ?_
  refine A_if_ne 10 dX10_ring_4 (by decide) (fun c4 => ?_) (fun c4 => ?_)
  · have hp : 0 < c 6 5 := (by by_cases z : 0 < c 6 5; exact z; exact absurd (if_neg z) c4)
    have eA : ringA c i = if inI i (clearF (dbF c) 46 7) = 0 then -1 else clearF (dbF c) 54 (tcl i) := if_pos hp
    rw [eA]
    refine A_aload_n dX10_ring_10 rfl rfl ?_
    refine A_callVv dX10_ring_11 m_X10_424 cb_X10_clears (As := []) rfl HM_at0 rfl (k_clears G h) rfl ⟨by decide, by decide⟩ (Nat.le_of_ble_eq_true rfl) ⟨by decide, by decide⟩ (fun h11 hq => ?_)
    obtain ⟨m1, rfl, hk1, J, hJ, d48, d7, d31, d8, dr⟩ := hq
    refine A_iload_n dX10_ring_14 rfl rfl ?_
    refine A_i2l dX10_ring_15 ?_
    refine A_lconst (v := 0) dX10_ring_16 (by decide) ?_
    refine A_aload_n dX10_ring_17 rfl rfl ?_
    refine A_get dX10_ring_18 f_X10_412 HM_at0 rfl ?_
    refine A_iconst (v := 1) dX10_ring_21 (by decide) ?_
    refine A_isub dX10_ring_22 ?_
    refine A_i2l dX10_ring_23 ?_
    refine A_callSi dX10_ring_24 m_X10_85 cb_X10_in (As := [_, _, _]) rfl (k_in G) rfl ⟨by decide, by decide⟩ (Nat.le_of_ble_eq_true rfl) ⟨by decide, by decide⟩ (fun x24 h24 hq => ?_)
    obtain ⟨rfl, rfl⟩ := hq
    refine A_eqI (y := inI i (nI J)) (by rw [d31]; exact inL_b (by omega)) ?_
    refine A_if_eq 39 dX10_ring_27 (by decide) (fun c27 => ?_) (fun c27 => ?_)
    · refine A_iconst (v := (-1)) dX10_ring_39 (by decide) ?_
      exact A_iret dX10_ring_40 ⟨by rw [d7, if_pos c27], _, _, rfl, hk1, rfl⟩ ⟨by decide, by decide⟩
    · obtain ⟨a, ha, rfl⟩ := inI_of rfl c27 (by omega)
      refine A_aload_n dX10_ring_30 rfl rfl ?_
      refine A_get dX10_ring_31 f_X10_58 HM_at0 rfl ?_
      refine A_iload_n dX10_ring_34 rfl rfl ?_
      refine A_ialdN dX10_ring_35 (HM_at (by decide)) (by omega) (by decide) ?_
      refine A_goto 40 dX10_ring_36 (by decide) ?_
      exact A_iret dX10_ring_40 ⟨by rw [d7, if_neg c27, tcl_nI (by omega), dr a ha], _, _, rfl, hk1, rfl⟩ ⟨by decide, by decide⟩
  · refine A_bipush (v := (-2)) dX10_ring_7 (by decide) ?_
    exact A_iret dX10_ring_9 ⟨by rw [ringA, if_neg (fun z => by rw [if_pos z] at c4; exact absurd c4 (by decide))], ⟨_, _, rfl, KM.rf⟩⟩ ⟨by decide, by decide⟩

theorem k_left (G : GX) {b : Nat} {c m : CT} {ml : Nat → Nat → Int64} {r : Nat → Option AE} {n : Nat} {nv nc nf nl wk : Nat} {v t : Int32} (h : BL nv nc nf nl wk c m) : MA G 7 yX10_left cX10_left 3 (some .int) 0 0 [.ref b, .int v, .int t] (HM b m ml r n) (qI fun x9 h1 => x9 = leftA c v t ∧ ∃ m1 ml1, h1 = HM b m1 ml1 r n ∧ KM m ml m1 ml1) := by
  refine MA.of (own := RX10) false [some (.ref b), some (.int v), some (.int t)] (by decide +kernel) rfl (fun h => by cases h) (Nat.le_of_ble_eq_true rfl) rfl (fun X => ?_)
  have hX := h.ix
  obtain ⟨xv, xv6, xc, xc8, xf, xf3, xl, xl8, xw, xw30, xC, xL⟩ := id hX
  have hI := h.im
  obtain ⟨hv, hv6, hc, hc8, hf, hf3, hl, hl8, hw, hw30, gC, gL⟩ := id hI
  have hT := h.tm
  refine A_aload_n dX10_left_0 rfl rfl ?_
  refine A_iload_n dX10_left_1 rfl rfl ?_
  refine A_iload_n dX10_left_2 rfl rfl ?_
  refine A_callVi dX10_left_3 m_X10_421 cb_X10_areTwo (As := [_, _]) rfl HM_at0 rfl (k_areTwo G hv (by omega)) rfl ⟨by decide, by decide⟩ (Nat.le_of_ble_eq_true rfl) ⟨by decide, by decide⟩ (fun x3 h3 hq => ?_)
  obtain ⟨rfl, rfl⟩ := hq
  refine A_if_ne 12 dX10_left_6 (by decide) (fun c6 => ?_) (fun c6 => ?_)
  · have eA : leftA c v t = clearF (dbF c) 50 (pr v t) := by rw [leftA, pair_e xv, if_neg c6]
    obtain ⟨j, k, hj, hk, hjk, rfl, rfl⟩ := pair_of hv6 c6
    refine A_aload_n dX10_left_12 rfl rfl ?_
    refine A_callVv dX10_left_13 m_X10_424 cb_X10_clears (As := []) rfl HM_at0 rfl (k_clears G h) rfl ⟨by decide, by decide⟩ (Nat.le_of_ble_eq_true rfl) ⟨by decide, by decide⟩ (fun h13 hq => ?_)
    obtain ⟨m1, rfl, hk1, J, hJ, d48, d7, d31, d8, dr⟩ := hq
    refine A_aload_n dX10_left_16 rfl rfl ?_
    refine A_iload_n dX10_left_17 rfl rfl ?_
    refine A_iload_n dX10_left_18 rfl rfl ?_
    refine A_callVi dX10_left_19 m_X10_400 cb_X10_debt (As := [_, _]) rfl HM_at0 rfl (k_debt G (by omega) (by omega)) rfl ⟨by decide, by decide⟩ (Nat.le_of_ble_eq_true rfl) ⟨by decide, by decide⟩ (fun x19 h19 hq => ?_)
    obtain ⟨rfl, rfl⟩ := hq
    exact A_iret dX10_left_22 ⟨by rw [eA, pr_N (by omega) (by omega), d48], _, _, rfl, hk1, rfl⟩ ⟨by decide, by decide⟩
  · refine A_bipush (v := (-2)) dX10_left_9 (by decide) ?_
    exact A_iret dX10_left_11 ⟨by rw [leftA, pair_e xv, if_pos c6], ⟨_, _, rfl, KM.rf⟩⟩ ⟨by decide, by decide⟩
