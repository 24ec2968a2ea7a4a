/-! the draft cleared -/
theorem c_clear (G : GX) {b : Nat} {c : CT} {co : Nat → Nat → Option Nat} {r : Nat → Option AE} {n : Nat} : MA G 1 yX2_clear cX2_clear 1 none 0 0 [.ref (b + 16)] (HC b c co r n) (qV fun h1 => h1 = HC b (clrF c) co r n) := by
  refine MA.of (own := RX2) false [some (.ref (b + 16))] (by decide +kernel) rfl (fun h => by cases h) (Nat.le_of_ble_eq_true rfl) rfl (fun X => ?_)
  refine A_aload_n dX2_clear_0 rfl rfl ?_
  refine A_get dX2_clear_1 f_X2_14 (HC_at (by decide)) rfl ?_
  refine A_iconst (v := 0) dX2_clear_4 (by decide) ?_
  refine A_putC 2 dX2_clear_5 p_X2_33 (by decide) rfl (Nat.le_of_ble_eq_true rfl) rfl ?_
  obtain ⟨y1, ey1⟩ : ∃ y, put c 17 2 0 = y := ⟨_, rfl⟩
  rw [ey1]
  refine A_aload_n dX2_clear_8 rfl rfl ?_
  refine A_get dX2_clear_9 f_X2_20 (HC_at (by decide)) rfl ?_
  refine A_iconst (v := 0) dX2_clear_12 (by decide) ?_
  refine A_putC 2 dX2_clear_13 p_X2_33 (by decide) rfl (Nat.le_of_ble_eq_true rfl) rfl ?_
  obtain ⟨y2, ey2⟩ : ∃ y, put y1 19 2 0 = y := ⟨_, rfl⟩
  rw [ey2]
  refine A_aload_n dX2_clear_16 rfl rfl ?_
  refine A_get dX2_clear_17 f_X2_23 (HC_at (by decide)) rfl ?_
  refine A_iconst (v := 0) dX2_clear_20 (by decide) ?_
  refine A_putC 2 dX2_clear_21 p_X2_33 (by decide) rfl (Nat.le_of_ble_eq_true rfl) rfl ?_
  obtain ⟨y3, ey3⟩ : ∃ y, put y2 21 2 0 = y := ⟨_, rfl⟩
  rw [ey3]
  refine A_aload_n dX2_clear_24 rfl rfl ?_
  refine A_get dX2_clear_25 f_X2_26 (HC_at (by decide)) rfl ?_
  refine A_iconst (v := 0) dX2_clear_28 (by decide) ?_
  refine A_putC 2 dX2_clear_29 p_X2_33 (by decide) rfl (Nat.le_of_ble_eq_true rfl) rfl ?_
  obtain ⟨y4, ey4⟩ : ∃ y, put y3 23 2 0 = y := ⟨_, rfl⟩
  rw [ey4]
  refine A_aload_n dX2_clear_32 rfl rfl ?_
  refine A_get dX2_clear_33 f_X2_29 (HC_at (by decide)) rfl ?_
  refine A_iconst (v := 0) dX2_clear_36 (by decide) ?_
  refine A_callSv dX2_clear_37 m_X2_37 cb_J7_fill_53178 (As := [_, _]) rfl (c_fill G (HC b _ co r n) (b + 25) _ _ _ (HC_at (by decide)) (by decide)) rfl ⟨by decide, by decide⟩ (Nat.le_of_ble_eq_true rfl) ⟨by decide, by decide⟩ (fun h37 hq => ?_)
  obtain rfl := hq
  refine WA_h (HC_up (k := 25) (g := fun _ => 0) (by decide) rfl) ?_
  obtain ⟨y5, ey5⟩ : ∃ y, st1 y4 25 (fun _ => 0) = y := ⟨_, rfl⟩
  rw [ey5]
  refine A_aload_n dX2_clear_40 rfl rfl ?_
  refine A_iconst (v := 0) dX2_clear_41 (by decide) ?_
  refine A_putC 5 dX2_clear_42 p_X2_43 (by decide) rfl (Nat.le_of_ble_eq_true rfl) rfl ?_
  obtain ⟨y6, ey6⟩ : ∃ y, put y5 16 5 0 = y := ⟨_, rfl⟩
  rw [ey6]
  refine A_aload_n dX2_clear_45 rfl rfl ?_
  refine A_iconst (v := 0) dX2_clear_46 (by decide) ?_
  refine A_putC 6 dX2_clear_47 p_X2_46 (by decide) rfl (Nat.le_of_ble_eq_true rfl) rfl ?_
  obtain ⟨y7, ey7⟩ : ∃ y, put y6 16 6 0 = y := ⟨_, rfl⟩
  rw [ey7]
  refine A_aload_n dX2_clear_50 rfl rfl ?_
  refine A_iconst (v := 0) dX2_clear_51 (by decide) ?_
  refine A_putC 7 dX2_clear_52 p_X2_49 (by decide) rfl (Nat.le_of_ble_eq_true rfl) rfl ?_
  obtain ⟨y8, ey8⟩ : ∃ y, put y7 16 7 0 = y := ⟨_, rfl⟩
  rw [ey8]
  refine A_aload_n dX2_clear_55 rfl rfl ?_
  refine A_iconst (v := 0) dX2_clear_56 (by decide) ?_
  refine A_putC 8 dX2_clear_57 p_X2_52 (by decide) rfl (Nat.le_of_ble_eq_true rfl) rfl ?_
  obtain ⟨y9, ey9⟩ : ∃ y, put y8 16 8 0 = y := ⟨_, rfl⟩
  rw [ey9]
  exact A_vret dX2_clear_60 (by rw [clrF, ey1, ey2, ey3, ey4, ey5, ey6, ey7, ey8, ey9]) ⟨by decide, by decide⟩
