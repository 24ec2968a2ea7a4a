/-! the forms of the LINES -/
def formN (t : Int32) : Nat := if t = 0 then 0 else if t = 1 then 1 else if t = 2 then 2 else if t = 3 then 3 else if t = 4 then 4 else if t = 5 then 5 else 6
theorem c_formOf (G : GX) {h : AH} {t : Int32} : MA G 0 yX4_formOf cX4_formOf 1 (some (.object "java/lang/String")) 0 0 [.int t] h (qR fun x h1 => x = gK G (formN t) ∧ h1 = h) := by
  refine MA.of (own := RX4) false [some (.int t)] (by decide +kernel) rfl (fun h => by cases h) (Nat.le_of_ble_eq_true rfl) rfl (fun X => ?_)
  refine A_iload_n dX4_formOf_0 rfl rfl ?_
  by_cases s1_0 : t = 0
  · subst s1_0
    refine A_tableIn 40 dX4_formOf_1 (by decide) (by decide) rfl (by decide) ?_
    refine A_ldcS 0 dX4_formOf_40 rfl ?_
    exact A_aret dX4_formOf_42 ⟨by rw [formN, if_pos rfl], rfl⟩ ⟨by decide, by decide⟩
  by_cases s1_1 : t = 1
  · subst s1_1
    refine A_tableIn 43 dX4_formOf_1 (by decide) (by decide) rfl (by decide) ?_
    refine A_ldcS 1 dX4_formOf_43 rfl ?_
    exact A_aret dX4_formOf_45 ⟨by rw [formN, if_neg (by decide), if_pos rfl], rfl⟩ ⟨by decide, by decide⟩
  by_cases s1_2 : t = 2
  · subst s1_2
    refine A_tableIn 46 dX4_formOf_1 (by decide) (by decide) rfl (by decide) ?_
    refine A_ldcS 2 dX4_formOf_46 rfl ?_
    exact A_aret dX4_formOf_48 ⟨by rw [formN, if_neg (by decide), if_neg (by decide), if_pos rfl], rfl⟩ ⟨by decide, by decide⟩
  by_cases s1_3 : t = 3
  · subst s1_3
    refine A_tableIn 49 dX4_formOf_1 (by decide) (by decide) rfl (by decide) ?_
    refine A_ldcS 3 dX4_formOf_49 rfl ?_
    exact A_aret dX4_formOf_51 ⟨by rw [formN, if_neg (by decide), if_neg (by decide), if_neg (by decide), if_pos rfl], rfl⟩ ⟨by decide, by decide⟩
  by_cases s1_4 : t = 4
  · subst s1_4
    refine A_tableIn 52 dX4_formOf_1 (by decide) (by decide) rfl (by decide) ?_
    refine A_ldcS 4 dX4_formOf_52 rfl ?_
    exact A_aret dX4_formOf_54 ⟨by rw [formN, if_neg (by decide), if_neg (by decide), if_neg (by decide), if_neg (by decide), if_pos rfl], rfl⟩ ⟨by decide, by decide⟩
  by_cases s1_5 : t = 5
  · subst s1_5
    refine A_tableIn 55 dX4_formOf_1 (by decide) (by decide) rfl (by decide) ?_
    refine A_ldcS 5 dX4_formOf_55 rfl ?_
    exact A_aret dX4_formOf_57 ⟨by rw [formN, if_neg (by decide), if_neg (by decide), if_neg (by decide), if_neg (by decide), if_neg (by decide), if_pos rfl], rfl⟩ ⟨by decide, by decide⟩
  refine A_tableOut 58 dX4_formOf_1 (sw_out6 s1_0 s1_1 s1_2 s1_3 s1_4 s1_5) (by decide) ?_
  refine A_ldcS 6 dX4_formOf_58 rfl ?_
  exact A_aret dX4_formOf_60 ⟨by rw [formN, if_neg s1_0, if_neg s1_1, if_neg s1_2, if_neg s1_3, if_neg s1_4, if_neg s1_5], rfl⟩ ⟨by decide, by decide⟩
