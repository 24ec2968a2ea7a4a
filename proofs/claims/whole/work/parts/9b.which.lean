/-! which LINE: the first word that is it -/
theorem lw_eq {c y : CT} {L p : Nat} (T : TokAt c y L p) (h1 : c 1 1 = nI L) (hL : L ≤ 1600) (hp : p ≤ L) : lwF y 7 0 = if wdB (byF c) L p 7 = true then nI 0 else if wdB (byF c) L p 11 = true then nI 1 else if wdB (byF c) L p 12 = true then nI 2 else if wdB (byF c) L p 13 = true then nI 3 else if wdB (byF c) L p 14 = true then nI 4 else if wdB (byF c) L p 15 = true then nI 5 else if wdB (byF c) L p 16 = true then nI 6 else -1 := by
  have key : ∀ i jr, SW jr i 0 (weF i 0) → weF i 0 < 100 → (isWF y i 0 (weF i 0) = 0 ↔ ¬ wdB (byF c) L p jr = true) := fun i jr hS h => by
    have e := is_eq T h1 hL hp hS h
    exact ⟨fun z w => (e.mpr w) z, fun z => Decidable.not_not.mp (fun q => z (e.mp q))⟩
  have k0 := key 0 7 (by rw [weF_0]; exact sw_0_0) (by rw [weF_0]; decide)
  have k1 := key 1 11 (by rw [weF_1]; exact sw_1_0) (by rw [weF_1]; decide)
  have k2 := key 2 12 (by rw [weF_2]; exact sw_2_0) (by rw [weF_2]; decide)
  have k3 := key 3 13 (by rw [weF_3]; exact sw_3_0) (by rw [weF_3]; decide)
  have k4 := key 4 14 (by rw [weF_4]; exact sw_4_0) (by rw [weF_4]; decide)
  have k5 := key 5 15 (by rw [weF_5]; exact sw_5_0) (by rw [weF_5]; decide)
  have k6 := key 6 16 (by rw [weF_6]; exact sw_6_0) (by rw [weF_6]; decide)
  rw [lwF]
  by_cases w0 : wdB (byF c) L p 7 = true
  · rw [if_pos w0, if_neg (fun z => k0.mp z w0)]
  rw [if_neg w0, if_pos (k0.mpr w0)]
  rw [lwF]
  by_cases w1 : wdB (byF c) L p 11 = true
  · rw [if_pos w1, if_neg (fun z => k1.mp z w1)]
  rw [if_neg w1, if_pos (k1.mpr w1)]
  rw [lwF]
  by_cases w2 : wdB (byF c) L p 12 = true
  · rw [if_pos w2, if_neg (fun z => k2.mp z w2)]
  rw [if_neg w2, if_pos (k2.mpr w2)]
  rw [lwF]
  by_cases w3 : wdB (byF c) L p 13 = true
  · rw [if_pos w3, if_neg (fun z => k3.mp z w3)]
  rw [if_neg w3, if_pos (k3.mpr w3)]
  rw [lwF]
  by_cases w4 : wdB (byF c) L p 14 = true
  · rw [if_pos w4, if_neg (fun z => k4.mp z w4)]
  rw [if_neg w4, if_pos (k4.mpr w4)]
  rw [lwF]
  by_cases w5 : wdB (byF c) L p 15 = true
  · rw [if_pos w5, if_neg (fun z => k5.mp z w5)]
  rw [if_neg w5, if_pos (k5.mpr w5)]
  rw [lwF]
  by_cases w6 : wdB (byF c) L p 16 = true
  · rw [if_pos w6, if_neg (fun z => k6.mp z w6)]
  rw [if_neg w6, if_pos (k6.mpr w6)]
  rfl