/-! the forms: what is told, on both sides -/
theorem ls_0_0 {y : CT} : leastF y (nI 0) (nI 0) = 4 := by rw [leastF, if_pos (by decide : nI 0 = 0), if_pos (by decide : nI 0 = 0)]
theorem ms_0_0 {y : CT} : mostF y (nI 0) (nI 0) = 30 := by rw [mostF, if_pos (by decide : nI 0 = 0), most0, if_pos (by decide : nI 0 = 0)]
theorem ls_0_1 {y : CT} : leastF y (nI 0) (nI 1) = 0 := by rw [leastF, if_pos (by decide : nI 0 = 0), if_neg (by decide : ¬ (nI 1 = 0))]
theorem ms_0_1 {y : CT} : mostF y (nI 0) (nI 1) = 100 := by rw [mostF, if_pos (by decide : nI 0 = 0), most0, if_neg (by decide : ¬ (nI 1 = 0)), if_pos (by decide : nI 1 = 1)]
theorem ls_0_2 {y : CT} : leastF y (nI 0) (nI 2) = 0 := by rw [leastF, if_pos (by decide : nI 0 = 0), if_neg (by decide : ¬ (nI 2 = 0))]
theorem ms_0_2 {y : CT} : mostF y (nI 0) (nI 2) = y 4 0 - 1 := by rw [mostF, if_pos (by decide : nI 0 = 0), most0, if_neg (by decide : ¬ (nI 2 = 0)), if_neg (by decide : ¬ (nI 2 = 1))]
theorem ls_1_0 {y : CT} : leastF y (nI 1) (nI 0) = 0 := by rw [leastF, if_neg (by decide : ¬ (nI 1 = 0)), if_neg (by decide : ¬ (nI 1 = 2)), if_neg (by decide : ¬ (nI 1 = 5))]
theorem ms_1_0 {y : CT} : mostF y (nI 1) (nI 0) = 9999 := by rw [mostF, if_neg (by decide : ¬ (nI 1 = 0)), if_pos (by decide : nI 1 = 1), most1, if_pos (by decide : nI 0 = 0)]
theorem ls_1_1 {y : CT} : leastF y (nI 1) (nI 1) = 0 := by rw [leastF, if_neg (by decide : ¬ (nI 1 = 0)), if_neg (by decide : ¬ (nI 1 = 2)), if_neg (by decide : ¬ (nI 1 = 5))]
theorem ms_1_1 {y : CT} : mostF y (nI 1) (nI 1) = y 4 0 := by rw [mostF, if_neg (by decide : ¬ (nI 1 = 0)), if_pos (by decide : nI 1 = 1), most1, if_neg (by decide : ¬ (nI 1 = 0)), if_pos (by decide : nI 1 = 1)]
theorem ls_1_2 {y : CT} : leastF y (nI 1) (nI 2) = 0 := by rw [leastF, if_neg (by decide : ¬ (nI 1 = 0)), if_neg (by decide : ¬ (nI 1 = 2)), if_neg (by decide : ¬ (nI 1 = 5))]
theorem ms_1_2 {y : CT} : mostF y (nI 1) (nI 2) = 99 := by rw [mostF, if_neg (by decide : ¬ (nI 1 = 0)), if_pos (by decide : nI 1 = 1), most1, if_neg (by decide : ¬ (nI 2 = 0)), if_neg (by decide : ¬ (nI 2 = 1))]
theorem ls_1_3 {y : CT} : leastF y (nI 1) (nI 3) = 0 := by rw [leastF, if_neg (by decide : ¬ (nI 1 = 0)), if_neg (by decide : ¬ (nI 1 = 2)), if_neg (by decide : ¬ (nI 1 = 5))]
theorem ms_1_3 {y : CT} : mostF y (nI 1) (nI 3) = 99 := by rw [mostF, if_neg (by decide : ¬ (nI 1 = 0)), if_pos (by decide : nI 1 = 1), most1, if_neg (by decide : ¬ (nI 3 = 0)), if_neg (by decide : ¬ (nI 3 = 1))]
theorem ls_2_0 {y : CT} : leastF y (nI 2) (nI 0) = 0 := by rw [leastF, if_neg (by decide : ¬ (nI 2 = 0)), if_pos (by decide : nI 2 = 2), if_neg (by decide : ¬ (nI 0 = 1)), if_neg (by decide : ¬ (nI 0 = 4))]
theorem ms_2_0 {y : CT} : mostF y (nI 2) (nI 0) = y 17 2 - 1 := by rw [mostF, if_neg (by decide : ¬ (nI 2 = 0)), if_neg (by decide : ¬ (nI 2 = 1)), if_pos (by decide : nI 2 = 2), most2, if_pos (by decide : nI 0 = 0), lastV]
theorem ls_2_1 {y : CT} : leastF y (nI 2) (nI 1) = 1 := by rw [leastF, if_neg (by decide : ¬ (nI 2 = 0)), if_pos (by decide : nI 2 = 2), if_pos (by decide : nI 1 = 1)]
theorem ms_2_1 {y : CT} : mostF y (nI 2) (nI 1) = 99 := by rw [mostF, if_neg (by decide : ¬ (nI 2 = 0)), if_neg (by decide : ¬ (nI 2 = 1)), if_pos (by decide : nI 2 = 2), most2, if_neg (by decide : ¬ (nI 1 = 0)), if_neg (by decide : ¬ (2 < nI 1))]
theorem ls_2_2 {y : CT} : leastF y (nI 2) (nI 2) = 0 := by rw [leastF, if_neg (by decide : ¬ (nI 2 = 0)), if_pos (by decide : nI 2 = 2), if_neg (by decide : ¬ (nI 2 = 1)), if_neg (by decide : ¬ (nI 2 = 4))]
theorem ms_2_2 {y : CT} : mostF y (nI 2) (nI 2) = 99 := by rw [mostF, if_neg (by decide : ¬ (nI 2 = 0)), if_neg (by decide : ¬ (nI 2 = 1)), if_pos (by decide : nI 2 = 2), most2, if_neg (by decide : ¬ (nI 2 = 0)), if_neg (by decide : ¬ (2 < nI 2))]
theorem ls_2_3 {y : CT} : leastF y (nI 2) (nI 3) = 0 := by rw [leastF, if_neg (by decide : ¬ (nI 2 = 0)), if_pos (by decide : nI 2 = 2), if_neg (by decide : ¬ (nI 3 = 1)), if_neg (by decide : ¬ (nI 3 = 4))]
theorem ms_2_3 {y : CT} : mostF y (nI 2) (nI 3) = y 16 6 - 1 := by rw [mostF, if_neg (by decide : ¬ (nI 2 = 0)), if_neg (by decide : ¬ (nI 2 = 1)), if_pos (by decide : nI 2 = 2), most2, if_neg (by decide : ¬ (nI 3 = 0)), if_pos (by decide : 2 < nI 3), lastW]
theorem ls_2_4 {y : CT} : leastF y (nI 2) (nI 4) = y 4 3 := by rw [leastF, if_neg (by decide : ¬ (nI 2 = 0)), if_pos (by decide : nI 2 = 2), if_neg (by decide : ¬ (nI 4 = 1)), if_pos (by decide : nI 4 = 4)]
theorem ms_2_4 {y : CT} : mostF y (nI 2) (nI 4) = y 16 6 - 1 := by rw [mostF, if_neg (by decide : ¬ (nI 2 = 0)), if_neg (by decide : ¬ (nI 2 = 1)), if_pos (by decide : nI 2 = 2), most2, if_neg (by decide : ¬ (nI 4 = 0)), if_pos (by decide : 2 < nI 4), lastW]
theorem ls_3_0 {y : CT} : leastF y (nI 3) (nI 0) = 0 := by rw [leastF, if_neg (by decide : ¬ (nI 3 = 0)), if_neg (by decide : ¬ (nI 3 = 2)), if_neg (by decide : ¬ (nI 3 = 5))]
theorem ms_3_0 {y : CT} : mostF y (nI 3) (nI 0) = y 16 6 - 1 := by rw [mostF, if_neg (by decide : ¬ (nI 3 = 0)), if_neg (by decide : ¬ (nI 3 = 1)), if_neg (by decide : ¬ (nI 3 = 2)), if_pos (by decide : nI 3 = 3), most3, if_pos (by decide : nI 0 = 0), lastW]
theorem ls_3_1 {y : CT} : leastF y (nI 3) (nI 1) = 0 := by rw [leastF, if_neg (by decide : ¬ (nI 3 = 0)), if_neg (by decide : ¬ (nI 3 = 2)), if_neg (by decide : ¬ (nI 3 = 5))]
theorem ms_3_1 {y : CT} : mostF y (nI 3) (nI 1) = 99 := by rw [mostF, if_neg (by decide : ¬ (nI 3 = 0)), if_neg (by decide : ¬ (nI 3 = 1)), if_neg (by decide : ¬ (nI 3 = 2)), if_pos (by decide : nI 3 = 3), most3, if_neg (by decide : ¬ (nI 1 = 0))]
theorem ls_4_0 {y : CT} : leastF y (nI 4) (nI 0) = 0 := by rw [leastF, if_neg (by decide : ¬ (nI 4 = 0)), if_neg (by decide : ¬ (nI 4 = 2)), if_neg (by decide : ¬ (nI 4 = 5))]
theorem ms_4_0 {y : CT} : mostF y (nI 4) (nI 0) = y 16 6 - 1 := by rw [mostF, if_neg (by decide : ¬ (nI 4 = 0)), if_neg (by decide : ¬ (nI 4 = 1)), if_neg (by decide : ¬ (nI 4 = 2)), if_neg (by decide : ¬ (nI 4 = 3)), if_pos (by decide : nI 4 = 4), most4, if_pos (by decide : nI 0 = 0), lastW]
theorem ls_4_1 {y : CT} : leastF y (nI 4) (nI 1) = 0 := by rw [leastF, if_neg (by decide : ¬ (nI 4 = 0)), if_neg (by decide : ¬ (nI 4 = 2)), if_neg (by decide : ¬ (nI 4 = 5))]
theorem ms_4_1 {y : CT} : mostF y (nI 4) (nI 1) = 9999 := by rw [mostF, if_neg (by decide : ¬ (nI 4 = 0)), if_neg (by decide : ¬ (nI 4 = 1)), if_neg (by decide : ¬ (nI 4 = 2)), if_neg (by decide : ¬ (nI 4 = 3)), if_pos (by decide : nI 4 = 4), most4, if_neg (by decide : ¬ (nI 1 = 0)), if_pos (by decide : nI 1 = 1)]
theorem ls_4_2 {y : CT} : leastF y (nI 4) (nI 2) = 0 := by rw [leastF, if_neg (by decide : ¬ (nI 4 = 0)), if_neg (by decide : ¬ (nI 4 = 2)), if_neg (by decide : ¬ (nI 4 = 5))]
theorem ms_4_2 {y : CT} : mostF y (nI 4) (nI 2) = 100 := by rw [mostF, if_neg (by decide : ¬ (nI 4 = 0)), if_neg (by decide : ¬ (nI 4 = 1)), if_neg (by decide : ¬ (nI 4 = 2)), if_neg (by decide : ¬ (nI 4 = 3)), if_pos (by decide : nI 4 = 4), most4, if_neg (by decide : ¬ (nI 2 = 0)), if_neg (by decide : ¬ (nI 2 = 1))]
theorem ls_5_0 {y : CT} : leastF y (nI 5) (nI 0) = 0 := by rw [leastF, if_neg (by decide : ¬ (nI 5 = 0)), if_neg (by decide : ¬ (nI 5 = 2)), if_pos (by decide : nI 5 = 5), if_neg (by decide : ¬ (nI 0 = 2)), if_neg (by decide : ¬ (nI 0 = 4))]
theorem ms_5_0 {y : CT} : mostF y (nI 5) (nI 0) = y 17 2 - 1 := by rw [mostF, if_neg (by decide : ¬ (nI 5 = 0)), if_neg (by decide : ¬ (nI 5 = 1)), if_neg (by decide : ¬ (nI 5 = 2)), if_neg (by decide : ¬ (nI 5 = 3)), if_neg (by decide : ¬ (nI 5 = 4)), if_pos (by decide : nI 5 = 5), most5, if_neg (by decide : ¬ (1 < nI 0)), lastV]
theorem ls_5_1 {y : CT} : leastF y (nI 5) (nI 1) = 0 := by rw [leastF, if_neg (by decide : ¬ (nI 5 = 0)), if_neg (by decide : ¬ (nI 5 = 2)), if_pos (by decide : nI 5 = 5), if_neg (by decide : ¬ (nI 1 = 2)), if_neg (by decide : ¬ (nI 1 = 4))]
theorem ms_5_1 {y : CT} : mostF y (nI 5) (nI 1) = y 17 2 - 1 := by rw [mostF, if_neg (by decide : ¬ (nI 5 = 0)), if_neg (by decide : ¬ (nI 5 = 1)), if_neg (by decide : ¬ (nI 5 = 2)), if_neg (by decide : ¬ (nI 5 = 3)), if_neg (by decide : ¬ (nI 5 = 4)), if_pos (by decide : nI 5 = 5), most5, if_neg (by decide : ¬ (1 < nI 1)), lastV]
theorem ls_5_2 {y : CT} : leastF y (nI 5) (nI 2) = 1 := by rw [leastF, if_neg (by decide : ¬ (nI 5 = 0)), if_neg (by decide : ¬ (nI 5 = 2)), if_pos (by decide : nI 5 = 5), if_pos (by decide : nI 2 = 2)]
theorem ms_5_2 {y : CT} : mostF y (nI 5) (nI 2) = 9999 := by rw [mostF, if_neg (by decide : ¬ (nI 5 = 0)), if_neg (by decide : ¬ (nI 5 = 1)), if_neg (by decide : ¬ (nI 5 = 2)), if_neg (by decide : ¬ (nI 5 = 3)), if_neg (by decide : ¬ (nI 5 = 4)), if_pos (by decide : nI 5 = 5), most5, if_pos (by decide : 1 < nI 2), if_pos (by decide : nI 2 = 2)]
theorem ls_5_3 {y : CT} : leastF y (nI 5) (nI 3) = 0 := by rw [leastF, if_neg (by decide : ¬ (nI 5 = 0)), if_neg (by decide : ¬ (nI 5 = 2)), if_pos (by decide : nI 5 = 5), if_neg (by decide : ¬ (nI 3 = 2)), if_neg (by decide : ¬ (nI 3 = 4))]
theorem ms_5_3 {y : CT} : mostF y (nI 5) (nI 3) = y 16 6 - 1 := by rw [mostF, if_neg (by decide : ¬ (nI 5 = 0)), if_neg (by decide : ¬ (nI 5 = 1)), if_neg (by decide : ¬ (nI 5 = 2)), if_neg (by decide : ¬ (nI 5 = 3)), if_neg (by decide : ¬ (nI 5 = 4)), if_pos (by decide : nI 5 = 5), most5, if_pos (by decide : 1 < nI 3), if_neg (by decide : ¬ (nI 3 = 2)), lastW]
theorem ls_5_4 {y : CT} : leastF y (nI 5) (nI 4) = y 4 3 + 1 := by rw [leastF, if_neg (by decide : ¬ (nI 5 = 0)), if_neg (by decide : ¬ (nI 5 = 2)), if_pos (by decide : nI 5 = 5), if_neg (by decide : ¬ (nI 4 = 2)), if_pos (by decide : nI 4 = 4)]
theorem ms_5_4 {y : CT} : mostF y (nI 5) (nI 4) = y 16 6 - 1 := by rw [mostF, if_neg (by decide : ¬ (nI 5 = 0)), if_neg (by decide : ¬ (nI 5 = 1)), if_neg (by decide : ¬ (nI 5 = 2)), if_neg (by decide : ¬ (nI 5 = 3)), if_neg (by decide : ¬ (nI 5 = 4)), if_pos (by decide : nI 5 = 5), most5, if_pos (by decide : 1 < nI 4), if_neg (by decide : ¬ (nI 4 = 2)), lastW]
theorem ls_6_0 {y : CT} : leastF y (nI 6) (nI 0) = 0 := by rw [leastF, if_neg (by decide : ¬ (nI 6 = 0)), if_neg (by decide : ¬ (nI 6 = 2)), if_neg (by decide : ¬ (nI 6 = 5))]
theorem ms_6_0 {y : CT} : mostF y (nI 6) (nI 0) = y 17 2 - 1 := by rw [mostF, if_neg (by decide : ¬ (nI 6 = 0)), if_neg (by decide : ¬ (nI 6 = 1)), if_neg (by decide : ¬ (nI 6 = 2)), if_neg (by decide : ¬ (nI 6 = 3)), if_neg (by decide : ¬ (nI 6 = 4)), if_neg (by decide : ¬ (nI 6 = 5)), most6, if_pos (by decide : nI 0 = 0), lastV]
theorem ls_6_1 {y : CT} : leastF y (nI 6) (nI 1) = 0 := by rw [leastF, if_neg (by decide : ¬ (nI 6 = 0)), if_neg (by decide : ¬ (nI 6 = 2)), if_neg (by decide : ¬ (nI 6 = 5))]
theorem ms_6_1 {y : CT} : mostF y (nI 6) (nI 1) = 9999 := by rw [mostF, if_neg (by decide : ¬ (nI 6 = 0)), if_neg (by decide : ¬ (nI 6 = 1)), if_neg (by decide : ¬ (nI 6 = 2)), if_neg (by decide : ¬ (nI 6 = 3)), if_neg (by decide : ¬ (nI 6 = 4)), if_neg (by decide : ¬ (nI 6 = 5)), most6, if_neg (by decide : ¬ (nI 1 = 0))]
/-- a form went alike on both sides -/
def FO (L : Nat) (f : Nat → Int32) (p : Nat) (Rl : Bool × CT) (c : CT) (R : RS) (V : CT → (Nat → Int32) → Prop) : Prop := (R.1.1 = 0 ∧ ∃ y, Rl = (true, y) ∧ CP L f R.1.2 y ∧ p ≤ R.1.2 ∧ (∀ l, l ≠ 4 → l ≠ 5 → y l = c l) ∧ V y R.2) ∨ BDs Rl R.1
theorem FO.mk {L p q : Nat} {f g : Nat → Int32} {Rl : Bool × CT} {c y : CT} {R : RS} {V : CT → (Nat → Int32) → Prop} (hR : R = ((0, q), g)) (e : Rl = (true, y)) (P : CP L f q y) (hq : p ≤ q) (hl : ∀ l, l ≠ 4 → l ≠ 5 → y l = c l) (hV : V y g) : FO L f p Rl c R V := by subst hR; exact Or.inl ⟨rfl, y, e, P, hq, hl, hV⟩
theorem FO.bad {L p : Nat} {f : Nat → Int32} {Rl Rl' : Bool × CT} {c : CT} {R : RS} {o : Int32 × Nat} {V : CT → (Nat → Int32) → Prop} (B : BDs Rl' o) (e : Rl = Rl') (e2 : R.1 = o) : FO L f p Rl c R V := Or.inr (B.to e e2)
theorem i_m1 {v : Int32} (h1 : (4 : Int32).toInt ≤ v.toInt) (h2 : v.toInt ≤ (30 : Int32).toInt) : (v - 1).toInt = v.toInt - 1 := by
  have e1 : (4 : Int32).toInt = 4 := rfl
  have e2 : (30 : Int32).toInt = 30 := rfl
  have e : v = nI v.toInt.toNat := by
    refine Int32.toInt_inj.mp ?_
    rw [nI_toInt (by omega)]
    omega
  rw [e, show (1 : Int32) = nI 1 from rfl, nI_m1_toInt (by omega), nI_toInt (by omega)]
theorem i_p1 {v : Int32} (h1 : (0 : Int32).toInt ≤ v.toInt) (h2 : v.toInt < 99999) : (v + 1).toInt = v.toInt + 1 := by
  have e1 : (0 : Int32).toInt = 0 := rfl
  have e : v = nI v.toInt.toNat := by
    refine Int32.toInt_inj.mp ?_
    rw [nI_toInt (by omega)]
    omega
  rw [e, nI_1, nI_toInt (by omega), nI_toInt (by omega)]
  omega
def rvS (f : Nat → Int32) (L : Nat) (s : RS) : RS := tdS f L 10 0 ((tdS f L 9 0 100 6 (tdS f L 8 4 30 5 s)).2 5 - 1) 7 (tdS f L 9 0 100 6 (tdS f L 8 4 30 5 s))
theorem fo_0 {L p : Nat} {f g : Nat → Int32} {c : CT} (h : CP L f p c) : FO L f p (rlL L (nI 0) 0 (itJ 0) 0 c) c (rvS f L ((0, p), g)) (fun y g9 => ∃ v0 v1 v2, g9 = (upd (upd (upd g (5) v0) (6) v1) (7) v2) ∧ (y 4 0 = v0 ∧ y 4 1 = v1 ∧ y 4 2 = v2) ∧ (4 ≤ v0.toInt ∧ v0.toInt ≤ 30) ∧ (0 ≤ v1.toInt ∧ v1.toInt ≤ 100) ∧ (0 ≤ v2.toInt ∧ v2.toInt ≤ v0.toInt - 1)) := by
  rcases td_r (jr := 8) (f0 := 6) (t0 := 11) (i := 5) (g := g) (k := 0) (jc := 0) (t := nI 0) (lo := 4) (hi := 30) h sw_0_6 (by decide) (by rw [ls_0_0]) (by rw [ms_0_0]) (by decide) (by decide) (by decide) with ⟨v0, q0, y0, E0, r0, P0, l0, a0, m0, n0, w0⟩ | ⟨o, E0, B⟩
  rotate_left
  · refine FO.bad B (by rw [itJ_0]) ?_
    rw [rvS]
    exact (tdS_bad (tdS_bad E0 B.1) B.1)
  have hl0 : ∀ l, l ≠ 4 → l ≠ 5 → y0 l = c l := fun l a b => l0 l a b
  have z0_0 : y0 4 0 = v0 := by rw [a0, pk_us]
  have t0 : (v0 - 1).toInt = v0.toInt - 1 := i_m1 m0 n0
  have t00 : v0.toInt ≤ 30 := n0
  rcases td_r (jr := 9) (f0 := 14) (t0 := 18) (i := 6) (g := (upd g (5) v0)) (k := 1) (jc := 0) (t := nI 0) (lo := 0) (hi := 100) P0 sw_0_14 (by decide) (by rw [ls_0_1]) (by rw [ms_0_1]) (by decide) (by decide) (by decide) with ⟨v1, q1, y1, E1, r1, P1, l1, a1, m1, n1, w1⟩ | ⟨o, E1, B⟩
  rotate_left
  · refine FO.bad B (by rw [itJ_0, r0]) ?_
    rw [rvS]
    rw [E0]
    try dsimp only
    exact (tdS_bad E1 B.1)
  have hl1 : ∀ l, l ≠ 4 → l ≠ 5 → y1 l = c l := fun l a b => (l1 l a b).trans (hl0 l a b)
  have z1_0 : y1 4 0 = v0 := by rw [a1, pk_un (by decide)]; exact z0_0
  have z1_1 : y1 4 1 = v1 := by rw [a1, pk_us]
  rcases td_r (jr := 10) (f0 := 21) (t0 := 25) (i := 7) (g := (upd (upd g (5) v0) (6) v1)) (k := 2) (jc := 0) (t := nI 0) (lo := 0) (hi := (v0 - 1)) P1 sw_0_21 (by decide) (by rw [ls_0_2]) (by rw [ms_0_2, z1_0]) (by decide) (by rw [t0]; omega) (by decide) with ⟨v2, q2, y2, E2, r2, P2, l2, a2, m2, n2, w2⟩ | ⟨o, E2, B⟩
  rotate_left
  · refine FO.bad B (by rw [itJ_0, r0, r1]) ?_
    rw [rvS]
    rw [E0]
    try dsimp only
    rw [E1]
    try dsimp only
    rw [pk_un (show (5 : Nat) ≠ 6 by decide), pk_us]
    exact E2
  have hl2 : ∀ l, l ≠ 4 → l ≠ 5 → y2 l = c l := fun l a b => (l2 l a b).trans (hl1 l a b)
  have z2_0 : y2 4 0 = v0 := by rw [a2, pk_un (by decide)]; exact z1_0
  have z2_1 : y2 4 1 = v1 := by rw [a2, pk_un (by decide)]; exact z1_1
  have z2_2 : y2 4 2 = v2 := by rw [a2, pk_us]
  refine FO.mk (q := q2) (y := y2) (g := (upd (upd (upd g (5) v0) (6) v1) (7) v2)) ?_ (by rw [itJ_0, r0, r1, r2, rlL]) P2 (by omega) hl2 ⟨v0, v1, v2, rfl, ⟨z2_0, z2_1, z2_2⟩, ⟨m0, n0⟩, ⟨m1, n1⟩, m2, by rw [← t0]; exact n2⟩
  rw [rvS]
  rw [E0]
  try dsimp only
  rw [E1]
  try dsimp only
  rw [pk_un (show (5 : Nat) ≠ 6 by decide), pk_us]
  rw [E2]
  try dsimp only
  all_goals rfl
theorem viS_u {f : Nat → Int32} {L N : Nat} {s : RS} : viS f L N s = inS 0 (tdS f L 20 0 99 (8 + 5 * N + 3) (tdS f L 19 0 99 (8 + 5 * N + 2) (tdS f L 18 0 ((tdS f L 17 0 9999 (8 + 5 * N + 0) s).2 (8 + 5 * N + 0)) (8 + 5 * N + 1) (tdS f L 17 0 9999 (8 + 5 * N + 0) s)))) := rfl
theorem fo_1 {L p N : Nat} {f g : Nat → Int32} {c : CT} (h : CP L f p c) : FO L f p (rlL L (nI 1) 1 (itJ 1) 0 c) c (viS f L N ((0, p), g)) (fun y g9 => ∃ v0 v1 v2 v3, g9 = upd (upd (upd (upd (upd g (8 + 5 * N + 0) v0) (8 + 5 * N + 1) v1) (8 + 5 * N + 2) v2) (8 + 5 * N + 3) v3) 0 ((upd (upd (upd (upd g (8 + 5 * N + 0) v0) (8 + 5 * N + 1) v1) (8 + 5 * N + 2) v2) (8 + 5 * N + 3) v3) 0 + 1) ∧ (y 4 0 = v0 ∧ y 4 1 = v1 ∧ y 4 2 = v2 ∧ y 4 3 = v3) ∧ (0 ≤ v0.toInt ∧ v0.toInt ≤ 9999) ∧ (0 ≤ v1.toInt ∧ v1.toInt ≤ v0.toInt) ∧ (0 ≤ v2.toInt ∧ v2.toInt ≤ 99) ∧ (0 ≤ v3.toInt ∧ v3.toInt ≤ 99)) := by
  rcases td_r (jr := 17) (f0 := 8) (t0 := 12) (i := 8 + 5 * N + 0) (g := g) (k := 0) (jc := 1) (t := nI 1) (lo := 0) (hi := 9999) h sw_1_8 (by decide) (by rw [ls_1_0]) (by rw [ms_1_0]) (by decide) (by decide) (by decide) with ⟨v0, q0, y0, E0, r0, P0, l0, a0, m0, n0, w0⟩ | ⟨o, E0, B⟩
  rotate_left
  · refine FO.bad B (by rw [itJ_1]) ?_
    rw [viS_u]
    exact (in_bad (tdS_bad (tdS_bad (tdS_bad E0 B.1) B.1) B.1))
  have hl0 : ∀ l, l ≠ 4 → l ≠ 5 → y0 l = c l := fun l a b => l0 l a b
  have z0_0 : y0 4 0 = v0 := by rw [a0, pk_us]
  have t9 : v0.toInt ≤ 9999 := n0
  rcases td_r (jr := 18) (f0 := 15) (t0 := 20) (i := 8 + 5 * N + 1) (g := (upd g (8 + 5 * N + 0) v0)) (k := 1) (jc := 1) (t := nI 1) (lo := 0) (hi := v0) P0 sw_1_15 (by decide) (by rw [ls_1_1]) (by rw [ms_1_1, z0_0]) (by decide) (by omega) (by decide) with ⟨v1, q1, y1, E1, r1, P1, l1, a1, m1, n1, w1⟩ | ⟨o, E1, B⟩
  rotate_left
  · refine FO.bad B (by rw [itJ_1, r0]) ?_
    rw [viS_u]
    rw [E0]
    try dsimp only
    rw [pk_us]
    exact (in_bad (tdS_bad (tdS_bad E1 B.1) B.1))
  have hl1 : ∀ l, l ≠ 4 → l ≠ 5 → y1 l = c l := fun l a b => (l1 l a b).trans (hl0 l a b)
  have z1_0 : y1 4 0 = v0 := by rw [a1, pk_un (by decide)]; exact z0_0
  have z1_1 : y1 4 1 = v1 := by rw [a1, pk_us]
  rcases td_r (jr := 19) (f0 := 23) (t0 := 27) (i := 8 + 5 * N + 2) (g := (upd (upd g (8 + 5 * N + 0) v0) (8 + 5 * N + 1) v1)) (k := 2) (jc := 1) (t := nI 1) (lo := 0) (hi := 99) P1 sw_1_23 (by decide) (by rw [ls_1_2]) (by rw [ms_1_2]) (by decide) (by decide) (by decide) with ⟨v2, q2, y2, E2, r2, P2, l2, a2, m2, n2, w2⟩ | ⟨o, E2, B⟩
  rotate_left
  · refine FO.bad B (by rw [itJ_1, r0, r1]) ?_
    rw [viS_u]
    rw [E0]
    try dsimp only
    rw [pk_us]
    rw [E1]
    try dsimp only
    exact (in_bad (tdS_bad E2 B.1))
  have hl2 : ∀ l, l ≠ 4 → l ≠ 5 → y2 l = c l := fun l a b => (l2 l a b).trans (hl1 l a b)
  have z2_0 : y2 4 0 = v0 := by rw [a2, pk_un (by decide)]; exact z1_0
  have z2_1 : y2 4 1 = v1 := by rw [a2, pk_un (by decide)]; exact z1_1
  have z2_2 : y2 4 2 = v2 := by rw [a2, pk_us]
  rcases td_r (jr := 20) (f0 := 30) (t0 := 34) (i := 8 + 5 * N + 3) (g := (upd (upd (upd g (8 + 5 * N + 0) v0) (8 + 5 * N + 1) v1) (8 + 5 * N + 2) v2)) (k := 3) (jc := 1) (t := nI 1) (lo := 0) (hi := 99) P2 sw_1_30 (by decide) (by rw [ls_1_3]) (by rw [ms_1_3]) (by decide) (by decide) (by decide) with ⟨v3, q3, y3, E3, r3, P3, l3, a3, m3, n3, w3⟩ | ⟨o, E3, B⟩
  rotate_left
  · refine FO.bad B (by rw [itJ_1, r0, r1, r2]) ?_
    rw [viS_u]
    rw [E0]
    try dsimp only
    rw [pk_us]
    rw [E1]
    try dsimp only
    rw [E2]
    try dsimp only
    exact (in_bad E3)
  have hl3 : ∀ l, l ≠ 4 → l ≠ 5 → y3 l = c l := fun l a b => (l3 l a b).trans (hl2 l a b)
  have z3_0 : y3 4 0 = v0 := by rw [a3, pk_un (by decide)]; exact z2_0
  have z3_1 : y3 4 1 = v1 := by rw [a3, pk_un (by decide)]; exact z2_1
  have z3_2 : y3 4 2 = v2 := by rw [a3, pk_un (by decide)]; exact z2_2
  have z3_3 : y3 4 3 = v3 := by rw [a3, pk_us]
  refine FO.mk (q := q3) (y := y3) (g := upd (upd (upd (upd (upd g (8 + 5 * N + 0) v0) (8 + 5 * N + 1) v1) (8 + 5 * N + 2) v2) (8 + 5 * N + 3) v3) 0 ((upd (upd (upd (upd g (8 + 5 * N + 0) v0) (8 + 5 * N + 1) v1) (8 + 5 * N + 2) v2) (8 + 5 * N + 3) v3) 0 + 1)) ?_ (by rw [itJ_1, r0, r1, r2, r3, rlL]) P3 (by omega) hl3 ⟨v0, v1, v2, v3, rfl, ⟨z3_0, z3_1, z3_2, z3_3⟩, ⟨m0, n0⟩, ⟨m1, n1⟩, ⟨m2, n2⟩, ⟨m3, n3⟩⟩
  rw [viS_u]
  rw [E0]
  try dsimp only
  rw [pk_us]
  rw [E1]
  try dsimp only
  rw [E2]
  try dsimp only
  rw [E3]
  try dsimp only
  all_goals rfl
theorem crS_u {f : Nat → Int32} {L N : Nat} {s : RS} : crS f L N s = inS 1 (tdS f L 24 ((tdS f L 23 0 ((tdS f L 22 0 99 (38 + 5 * N + 2) (tdS f L 21 1 99 (38 + 5 * N + 1) (nuS f L 0 (s.2 0 - 1) (38 + 5 * N + 0) s))).2 5 - 1) (38 + 5 * N + 3) (tdS f L 22 0 99 (38 + 5 * N + 2) (tdS f L 21 1 99 (38 + 5 * N + 1) (nuS f L 0 (s.2 0 - 1) (38 + 5 * N + 0) s)))).2 (38 + 5 * N + 3)) ((tdS f L 23 0 ((tdS f L 22 0 99 (38 + 5 * N + 2) (tdS f L 21 1 99 (38 + 5 * N + 1) (nuS f L 0 (s.2 0 - 1) (38 + 5 * N + 0) s))).2 5 - 1) (38 + 5 * N + 3) (tdS f L 22 0 99 (38 + 5 * N + 2) (tdS f L 21 1 99 (38 + 5 * N + 1) (nuS f L 0 (s.2 0 - 1) (38 + 5 * N + 0) s)))).2 5 - 1) (38 + 5 * N + 4) (tdS f L 23 0 ((tdS f L 22 0 99 (38 + 5 * N + 2) (tdS f L 21 1 99 (38 + 5 * N + 1) (nuS f L 0 (s.2 0 - 1) (38 + 5 * N + 0) s))).2 5 - 1) (38 + 5 * N + 3) (tdS f L 22 0 99 (38 + 5 * N + 2) (tdS f L 21 1 99 (38 + 5 * N + 1) (nuS f L 0 (s.2 0 - 1) (38 + 5 * N + 0) s))))) := rfl
theorem fo_2 {L p N : Nat} {f g : Nat → Int32} {c : CT} (h : CP L f p c) (h0 : c 17 2 = g 0) (b0 : (g 0 - 1).toInt < 99999) (h5 : c 16 6 = g 5) (b5 : (g 5 - 1).toInt < 99999) : FO L f p (rlL L (nI 2) 2 (itJ 2) 0 c) c (crS f L N ((0, p), g)) (fun y g9 => ∃ v0 v1 v2 v3 v4, g9 = upd (upd (upd (upd (upd (upd g (38 + 5 * N + 0) v0) (38 + 5 * N + 1) v1) (38 + 5 * N + 2) v2) (38 + 5 * N + 3) v3) (38 + 5 * N + 4) v4) 1 ((upd (upd (upd (upd (upd g (38 + 5 * N + 0) v0) (38 + 5 * N + 1) v1) (38 + 5 * N + 2) v2) (38 + 5 * N + 3) v3) (38 + 5 * N + 4) v4) 1 + 1) ∧ (y 4 0 = v0 ∧ y 4 1 = v1 ∧ y 4 2 = v2 ∧ y 4 3 = v3 ∧ y 4 4 = v4) ∧ (0 ≤ v0.toInt ∧ v0.toInt ≤ (g 0 - 1).toInt) ∧ (1 ≤ v1.toInt ∧ v1.toInt ≤ 99) ∧ (0 ≤ v2.toInt ∧ v2.toInt ≤ 99) ∧ (0 ≤ v3.toInt ∧ v3.toInt ≤ (g 5 - 1).toInt) ∧ (v3.toInt ≤ v4.toInt ∧ v4.toInt ≤ (g 5 - 1).toInt)) := by
  rcases nu_r (i := 38 + 5 * N + 0) (g := g) (k := 0) (jc := 2) (t := nI 2) (lo := 0) (hi := (g 0 - 1)) h (by rw [ls_2_0]) (by rw [ms_2_0, h0]) (by decide) b0 (by decide) with ⟨v0, q0, y0, E0, r0, P0, l0, a0, m0, n0, w0⟩ | ⟨o, E0, B⟩
  rotate_left
  · refine FO.bad B (by rw [itJ_2]) ?_
    rw [crS_u]
    try dsimp only
    exact (in_bad (tdS_bad (tdS_bad (tdS_bad (tdS_bad E0 B.1) B.1) B.1) B.1))
  have hl0 : ∀ l, l ≠ 4 → l ≠ 5 → y0 l = c l := fun l a b => l0 l a b
  have z0_0 : y0 4 0 = v0 := by rw [a0, pk_us]
  rcases td_r (jr := 21) (f0 := 7) (t0 := 13) (i := 38 + 5 * N + 1) (g := (upd g (38 + 5 * N + 0) v0)) (k := 1) (jc := 2) (t := nI 2) (lo := 1) (hi := 99) P0 sw_2_7 (by decide) (by rw [ls_2_1]) (by rw [ms_2_1]) (by decide) (by decide) (by decide) with ⟨v1, q1, y1, E1, r1, P1, l1, a1, m1, n1, w1⟩ | ⟨o, E1, B⟩
  rotate_left
  · refine FO.bad B (by rw [itJ_2, r0]) ?_
    rw [crS_u]
    try dsimp only
    rw [E0]
    try dsimp only
    exact (in_bad (tdS_bad (tdS_bad (tdS_bad E1 B.1) B.1) B.1))
  have hl1 : ∀ l, l ≠ 4 → l ≠ 5 → y1 l = c l := fun l a b => (l1 l a b).trans (hl0 l a b)
  have z1_0 : y1 4 0 = v0 := by rw [a1, pk_un (by decide)]; exact z0_0
  have z1_1 : y1 4 1 = v1 := by rw [a1, pk_us]
  rcases td_r (jr := 22) (f0 := 16) (t0 := 22) (i := 38 + 5 * N + 2) (g := (upd (upd g (38 + 5 * N + 0) v0) (38 + 5 * N + 1) v1)) (k := 2) (jc := 2) (t := nI 2) (lo := 0) (hi := 99) P1 sw_2_16 (by decide) (by rw [ls_2_2]) (by rw [ms_2_2]) (by decide) (by decide) (by decide) with ⟨v2, q2, y2, E2, r2, P2, l2, a2, m2, n2, w2⟩ | ⟨o, E2, B⟩
  rotate_left
  · refine FO.bad B (by rw [itJ_2, r0, r1]) ?_
    rw [crS_u]
    try dsimp only
    rw [E0]
    try dsimp only
    rw [E1]
    try dsimp only
    exact (in_bad (tdS_bad (tdS_bad E2 B.1) B.1))
  have hl2 : ∀ l, l ≠ 4 → l ≠ 5 → y2 l = c l := fun l a b => (l2 l a b).trans (hl1 l a b)
  have z2_0 : y2 4 0 = v0 := by rw [a2, pk_un (by decide)]; exact z1_0
  have z2_1 : y2 4 1 = v1 := by rw [a2, pk_un (by decide)]; exact z1_1
  have z2_2 : y2 4 2 = v2 := by rw [a2, pk_us]
  rcases td_r (jr := 23) (f0 := 25) (t0 := 29) (i := 38 + 5 * N + 3) (g := (upd (upd (upd g (38 + 5 * N + 0) v0) (38 + 5 * N + 1) v1) (38 + 5 * N + 2) v2)) (k := 3) (jc := 2) (t := nI 2) (lo := 0) (hi := (g 5 - 1)) P2 sw_2_25 (by decide) (by rw [ls_2_3]) (by rw [ms_2_3, hl2 16 (by decide) (by decide), h5]) (by decide) b5 (by decide) with ⟨v3, q3, y3, E3, r3, P3, l3, a3, m3, n3, w3⟩ | ⟨o, E3, B⟩
  rotate_left
  · refine FO.bad B (by rw [itJ_2, r0, r1, r2]) ?_
    rw [crS_u]
    try dsimp only
    rw [E0]
    try dsimp only
    rw [E1]
    try dsimp only
    rw [E2]
    try dsimp only
    rw [pk_un (by omega), pk_un (by omega), pk_un (by omega)]
    exact (in_bad (tdS_bad E3 B.1))
  have hl3 : ∀ l, l ≠ 4 → l ≠ 5 → y3 l = c l := fun l a b => (l3 l a b).trans (hl2 l a b)
  have z3_0 : y3 4 0 = v0 := by rw [a3, pk_un (by decide)]; exact z2_0
  have z3_1 : y3 4 1 = v1 := by rw [a3, pk_un (by decide)]; exact z2_1
  have z3_2 : y3 4 2 = v2 := by rw [a3, pk_un (by decide)]; exact z2_2
  have z3_3 : y3 4 3 = v3 := by rw [a3, pk_us]
  have t3 : v3.toInt ≤ 99999 := by omega
  rcases td_r (jr := 24) (f0 := 32) (t0 := 34) (i := 38 + 5 * N + 4) (g := (upd (upd (upd (upd g (38 + 5 * N + 0) v0) (38 + 5 * N + 1) v1) (38 + 5 * N + 2) v2) (38 + 5 * N + 3) v3)) (k := 4) (jc := 2) (t := nI 2) (lo := v3) (hi := (g 5 - 1)) P3 sw_2_32 (by decide) (by rw [ls_2_4, z3_3]) (by rw [ms_2_4, hl3 16 (by decide) (by decide), h5]) (by omega) b5 (by decide) with ⟨v4, q4, y4, E4, r4, P4, l4, a4, m4, n4, w4⟩ | ⟨o, E4, B⟩
  rotate_left
  · refine FO.bad B (by rw [itJ_2, r0, r1, r2, r3]) ?_
    rw [crS_u]
    try dsimp only
    rw [E0]
    try dsimp only
    rw [E1]
    try dsimp only
    rw [E2]
    try dsimp only
    rw [pk_un (by omega), pk_un (by omega), pk_un (by omega)]
    rw [E3]
    try dsimp only
    rw [pk_us, pk_un (by omega), pk_un (by omega), pk_un (by omega), pk_un (by omega)]
    exact (in_bad E4)
  have hl4 : ∀ l, l ≠ 4 → l ≠ 5 → y4 l = c l := fun l a b => (l4 l a b).trans (hl3 l a b)
  have z4_0 : y4 4 0 = v0 := by rw [a4, pk_un (by decide)]; exact z3_0
  have z4_1 : y4 4 1 = v1 := by rw [a4, pk_un (by decide)]; exact z3_1
  have z4_2 : y4 4 2 = v2 := by rw [a4, pk_un (by decide)]; exact z3_2
  have z4_3 : y4 4 3 = v3 := by rw [a4, pk_un (by decide)]; exact z3_3
  have z4_4 : y4 4 4 = v4 := by rw [a4, pk_us]
  refine FO.mk (q := q4) (y := y4) (g := upd (upd (upd (upd (upd (upd g (38 + 5 * N + 0) v0) (38 + 5 * N + 1) v1) (38 + 5 * N + 2) v2) (38 + 5 * N + 3) v3) (38 + 5 * N + 4) v4) 1 ((upd (upd (upd (upd (upd g (38 + 5 * N + 0) v0) (38 + 5 * N + 1) v1) (38 + 5 * N + 2) v2) (38 + 5 * N + 3) v3) (38 + 5 * N + 4) v4) 1 + 1)) ?_ (by rw [itJ_2, r0, r1, r2, r3, r4, rlL]) P4 (by omega) hl4 ⟨v0, v1, v2, v3, v4, rfl, ⟨z4_0, z4_1, z4_2, z4_3, z4_4⟩, ⟨m0, n0⟩, ⟨m1, n1⟩, ⟨m2, n2⟩, ⟨m3, n3⟩, ⟨m4, n4⟩⟩
  rw [crS_u]
  try dsimp only
  rw [E0]
  try dsimp only
  rw [E1]
  try dsimp only
  rw [E2]
  try dsimp only
  rw [pk_un (by omega), pk_un (by omega), pk_un (by omega)]
  rw [E3]
  try dsimp only
  rw [pk_us, pk_un (by omega), pk_un (by omega), pk_un (by omega), pk_un (by omega)]
  rw [E4]
  try dsimp only
  all_goals rfl
theorem nuV_o {f : Nat → Int32} {L p q : Nat} {hi v : Int32} (E : nuO f L 0 hi p = (0, q)) (W : nuW f L p = v) : thn (0, p) (nuO f L 0 hi) = (0, q) ∧ nuV f L hi (0, p) = v := by
  have e : thn (0, p) (nuO f L 0 hi) = (0, q) := (if_pos rfl).trans E
  exact ⟨e, by rw [nuV, e, if_pos rfl]; exact W⟩
theorem nuV_b2 {f : Nat → Int32} {L p : Nat} {hi : Int32} {o : Int32 × Nat} (E : nuO f L 0 hi p = o) : thn (0, p) (nuO f L 0 hi) = o := (if_pos rfl).trans E
theorem fo_3 {L p : Nat} {f g : Nat → Int32} {c : CT} (h : CP L f p c) (h5 : c 16 6 = g 5) (b5 : (g 5 - 1).toInt < 99999) : FO L f p (rlL L (nI 3) 3 (itJ 3) 0 c) c (suS f L ((0, p), g)) (fun y g9 => ∃ v0 v1, g9 = (upd g (78 + tcl v0) v1) ∧ (y 4 0 = v0 ∧ y 4 1 = v1) ∧ (0 ≤ v0.toInt ∧ v0.toInt ≤ (g 5 - 1).toInt) ∧ (0 ≤ v1.toInt ∧ v1.toInt ≤ 99)) := by
  rcases nu_o (k := 0) (jc := 3) (t := nI 3) (lo := 0) (hi := (g 5 - 1)) h (by rw [ls_3_0]) (by rw [ms_3_0, h5]) (by decide) b5 (by decide) with ⟨v0, q0, y0, E0, W0, r0, P0, l0, a0, m0, n0, w0⟩ | ⟨o, E0, B⟩
  rotate_left
  · refine FO.bad B (by rw [itJ_3]) ?_
    rw [suS]
    try dsimp only
    exact tdS_bad (nuV_b2 E0) B.1
  have hl0 : ∀ l, l ≠ 4 → l ≠ 5 → y0 l = c l := fun l a b => l0 l a b
  have z0_0 : y0 4 0 = v0 := by rw [a0, pk_us]
  rcases td_r (jr := 25) (f0 := 6) (t0 := 8) (i := 78 + tcl v0) (g := g) (k := 1) (jc := 3) (t := nI 3) (lo := 0) (hi := 99) P0 sw_3_6 (by decide) (by rw [ls_3_1]) (by rw [ms_3_1]) (by decide) (by decide) (by decide) with ⟨v1, q1, y1, E1, r1, P1, l1, a1, m1, n1, w1⟩ | ⟨o, E1, B⟩
  rotate_left
  · refine FO.bad B (by rw [itJ_3, r0]) ?_
    rw [suS]
    try dsimp only
    rw [(nuV_o E0 W0).1, (nuV_o E0 W0).2]
    exact E1
  have hl1 : ∀ l, l ≠ 4 → l ≠ 5 → y1 l = c l := fun l a b => (l1 l a b).trans (hl0 l a b)
  have z1_0 : y1 4 0 = v0 := by rw [a1, pk_un (by decide)]; exact z0_0
  have z1_1 : y1 4 1 = v1 := by rw [a1, pk_us]
  refine FO.mk (q := q1) (y := y1) (g := (upd g (78 + tcl v0) v1)) ?_ (by rw [itJ_3, r0, r1, rlL]) P1 (by omega) hl1 ⟨v0, v1, rfl, ⟨z1_0, z1_1⟩, ⟨m0, n0⟩, ⟨m1, n1⟩⟩
  rw [suS]
  try dsimp only
  rw [(nuV_o E0 W0).1, (nuV_o E0 W0).2]
  rw [E1]
  try dsimp only
  all_goals rfl
theorem fo_4 {L p N : Nat} {f g : Nat → Int32} {c : CT} (h : CP L f p c) (h5 : c 16 6 = g 5) (b5 : (g 5 - 1).toInt < 99999) : FO L f p (rlL L (nI 4) 4 (itJ 4) 0 c) c (flS f L N ((0, p), g)) (fun y g9 => ∃ v0 v1 v2, g9 = upd (upd (upd (upd (upd g (108 + 3 * N + 0) v0) (108 + 3 * N + 1) v1) (108 + 3 * N + 2) v2) (157 + N) (-1)) 2 (upd (upd (upd (upd g (108 + 3 * N + 0) v0) (108 + 3 * N + 1) v1) (108 + 3 * N + 2) v2) (157 + N) (-1) 2 + 1) ∧ (y 4 0 = v0 ∧ y 4 1 = v1 ∧ y 4 2 = v2) ∧ (0 ≤ v0.toInt ∧ v0.toInt ≤ (g 5 - 1).toInt) ∧ (0 ≤ v1.toInt ∧ v1.toInt ≤ 9999) ∧ (0 ≤ v2.toInt ∧ v2.toInt ≤ 100)) := by
  rcases nu_r (i := 108 + 3 * N + 0) (g := g) (k := 0) (jc := 4) (t := nI 4) (lo := 0) (hi := (g 5 - 1)) h (by rw [ls_4_0]) (by rw [ms_4_0, h5]) (by decide) b5 (by decide) with ⟨v0, q0, y0, E0, r0, P0, l0, a0, m0, n0, w0⟩ | ⟨o, E0, B⟩
  rotate_left
  · refine FO.bad B (by rw [itJ_4]) ?_
    rw [flS]
    try dsimp only
    exact (in_bad (st_bad (tdS_bad (tdS_bad E0 B.1) B.1)))
  have hl0 : ∀ l, l ≠ 4 → l ≠ 5 → y0 l = c l := fun l a b => l0 l a b
  have z0_0 : y0 4 0 = v0 := by rw [a0, pk_us]
  rcases td_r (jr := 22) (f0 := 8) (t0 := 14) (i := 108 + 3 * N + 1) (g := (upd g (108 + 3 * N + 0) v0)) (k := 1) (jc := 4) (t := nI 4) (lo := 0) (hi := 9999) P0 sw_4_8 (by decide) (by rw [ls_4_1]) (by rw [ms_4_1]) (by decide) (by decide) (by decide) with ⟨v1, q1, y1, E1, r1, P1, l1, a1, m1, n1, w1⟩ | ⟨o, E1, B⟩
  rotate_left
  · refine FO.bad B (by rw [itJ_4, r0]) ?_
    rw [flS]
    try dsimp only
    rw [E0]
    try dsimp only
    exact (in_bad (st_bad (tdS_bad E1 B.1)))
  have hl1 : ∀ l, l ≠ 4 → l ≠ 5 → y1 l = c l := fun l a b => (l1 l a b).trans (hl0 l a b)
  have z1_0 : y1 4 0 = v0 := by rw [a1, pk_un (by decide)]; exact z0_0
  have z1_1 : y1 4 1 = v1 := by rw [a1, pk_us]
  rcases td_r (jr := 26) (f0 := 17) (t0 := 21) (i := 108 + 3 * N + 2) (g := (upd (upd g (108 + 3 * N + 0) v0) (108 + 3 * N + 1) v1)) (k := 2) (jc := 4) (t := nI 4) (lo := 0) (hi := 100) P1 sw_4_17 (by decide) (by rw [ls_4_2]) (by rw [ms_4_2]) (by decide) (by decide) (by decide) with ⟨v2, q2, y2, E2, r2, P2, l2, a2, m2, n2, w2⟩ | ⟨o, E2, B⟩
  rotate_left
  · refine FO.bad B (by rw [itJ_4, r0, r1]) ?_
    rw [flS]
    try dsimp only
    rw [E0]
    try dsimp only
    rw [E1]
    try dsimp only
    exact (in_bad (st_bad E2))
  have hl2 : ∀ l, l ≠ 4 → l ≠ 5 → y2 l = c l := fun l a b => (l2 l a b).trans (hl1 l a b)
  have z2_0 : y2 4 0 = v0 := by rw [a2, pk_un (by decide)]; exact z1_0
  have z2_1 : y2 4 1 = v1 := by rw [a2, pk_un (by decide)]; exact z1_1
  have z2_2 : y2 4 2 = v2 := by rw [a2, pk_us]
  refine FO.mk (q := q2) (y := y2) (g := upd (upd (upd (upd (upd g (108 + 3 * N + 0) v0) (108 + 3 * N + 1) v1) (108 + 3 * N + 2) v2) (157 + N) (-1)) 2 (upd (upd (upd (upd g (108 + 3 * N + 0) v0) (108 + 3 * N + 1) v1) (108 + 3 * N + 2) v2) (157 + N) (-1) 2 + 1)) ?_ (by rw [itJ_4, r0, r1, r2, rlL]) P2 (by omega) hl2 ⟨v0, v1, v2, rfl, ⟨z2_0, z2_1, z2_2⟩, ⟨m0, n0⟩, ⟨m1, n1⟩, ⟨m2, n2⟩⟩
  rw [flS]
  try dsimp only
  rw [E0]
  try dsimp only
  rw [E1]
  try dsimp only
  rw [E2]
  try dsimp only
  all_goals rfl
theorem fo_6 {L p : Nat} {f g : Nat → Int32} {c : CT} (h : CP L f p c) (h0 : c 17 2 = g 0) (b0 : (g 0 - 1).toInt < 99999) : FO L f p (rlL L (nI 6) 6 (itJ 6) 0 c) c (caS f L ((0, p), g)) (fun y g9 => ∃ v0 v1, g9 = (upd g (8 + 5 * tcl v0 + 4) v1) ∧ (y 4 0 = v0 ∧ y 4 1 = v1) ∧ (0 ≤ v0.toInt ∧ v0.toInt ≤ (g 0 - 1).toInt) ∧ (0 ≤ v1.toInt ∧ v1.toInt ≤ 9999)) := by
  rcases nu_o (k := 0) (jc := 6) (t := nI 6) (lo := 0) (hi := (g 0 - 1)) h (by rw [ls_6_0]) (by rw [ms_6_0, h0]) (by decide) b0 (by decide) with ⟨v0, q0, y0, E0, W0, r0, P0, l0, a0, m0, n0, w0⟩ | ⟨o, E0, B⟩
  rotate_left
  · refine FO.bad B (by rw [itJ_6]) ?_
    rw [caS]
    try dsimp only
    exact tdS_bad (nuV_b2 E0) B.1
  have hl0 : ∀ l, l ≠ 4 → l ≠ 5 → y0 l = c l := fun l a b => l0 l a b
  have z0_0 : y0 4 0 = v0 := by rw [a0, pk_us]
  rcases td_r (jr := 30) (f0 := 8) (t0 := 13) (i := 8 + 5 * tcl v0 + 4) (g := g) (k := 1) (jc := 6) (t := nI 6) (lo := 0) (hi := 9999) P0 sw_6_8 (by decide) (by rw [ls_6_1]) (by rw [ms_6_1]) (by decide) (by decide) (by decide) with ⟨v1, q1, y1, E1, r1, P1, l1, a1, m1, n1, w1⟩ | ⟨o, E1, B⟩
  rotate_left
  · refine FO.bad B (by rw [itJ_6, r0]) ?_
    rw [caS]
    try dsimp only
    rw [(nuV_o E0 W0).1, (nuV_o E0 W0).2]
    exact E1
  have hl1 : ∀ l, l ≠ 4 → l ≠ 5 → y1 l = c l := fun l a b => (l1 l a b).trans (hl0 l a b)
  have z1_0 : y1 4 0 = v0 := by rw [a1, pk_un (by decide)]; exact z0_0
  have z1_1 : y1 4 1 = v1 := by rw [a1, pk_us]
  refine FO.mk (q := q1) (y := y1) (g := (upd g (8 + 5 * tcl v0 + 4) v1)) ?_ (by rw [itJ_6, r0, r1, rlL]) P1 (by omega) hl1 ⟨v0, v1, rfl, ⟨z1_0, z1_1⟩, ⟨m0, n0⟩, ⟨m1, n1⟩⟩
  rw [caS]
  try dsimp only
  rw [(nuV_o E0 W0).1, (nuV_o E0 W0).2]
  rw [E1]
  try dsimp only
  all_goals rfl
theorem nuS_o {f g : Nat → Int32} {L q q2 i : Nat} {lo hi v : Int32} (E : nuO f L lo hi q = (0, q2)) (W : nuW f L q = v) : nuS f L lo hi i ((0, q), g) = ((0, q2), upd g i v) := by
  have e : thn (0, q) (nuO f L lo hi) = (0, q2) := (if_pos rfl).trans E
  show (thn (0, q) (nuO f L lo hi), upd g i (if (thn (0, q) (nuO f L lo hi)).1 = 0 then nuW f L q else 0)) = _
  rw [e, if_pos rfl, W]
theorem nuS_ob {f g : Nat → Int32} {L q i : Nat} {lo hi : Int32} {o : Int32 × Nat} (E : nuO f L lo hi q = o) : (nuS f L lo hi i ((0, q), g)).1 = o := (if_pos rfl : thn (0, q) (nuO f L lo hi) = _).trans E
theorem loP_bad {f : Nat → Int32} {L : Nat} {s : RS} {o : Int32 × Nat} (E : loO f L s = o) (ho : ¬ o.1 = 0) : loP f L s = o := by rw [loP, E, if_neg (fun w => ho w.1)]
theorem loP_2 {f : Nat → Int32} {L q : Nat} {s : RS} (E : loO f L s = (0, q)) (W : tkK f (tkS f L q) = 2 ∧ nuW f L q = loV f L s) : loP f L s = (2, tkS f L q) := by rw [loP, E, if_pos ⟨rfl, W.1, W.2⟩]
theorem loP_0 {f : Nat → Int32} {L q : Nat} {s : RS} (E : loO f L s = (0, q)) (W : ¬ (tkK f (tkS f L q) = 2 ∧ nuW f L q = loV f L s)) : loP f L s = (0, q) := by rw [loP, E, if_neg (fun w => W ⟨w.2.1, w.2.2⟩)]
theorem loS_u {f : Nat → Int32} {L N : Nat} {s s3 s5 s6 : RS} (e3 : (loP f L s, upd s.2 (117 + 5 * N + 0) (loV f L s)) = s3) (e5 : tdS f L 27 1 9999 (117 + 5 * N + 2) (nuS f L 0 (s3.2 0 - 1) (117 + 5 * N + 1) s3) = s5) (e6 : tdS f L 28 0 (s5.2 5 - 1) (117 + 5 * N + 3) s5 = s6) : loS f L N s = inS 3 (tdS f L 29 (s6.2 (117 + 5 * N + 3) + 1) (s6.2 5 - 1) (117 + 5 * N + 4) s6) := by subst e3; subst e5; subst e6; rfl
theorem lo_bad {f : Nat → Int32} {L N : Nat} {s : RS} {o : Int32 × Nat} (E : loP f L s = o) (ho : ¬ o.1 = 0) : (loS f L N s).1 = o := by
  rw [loS_u rfl rfl rfl]
  exact in_bad (tdS_bad (tdS_bad (tdS_bad (nuS_bad E ho) ho) ho) ho)
theorem fo_5 {L p N : Nat} {f g : Nat → Int32} {c : CT} (h : CP L f p c) (h0 : c 17 2 = g 0) (b0 : (g 0 - 1).toInt < 99999) (h5 : c 16 6 = g 5) (b5 : (g 5 - 1).toInt < 99999) : FO L f p (rlL L (nI 5) 5 (itJ 5) 0 c) c (loS f L N ((0, p), g)) (fun y g9 => ∃ v0 v1 v2 v3 v4, g9 = (upd (upd (upd (upd (upd (upd g (117 + 5 * N + 0) v0) (117 + 5 * N + 1) v1) (117 + 5 * N + 2) v2) (117 + 5 * N + 3) v3) (117 + 5 * N + 4) v4) 3 ((upd (upd (upd (upd (upd g (117 + 5 * N + 0) v0) (117 + 5 * N + 1) v1) (117 + 5 * N + 2) v2) (117 + 5 * N + 3) v3) (117 + 5 * N + 4) v4) 3 + 1)) ∧ (y 4 0 = v0 ∧ y 4 1 = v1 ∧ y 4 2 = v2 ∧ y 4 3 = v3 ∧ y 4 4 = v4) ∧ v1 ≠ v0 ∧ (0 ≤ v0.toInt ∧ v0.toInt ≤ (g 0 - 1).toInt) ∧ (0 ≤ v1.toInt ∧ v1.toInt ≤ (g 0 - 1).toInt) ∧ (1 ≤ v2.toInt ∧ v2.toInt ≤ 9999) ∧ (0 ≤ v3.toInt ∧ v3.toInt ≤ (g 5 - 1).toInt) ∧ (v3.toInt + 1 ≤ v4.toInt ∧ v4.toInt ≤ (g 5 - 1).toInt)) := by
  rcases nu_o (k := 0) (jc := 5) (t := nI 5) (lo := 0) (hi := (g 0 - 1)) h (by rw [ls_5_0]) (by rw [ms_5_0, h0]) (by decide) b0 (by decide) with ⟨v0, q0, y0, E0, W0, r0, P0, l0, a0, m0, n0, w0⟩ | ⟨o, E0, B⟩
  rotate_left
  · have eo : loO f L ((0, p), g) = o := by
      show thn (thn (0, p) (nuO f L 0 (g 0 - 1))) (wdO f L 24) = o
      rw [nuV_b2 E0]; exact thn_bad B.1
    exact FO.bad B (by rw [itJ_5]) (lo_bad (loP_bad eo B.1) B.1)
  have eV : loV f L ((0, p), g) = v0 := (nuV_o E0 W0).2
  have hl0 : ∀ l, l ≠ 4 → l ≠ 5 → y0 l = c l := l0
  have z0_0 : y0 4 0 = v0 := by rw [a0, pk_us]
  have eO : loO f L ((0, p), g) = wdO f L 24 q0 := by
    show thn (thn (0, p) (nuO f L 0 (g 0 - 1))) (wdO f L 24) = _
    rw [(nuV_o E0 W0).1]; exact if_pos rfl
  rcases wd_o (t := nI 5) (k := 1) (xs := [none, some (12, 14), none, some (17, 19), none, some (22, 26), none]) P0 sw_5_7 (by decide) with ⟨q1, y1, E1, r1, P1, l1, w1⟩ | ⟨o, E1, B⟩
  rotate_left
  · exact FO.bad B (by rw [itJ_5, r0]) (lo_bad (loP_bad (eO.trans E1) B.1) B.1)
  have eO1 := eO.trans E1
  have hl1 : ∀ l, l ≠ 4 → l ≠ 5 → y1 l = c l := fun l a b => (l1 l b).trans (hl0 l a b)
  have z1_0 : y1 4 0 = v0 := by rw [l1 4 (by decide)]; exact z0_0
  rcases lo_r (xs := [some (12, 14), none, some (17, 19), none, some (22, 26), none]) (hi := g 0 - 1) P1 (by rw [ms_5_1, hl1 17 (by decide) (by decide), h0]) b0 z1_0 ⟨m0, n0⟩ with ⟨W, B⟩ | ⟨W, ⟨v1, q2, y2, E2, W2, ne, r2, P2, l2, a2, m2, n2, w2⟩ | ⟨o, E2, B⟩⟩
  · exact FO.bad B (by rw [itJ_5, r0, r1]) (lo_bad (loP_2 eO1 (by rw [eV]; exact W)) B.1)
  rotate_left
  · refine FO.bad B (by rw [itJ_5, r0, r1]) ?_
    have eP := loP_0 eO1 (by rw [eV]; exact W)
    rw [loS_u rfl rfl rfl, eP]
    refine in_bad (tdS_bad (tdS_bad (tdS_bad ?_ B.1) B.1) B.1)
    try dsimp only
    rw [pk_un (by omega)]
    exact nuS_ob E2
  have eP := loP_0 eO1 (by rw [eV]; exact W)
  have hl2 : ∀ l, l ≠ 4 → l ≠ 5 → y2 l = c l := fun l a b => (l2 l a b).trans (hl1 l a b)
  have z2_0 : y2 4 0 = v0 := by rw [a2, pk_un (by decide)]; exact z1_0
  have z2_1 : y2 4 1 = v1 := by rw [a2, pk_us]
  rcases td_r (jr := 27) (f0 := 12) (t0 := 14) (i := 117 + 5 * N + 2) (g := upd (upd g (117 + 5 * N + 0) v0) (117 + 5 * N + 1) v1) (k := 2) (jc := 5) (t := nI 5) (lo := 1) (hi := 9999) P2 sw_5_12 (by decide) (by rw [ls_5_2]) (by rw [ms_5_2]) (by decide) (by decide) (by decide) with ⟨v2, q3, y3, E3, r3, P3, l3, a3, m3, n3, w3⟩ | ⟨o, E3, B⟩
  rotate_left
  · refine FO.bad B (by rw [itJ_5, r0, r1, r2]) ?_
    rw [loS_u rfl rfl rfl, eP, eV]
    refine in_bad (tdS_bad (tdS_bad ?_ B.1) B.1)
    try dsimp only
    rw [pk_un (by omega), nuS_o E2 W2]
    exact E3
  have e5 : tdS f L 27 1 9999 (117 + 5 * N + 2) (nuS f L 0 (((loP f L ((0, p), g), upd g (117 + 5 * N + 0) (loV f L ((0, p), g))) : RS).2 0 - 1) (117 + 5 * N + 1) (loP f L ((0, p), g), upd g (117 + 5 * N + 0) (loV f L ((0, p), g)))) = ((0, q3), upd (upd (upd g (117 + 5 * N + 0) v0) (117 + 5 * N + 1) v1) (117 + 5 * N + 2) v2) := by
    rw [eP, eV]
    try dsimp only
    rw [pk_un (by omega), nuS_o E2 W2]
    exact E3
  have hl3 : ∀ l, l ≠ 4 → l ≠ 5 → y3 l = c l := fun l a b => (l3 l a b).trans (hl2 l a b)
  have z3_0 : y3 4 0 = v0 := by rw [a3, pk_un (by decide)]; exact z2_0
  have z3_1 : y3 4 1 = v1 := by rw [a3, pk_un (by decide)]; exact z2_1
  have z3_2 : y3 4 2 = v2 := by rw [a3, pk_us]
  rcases td_r (jr := 28) (f0 := 17) (t0 := 19) (i := 117 + 5 * N + 3) (g := upd (upd (upd g (117 + 5 * N + 0) v0) (117 + 5 * N + 1) v1) (117 + 5 * N + 2) v2) (k := 3) (jc := 5) (t := nI 5) (lo := 0) (hi := g 5 - 1) P3 sw_5_17 (by decide) (by rw [ls_5_3]) (by rw [ms_5_3, hl3 16 (by decide) (by decide), h5]) (by decide) b5 (by decide) with ⟨v3, q4, y4, E4, r4, P4, l4, a4, m4, n4, w4⟩ | ⟨o, E4, B⟩
  rotate_left
  · refine FO.bad B (by rw [itJ_5, r0, r1, r2, r3]) ?_
    rw [loS_u rfl e5 rfl]
    refine in_bad (tdS_bad ?_ B.1)
    try dsimp only
    rw [pk_un (by omega), pk_un (by omega), pk_un (by omega)]
    exact E4
  have e6 : tdS f L 28 0 ((((0, q3), upd (upd (upd g (117 + 5 * N + 0) v0) (117 + 5 * N + 1) v1) (117 + 5 * N + 2) v2) : RS).2 5 - 1) (117 + 5 * N + 3) ((0, q3), upd (upd (upd g (117 + 5 * N + 0) v0) (117 + 5 * N + 1) v1) (117 + 5 * N + 2) v2) = ((0, q4), upd (upd (upd (upd g (117 + 5 * N + 0) v0) (117 + 5 * N + 1) v1) (117 + 5 * N + 2) v2) (117 + 5 * N + 3) v3) := by
    try dsimp only
    rw [pk_un (by omega), pk_un (by omega), pk_un (by omega)]
    exact E4
  have hl4 : ∀ l, l ≠ 4 → l ≠ 5 → y4 l = c l := fun l a b => (l4 l a b).trans (hl3 l a b)
  have z4_0 : y4 4 0 = v0 := by rw [a4, pk_un (by decide)]; exact z3_0
  have z4_1 : y4 4 1 = v1 := by rw [a4, pk_un (by decide)]; exact z3_1
  have z4_2 : y4 4 2 = v2 := by rw [a4, pk_un (by decide)]; exact z3_2
  have z4_3 : y4 4 3 = v3 := by rw [a4, pk_us]
  have t3 := i_p1 m4 (by omega)
  rcases td_r (jr := 29) (f0 := 22) (t0 := 26) (i := 117 + 5 * N + 4) (g := upd (upd (upd (upd g (117 + 5 * N + 0) v0) (117 + 5 * N + 1) v1) (117 + 5 * N + 2) v2) (117 + 5 * N + 3) v3) (k := 4) (jc := 5) (t := nI 5) (lo := v3 + 1) (hi := g 5 - 1) P4 sw_5_22 (by decide) (by rw [ls_5_4, z4_3]) (by rw [ms_5_4, hl4 16 (by decide) (by decide), h5]) (by rw [t3]; omega) b5 (by decide) with ⟨v4, q5, y5, E5, r5, P5, l5, a5, m5, n5, w5⟩ | ⟨o, E5, B⟩
  rotate_left
  · refine FO.bad B (by rw [itJ_5, r0, r1, r2, r3, r4]) ?_
    rw [loS_u rfl e5 e6]
    refine in_bad ?_
    try dsimp only
    rw [pk_us, pk_un (by omega), pk_un (by omega), pk_un (by omega), pk_un (by omega)]
    exact E5
  have z5_0 : y5 4 0 = v0 := by rw [a5, pk_un (by decide)]; exact z4_0
  have z5_1 : y5 4 1 = v1 := by rw [a5, pk_un (by decide)]; exact z4_1
  have z5_2 : y5 4 2 = v2 := by rw [a5, pk_un (by decide)]; exact z4_2
  have z5_3 : y5 4 3 = v3 := by rw [a5, pk_un (by decide)]; exact z4_3
  have z5_4 : y5 4 4 = v4 := by rw [a5, pk_us]
  refine FO.mk (q := q5) (y := y5) (g := upd (upd (upd (upd (upd (upd g (117 + 5 * N + 0) v0) (117 + 5 * N + 1) v1) (117 + 5 * N + 2) v2) (117 + 5 * N + 3) v3) (117 + 5 * N + 4) v4) 3 ((upd (upd (upd (upd (upd g (117 + 5 * N + 0) v0) (117 + 5 * N + 1) v1) (117 + 5 * N + 2) v2) (117 + 5 * N + 3) v3) (117 + 5 * N + 4) v4) 3 + 1)) ?_ (by rw [itJ_5, r0, r1, r2, r3, r4, r5, rlL]) P5 (by omega) (fun l a b => (l5 l a b).trans (hl4 l a b)) ⟨v0, v1, v2, v3, v4, rfl, ⟨z5_0, z5_1, z5_2, z5_3, z5_4⟩, ne, ⟨m0, n0⟩, ⟨m2, n2⟩, ⟨m3, n3⟩, ⟨m4, n4⟩, ⟨by rw [← t3]; exact m5, n5⟩⟩
  rw [loS_u rfl e5 e6]
  try dsimp only
  rw [pk_us, pk_un (by omega), pk_un (by omega), pk_un (by omega), pk_un (by omega), E5]
  rfl