/-! THE REFERENCE: numbers as they are read, who is in bounds -/
theorem ixA {x y : Int32} {a b : Nat} (hx : x = nI a) (hy : y = nI b) : x + y = nI (a + b) := by subst hx; subst hy; exact nI_add a b
theorem ixU {x y : Int32} {a b : Nat} (hx : x = nI a) (hy : y = nI b) : x * y = nI (a * b) := by subst hx; subst hy; exact pk_mul a b
theorem A_ialdK {X : XC} {G : GX} {own : String} {cc : ByteArray} {ini : Bool} {ret : Option FieldType} {Qp : Option Value → AH → Prop} {d mc ms : Nat} {h : AH} {uc us pc : Nat} {lv : List (Option Value)} {st : List Value} {a n : Nat} {i : Nat} {x : Int32} {f : Nat → Int32} (hd : decode cc pc = .ok (.iaload, 1)) (ha : h.1 a = some (aI n f)) (hx : x = nI i) (hin : i < n) (hlen : n < 2147483648) (kk : WA X G own cc ini ret Qp d mc ms h uc us (pc + 1) lv (.int (f i) :: st)) : WA X G own cc ini ret Qp d mc ms h uc us pc lv (.int x :: .ref a :: st) := by
  subst hx
  exact A_ialdN hd ha hin hlen kk
theorem A_baldK {X : XC} {G : GX} {own : String} {cc : ByteArray} {ini : Bool} {ret : Option FieldType} {Qp : Option Value → AH → Prop} {d mc ms : Nat} {h : AH} {uc us pc : Nat} {lv : List (Option Value)} {st : List Value} {a n : Nat} {i : Nat} {x : Int32} {f : Nat → Int32} (hd : decode cc pc = .ok (.baload, 1)) (ha : h.1 a = some (aB n f)) (hx : x = nI i) (hin : i < n) (hlen : n < 2147483648) (kk : WA X G own cc ini ret Qp d mc ms h uc us (pc + 1) lv (.int (f i) :: st)) : WA X G own cc ini ret Qp d mc ms h uc us pc lv (.int x :: .ref a :: st) := by
  subst hx
  exact A_baldN hd ha hin hlen kk
theorem A_zaldK {X : XC} {G : GX} {own : String} {cc : ByteArray} {ini : Bool} {ret : Option FieldType} {Qp : Option Value → AH → Prop} {d mc ms : Nat} {h : AH} {uc us pc : Nat} {lv : List (Option Value)} {st : List Value} {a n : Nat} {i : Nat} {x : Int32} {f : Nat → Int32} (hd : decode cc pc = .ok (.baload, 1)) (ha : h.1 a = some (aZ n f)) (hx : x = nI i) (hin : i < n) (hlen : n < 2147483648) (kk : WA X G own cc ini ret Qp d mc ms h uc us (pc + 1) lv (.int (f i) :: st)) : WA X G own cc ini ret Qp d mc ms h uc us pc lv (.int x :: .ref a :: st) := by
  subst hx
  exact A_zaldN hd ha hin hlen kk
theorem A_laldK {X : XC} {G : GX} {own : String} {cc : ByteArray} {ini : Bool} {ret : Option FieldType} {Qp : Option Value → AH → Prop} {d mc ms : Nat} {h : AH} {uc us pc : Nat} {lv : List (Option Value)} {st : List Value} {a n : Nat} {i : Nat} {x : Int32} {f : Nat → Int64} (hd : decode cc pc = .ok (.laload, 1)) (ha : h.1 a = some (aJ n f)) (hx : x = nI i) (hin : i < n) (hlen : n < 2147483648) (kk : WA X G own cc ini ret Qp d mc ms h uc us (pc + 1) lv (.long (f i) :: st)) : WA X G own cc ini ret Qp d mc ms h uc us pc lv (.int x :: .ref a :: st) := by
  subst hx
  exact A_laldN hd ha hin hlen kk
theorem A_iastMK {X : XC} {G : GX} {own : String} {cc : ByteArray} {ini : Bool} {ret : Option FieldType} {Qp : Option Value → AH → Prop} {d mc ms : Nat} {uc us pc : Nat} {lv : List (Option Value)} {st : List Value} {b : Nat} {ci : Nat → Nat → Int32} {co : Nat → Nat → Int64} {r : Nat → Option AE} {n : Nat} {k len i : Nat} {x y : Int32} (hd : decode cc pc = .ok (.iastore, 1)) (hk : k < 21) (hm : ∀ f, mkM b k f (co k) = aI len f) (hx : y = nI i) (hin : i < len) (hlen : len < 2147483648) (kk : WA X G own cc ini ret Qp d mc ms (HM b (put ci k i x) co r n) uc us (pc + 1) lv st) : WA X G own cc ini ret Qp d mc ms (HM b ci co r n) uc us pc lv (.int x :: .int y :: .ref (b + k) :: st) := by
  subst hx
  exact A_iastMN hd hk hm hin hlen kk
theorem A_bastMK {X : XC} {G : GX} {own : String} {cc : ByteArray} {ini : Bool} {ret : Option FieldType} {Qp : Option Value → AH → Prop} {d mc ms : Nat} {uc us pc : Nat} {lv : List (Option Value)} {st : List Value} {b : Nat} {ci : Nat → Nat → Int32} {co : Nat → Nat → Int64} {r : Nat → Option AE} {n : Nat} {k len i : Nat} {x y : Int32} (hd : decode cc pc = .ok (.bastore, 1)) (hk : k < 21) (hm : ∀ f, mkM b k f (co k) = aB len f) (hx : y = nI i) (hin : i < len) (hlen : len < 2147483648) (kk : WA X G own cc ini ret Qp d mc ms (HM b (put ci k i (vp_nar .byte x)) co r n) uc us (pc + 1) lv st) : WA X G own cc ini ret Qp d mc ms (HM b ci co r n) uc us pc lv (.int x :: .int y :: .ref (b + k) :: st) := by
  subst hx
  exact A_bastMN hd hk hm hin hlen kk
theorem A_zastMK {X : XC} {G : GX} {own : String} {cc : ByteArray} {ini : Bool} {ret : Option FieldType} {Qp : Option Value → AH → Prop} {d mc ms : Nat} {uc us pc : Nat} {lv : List (Option Value)} {st : List Value} {b : Nat} {ci : Nat → Nat → Int32} {co : Nat → Nat → Int64} {r : Nat → Option AE} {n : Nat} {k len i : Nat} {x y : Int32} (hd : decode cc pc = .ok (.bastore, 1)) (hk : k < 21) (hm : ∀ f, mkM b k f (co k) = aZ len f) (hx : y = nI i) (hin : i < len) (hlen : len < 2147483648) (kk : WA X G own cc ini ret Qp d mc ms (HM b (put ci k i (vp_nar .boolean x)) co r n) uc us (pc + 1) lv st) : WA X G own cc ini ret Qp d mc ms (HM b ci co r n) uc us pc lv (.int x :: .int y :: .ref (b + k) :: st) := by
  subst hx
  exact A_zastMN hd hk hm hin hlen kk
theorem A_lastMK {X : XC} {G : GX} {own : String} {cc : ByteArray} {ini : Bool} {ret : Option FieldType} {Qp : Option Value → AH → Prop} {d mc ms : Nat} {uc us pc : Nat} {lv : List (Option Value)} {st : List Value} {b : Nat} {ci : Nat → Nat → Int32} {co : Nat → Nat → Int64} {r : Nat → Option AE} {n : Nat} {k len i : Nat} {y : Int32} {x : Int64} (hd : decode cc pc = .ok (.lastore, 1)) (hk : k < 21) (hm : ∀ g, mkM b k (ci k) g = aJ len g) (hx : y = nI i) (hin : i < len) (hlen : len < 2147483648) (kk : WA X G own cc ini ret Qp d mc ms (HM b ci (put co k i x) r n) uc us (pc + 1) lv st) : WA X G own cc ini ret Qp d mc ms (HM b ci co r n) uc us pc lv (.long x :: .int y :: .ref (b + k) :: st) := by
  subst hx
  refine A_lastM hd hk hm (vp_in_nI hin hlen) ?_
  rw [nI_clamp (Nat.lt_trans hin hlen)]
  exact kk
theorem nI_m1_toInt {k : Nat} (hk : k < 2 ^ 31) : (nI k - nI 1).toInt = (k : Int) - 1 := by
  rcases Nat.eq_zero_or_pos k with h | h
  · subst h; decide
  · rw [pk_sub h, nI_toInt (by omega)]; omega
/-- in bounds, as a long is asked -/
def inL (v lo hi : Int64) : Int32 := if v < lo ∨ hi < v then 0 else 1
theorem i64_lt {x y : Int32} : x.toInt64 < y.toInt64 ↔ x < y := by rw [Int64.lt_iff_toInt_lt, Int32.toInt_toInt64, Int32.toInt_toInt64, Int32.lt_iff_toInt_lt]
theorem inL_b {x : Int32} {k : Nat} (hk : k < 2 ^ 31) : inL x.toInt64 0 (nI k - 1).toInt64 = inI x (nI k) := by
  have e0 : (x.toInt64 < 0) ↔ x < 0 := i64_lt (y := 0)
  have e : ((nI k - 1).toInt64 < x.toInt64) ↔ nI k ≤ x := by
    rw [i64_lt, Int32.lt_iff_toInt_lt, Int32.le_iff_toInt_le, nI_toInt hk, show (1 : Int32) = nI 1 from rfl, nI_m1_toInt hk]
    omega
  simp only [inL, inI, e, e0]
theorem inL_c {x : Int32} {h : Int64} {k : Nat} (hh : h = (nI k).toInt64) (hk : k + 1 < 2 ^ 31) : inL x.toInt64 0 h = inI x (nI (k + 1)) := by
  subst hh
  have e := inL_b (x := x) (k := k + 1) hk
  rw [nI_pred] at e
  exact e
theorem inI_eq1 {x y : Int32} (h : ¬ inI x y = 0) : inI x y = 1 := by
  unfold inI at *
  split
  · next z => rw [if_pos z] at h; exact absurd rfl h
  · rfl
theorem inI_01 (x y : Int32) : inI x y = 0 ∨ inI x y = 1 := by
  unfold inI; split
  · exact Or.inl rfl
  · exact Or.inr rfl
theorem k_in (G : GX) {h : AH} {v lo hi : Int64} : MA G 0 yX10_in cX10_in 6 (some .boolean) 0 0 [.long v, .long lo, .long hi] h (qI fun x h1 => x = inL v lo hi ∧ h1 = h) := by
  refine MA.of (own := RX10) false [some (.long v), none, some (.long lo), none, some (.long hi), none] (by decide +kernel) rfl (fun h => by cases h) (Nat.le_of_ble_eq_true rfl) rfl (fun X => ?_)
  refine A_lload_n dX10_in_0 rfl rfl ?_
  refine A_lload_n dX10_in_1 rfl rfl ?_
  refine A_lcmp dX10_in_2 ?_
  refine A_if_lt 17 dX10_in_3 (by decide) (fun c3 => ?_) (fun c3 => ?_)
  · refine A_iconst (v := 0) dX10_in_17 (by decide) ?_
    exact A_zret dX10_in_18 rfl ⟨(if_pos (by first | exact Or.inl ((lg_cmp_lt _ _).mp (by assumption)) | exact Or.inr ((lg_cmp_gt _ _).mp (by assumption)))).symm, rfl⟩ ⟨by decide, by decide⟩
  · refine A_lload_n dX10_in_6 rfl rfl ?_
    refine A_lload dX10_in_7 rfl ?_
    refine A_lcmp dX10_in_9 ?_
    refine A_if_gt 17 dX10_in_10 (by decide) (fun c10 => ?_) (fun c10 => ?_)
    · refine A_iconst (v := 0) dX10_in_17 (by decide) ?_
      exact A_zret dX10_in_18 rfl ⟨(if_pos (by first | exact Or.inl ((lg_cmp_lt _ _).mp (by assumption)) | exact Or.inr ((lg_cmp_gt _ _).mp (by assumption)))).symm, rfl⟩ ⟨by decide, by decide⟩
    · refine A_iconst (v := 1) dX10_in_13 (by decide) ?_
      refine A_goto 18 dX10_in_14 (by decide) ?_
      exact A_zret dX10_in_18 rfl ⟨(if_neg (fun z => z.elim (fun q => c3 ((lg_cmp_lt _ _).mpr q)) (fun q => c10 ((lg_cmp_gt _ _).mpr q)))).symm, rfl⟩ ⟨by decide, by decide⟩

/-- what of the reference's world is read as places -/
def IM (m : CT) (nv nc nf nl wk : Nat) : Prop := m 1 0 = nI nv ∧ nv ≤ 6 ∧ m 1 1 = nI nc ∧ nc ≤ 8 ∧ m 1 2 = nI nf ∧ nf ≤ 3 ∧ m 1 3 = nI nl ∧ nl ≤ 8 ∧ m 1 5 = nI wk ∧ wk ≤ 30 ∧ (∀ i, i < nc → vp_in (m 1 (38 + 5 * i + 0)) nv) ∧ (∀ i, i < nl → vp_in (m 1 (117 + 5 * i + 0)) nv ∧ vp_in (m 1 (117 + 5 * i + 1)) nv)
def TM (m : CT) (nv nf : Nat) : Prop := ∀ i, i < nf → m 1 (157 + i) ≠ -1 → vp_in (m 1 (157 + i)) nv
theorem IM.to {m m' : CT} {nv nc nf nl wk : Nat} (h : IM m nv nc nf nl wk) (e : m' 1 = m 1) : IM m' nv nc nf nl wk := by
  unfold IM at *
  rw [e]
  exact h
theorem TM.to {m m' : CT} {nv nf : Nat} (h : TM m nv nf) (e : m' 1 = m 1) : TM m' nv nf := by
  unfold TM at *
  rw [e]
  exact h
theorem k_isPlain (G : GX) {b : Nat} {m : CT} {ml : Nat → Nat → Int64} {r : Nat → Option AE} {n : Nat} : MA G 0 yX10_isPlain cX10_isPlain 1 (some .boolean) 0 0 [.ref b] (HM b m ml r n) (qI fun x9 h1 => x9 = (if 0 < m 1 5 then 1 else 0) ∧ h1 = HM b m ml r n) := by
  refine MA.of (own := RX10) false [some (.ref b)] (by decide +kernel) rfl (fun h => by cases h) (Nat.le_of_ble_eq_true rfl) rfl (fun X => ?_)
  refine A_aload_n dX10_isPlain_0 rfl rfl ?_
  refine A_get dX10_isPlain_1 f_X10_9 HM_at0 rfl ?_
  refine A_iconst (v := 5) dX10_isPlain_4 (by decide) ?_
  refine A_ialdK (i := 5) dX10_isPlain_5 (HM_at (by decide)) rfl (by omega) (by decide) ?_
  refine A_if_le 13 dX10_isPlain_6 (by decide) (fun c6 => ?_) (fun c6 => ?_)
  · refine A_iconst (v := 0) dX10_isPlain_13 (by decide) ?_
    exact A_zret dX10_isPlain_14 rfl ⟨(if_neg (Int32.not_lt.mpr c6)).symm, rfl⟩ ⟨by decide, by decide⟩
  · refine A_iconst (v := 1) dX10_isPlain_9 (by decide) ?_
    refine A_goto 14 dX10_isPlain_10 (by decide) ?_
    exact A_zret dX10_isPlain_14 rfl ⟨(if_pos (Int32.not_le.mp c6)).symm, rfl⟩ ⟨by decide, by decide⟩

theorem k_villages (G : GX) {b : Nat} {m : CT} {ml : Nat → Nat → Int64} {r : Nat → Option AE} {n : Nat} : MA G 0 yX10_villages cX10_villages 1 (some .int) 0 0 [.ref b] (HM b m ml r n) (qI fun x9 h1 => x9 = m 1 0 ∧ h1 = HM b m ml r n) := by
  refine MA.of (own := RX10) false [some (.ref b)] (by decide +kernel) rfl (fun h => by cases h) (Nat.le_of_ble_eq_true rfl) rfl (fun X => ?_)
  refine A_aload_n dX10_villages_0 rfl rfl ?_
  refine A_get dX10_villages_1 f_X10_9 HM_at0 rfl ?_
  refine A_iconst (v := 0) dX10_villages_4 (by decide) ?_
  refine A_ialdK (i := 0) dX10_villages_5 (HM_at (by decide)) rfl (by omega) (by decide) ?_
  exact A_iret dX10_villages_6 ⟨rfl, rfl⟩ ⟨by decide, by decide⟩

theorem k_isVillage (G : GX) {b : Nat} {m : CT} {ml : Nat → Nat → Int64} {r : Nat → Option AE} {n : Nat} {v : Int32} {N : Nat} (hk : m 1 0 = nI N) (hN : N < 2 ^ 31) : MA G 1 yX10_isVillage cX10_isVillage 2 (some .boolean) 0 0 [.ref b, .int v] (HM b m ml r n) (qI fun x9 h1 => x9 = inI v (nI N) ∧ h1 = HM b m ml r n) := by
  refine MA.of (own := RX10) false [some (.ref b), some (.int v)] (by decide +kernel) rfl (fun h => by cases h) (Nat.le_of_ble_eq_true rfl) rfl (fun X => ?_)
  refine A_iload_n dX10_isVillage_0 rfl rfl ?_
  refine A_i2l dX10_isVillage_1 ?_
  refine A_lconst (v := 0) dX10_isVillage_2 (by decide) ?_
  refine A_aload_n dX10_isVillage_3 rfl rfl ?_
  refine A_callVi dX10_isVillage_4 m_X10_89 cb_X10_villages (As := []) rfl HM_at0 rfl (k_villages G) rfl ⟨by decide, by decide⟩ (Nat.le_of_ble_eq_true rfl) ⟨by decide, by decide⟩ (fun x4 h4 hq => ?_)
  obtain ⟨rfl, rfl⟩ := hq
  refine A_iconst (v := 1) dX10_isVillage_7 (by decide) ?_
  refine A_isub dX10_isVillage_8 ?_
  refine A_i2l dX10_isVillage_9 ?_
  refine A_callSi dX10_isVillage_10 m_X10_85 cb_X10_in (As := [_, _, _]) rfl (k_in G) rfl ⟨by decide, by decide⟩ (Nat.le_of_ble_eq_true rfl) ⟨by decide, by decide⟩ (fun x10 h10 hq => ?_)
  obtain ⟨rfl, rfl⟩ := hq
  exact A_zret dX10_isVillage_13 (by unfold inL; split <;> rfl) ⟨by rw [hk]; exact inL_b hN, rfl⟩ ⟨by decide, by decide⟩

theorem k_isWeek (G : GX) {b : Nat} {m : CT} {ml : Nat → Nat → Int64} {r : Nat → Option AE} {n : Nat} {v : Int32} {N : Nat} (hk : m 1 5 = nI N) (hN : N < 2 ^ 31) : MA G 1 yX10_isWeek cX10_isWeek 2 (some .boolean) 0 0 [.ref b, .int v] (HM b m ml r n) (qI fun x9 h1 => x9 = inI v (nI N) ∧ h1 = HM b m ml r n) := by
  refine MA.of (own := RX10) false [some (.ref b), some (.int v)] (by decide +kernel) rfl (fun h => by cases h) (Nat.le_of_ble_eq_true rfl) rfl (fun X => ?_)
  refine A_iload_n dX10_isWeek_0 rfl rfl ?_
  refine A_i2l dX10_isWeek_1 ?_
  refine A_lconst (v := 0) dX10_isWeek_2 (by decide) ?_
  refine A_aload_n dX10_isWeek_3 rfl rfl ?_
  refine A_get dX10_isWeek_4 f_X10_9 HM_at0 rfl ?_
  refine A_iconst (v := 5) dX10_isWeek_7 (by decide) ?_
  refine A_ialdK (i := 5) dX10_isWeek_8 (HM_at (by decide)) rfl (by omega) (by decide) ?_
  refine A_iconst (v := 1) dX10_isWeek_9 (by decide) ?_
  refine A_isub dX10_isWeek_10 ?_
  refine A_i2l dX10_isWeek_11 ?_
  refine A_callSi dX10_isWeek_12 m_X10_85 cb_X10_in (As := [_, _, _]) rfl (k_in G) rfl ⟨by decide, by decide⟩ (Nat.le_of_ble_eq_true rfl) ⟨by decide, by decide⟩ (fun x12 h12 hq => ?_)
  obtain ⟨rfl, rfl⟩ := hq
  exact A_zret dX10_isWeek_15 (by unfold inL; split <;> rfl) ⟨by rw [hk]; exact inL_b hN, rfl⟩ ⟨by decide, by decide⟩

theorem k_isFlood (G : GX) {b : Nat} {m : CT} {ml : Nat → Nat → Int64} {r : Nat → Option AE} {n : Nat} {v : Int32} {N : Nat} (hk : m 1 2 = nI N) (hN : N < 2 ^ 31) : MA G 1 yX10_isFlood cX10_isFlood 2 (some .boolean) 0 0 [.ref b, .int v] (HM b m ml r n) (qI fun x9 h1 => x9 = inI v (nI N) ∧ h1 = HM b m ml r n) := by
  refine MA.of (own := RX10) false [some (.ref b), some (.int v)] (by decide +kernel) rfl (fun h => by cases h) (Nat.le_of_ble_eq_true rfl) rfl (fun X => ?_)
  refine A_iload_n dX10_isFlood_0 rfl rfl ?_
  refine A_i2l dX10_isFlood_1 ?_
  refine A_lconst (v := 0) dX10_isFlood_2 (by decide) ?_
  refine A_aload_n dX10_isFlood_3 rfl rfl ?_
  refine A_get dX10_isFlood_4 f_X10_9 HM_at0 rfl ?_
  refine A_iconst (v := 2) dX10_isFlood_7 (by decide) ?_
  refine A_ialdK (i := 2) dX10_isFlood_8 (HM_at (by decide)) rfl (by omega) (by decide) ?_
  refine A_iconst (v := 1) dX10_isFlood_9 (by decide) ?_
  refine A_isub dX10_isFlood_10 ?_
  refine A_i2l dX10_isFlood_11 ?_
  refine A_callSi dX10_isFlood_12 m_X10_85 cb_X10_in (As := [_, _, _]) rfl (k_in G) rfl ⟨by decide, by decide⟩ (Nat.le_of_ble_eq_true rfl) ⟨by decide, by decide⟩ (fun x12 h12 hq => ?_)
  obtain ⟨rfl, rfl⟩ := hq
  exact A_zret dX10_isFlood_15 (by unfold inL; split <;> rfl) ⟨by rw [hk]; exact inL_b hN, rfl⟩ ⟨by decide, by decide⟩

def pairM (N : Nat) (v t : Int32) : Int32 := if inI v (nI N) = 0 ∨ inI t (nI N) = 0 ∨ v = t then 0 else 1
theorem k_areTwo (G : GX) {b : Nat} {m : CT} {ml : Nat → Nat → Int64} {r : Nat → Option AE} {n : Nat} {v t : Int32} {N : Nat} (hk : m 1 0 = nI N) (hN : N < 2 ^ 31) : MA G 2 yX10_areTwo cX10_areTwo 3 (some .boolean) 0 0 [.ref b, .int v, .int t] (HM b m ml r n) (qI fun x9 h1 => x9 = pairM N v t ∧ h1 = HM b m ml r n) := by
  refine MA.of (own := RX10) false [some (.ref b), some (.int v), some (.int t)] (by decide +kernel) rfl (fun h => by cases h) (Nat.le_of_ble_eq_true rfl) rfl (fun X => ?_)
  refine A_aload_n dX10_areTwo_0 rfl rfl ?_
  refine A_iload_n dX10_areTwo_1 rfl rfl ?_
  refine A_callVi dX10_areTwo_2 m_X10_93 cb_X10_isVillage (As := [_]) rfl HM_at0 rfl (k_isVillage G hk hN) rfl ⟨by decide, by decide⟩ (Nat.le_of_ble_eq_true rfl) ⟨by decide, by decide⟩ (fun x2 h2 hq => ?_)
  obtain ⟨rfl, rfl⟩ := hq
  refine A_if_eq 25 dX10_areTwo_5 (by decide) (fun c5 => ?_) (fun c5 => ?_)
  · refine A_iconst (v := 0) dX10_areTwo_25 (by decide) ?_
    exact A_zret dX10_areTwo_26 rfl ⟨(if_pos (by first | exact Or.inl (by assumption) | exact Or.inr (Or.inl (by assumption)) | exact Or.inr (Or.inr (by assumption)))).symm, rfl⟩ ⟨by decide, by decide⟩
  · refine A_aload_n dX10_areTwo_8 rfl rfl ?_
    refine A_iload_n dX10_areTwo_9 rfl rfl ?_
    refine A_callVi dX10_areTwo_10 m_X10_93 cb_X10_isVillage (As := [_]) rfl HM_at0 rfl (k_isVillage G hk hN) rfl ⟨by decide, by decide⟩ (Nat.le_of_ble_eq_true rfl) ⟨by decide, by decide⟩ (fun x10 h10 hq => ?_)
    obtain ⟨rfl, rfl⟩ := hq
    refine A_if_eq 25 dX10_areTwo_13 (by decide) (fun c13 => ?_) (fun c13 => ?_)
    · refine A_iconst (v := 0) dX10_areTwo_25 (by decide) ?_
      exact A_zret dX10_areTwo_26 rfl ⟨(if_pos (by first | exact Or.inl (by assumption) | exact Or.inr (Or.inl (by assumption)) | exact Or.inr (Or.inr (by assumption)))).symm, rfl⟩ ⟨by decide, by decide⟩
    · refine A_iload_n dX10_areTwo_16 rfl rfl ?_
      refine A_iload_n dX10_areTwo_17 rfl rfl ?_
      refine A_icmp_eq 25 dX10_areTwo_18 (by decide) (fun c18 => ?_) (fun c18 => ?_)
      · refine A_iconst (v := 0) dX10_areTwo_25 (by decide) ?_
        exact A_zret dX10_areTwo_26 rfl ⟨(if_pos (by first | exact Or.inl (by assumption) | exact Or.inr (Or.inl (by assumption)) | exact Or.inr (Or.inr (by assumption)))).symm, rfl⟩ ⟨by decide, by decide⟩
      · refine A_iconst (v := 1) dX10_areTwo_21 (by decide) ?_
        refine A_goto 26 dX10_areTwo_22 (by decide) ?_
        exact A_zret dX10_areTwo_26 rfl ⟨(if_neg (fun z => z.elim c5 (fun z => z.elim c13 c18))).symm, rfl⟩ ⟨by decide, by decide⟩

theorem k_of (G : GX) {b : Nat} {m : CT} {ml : Nat → Nat → Int64} {r : Nat → Option AE} {n : Nat} {i : Nat} (k : Nat) (hi : i < 6) (hk : k < 5) : MA G 0 yX10_of cX10_of 3 (some .int) 0 0 [.ref b, .int (nI i), .int (nI k)] (HM b m ml r n) (qI fun x9 h1 => x9 = m 1 (8 + 5 * i + k) ∧ h1 = HM b m ml r n) := by
  refine MA.of (own := RX10) false [some (.ref b), some (.int (nI i)), some (.int (nI k))] (by decide +kernel) rfl (fun h => by cases h) (Nat.le_of_ble_eq_true rfl) rfl (fun X => ?_)
  refine A_aload_n dX10_of_0 rfl rfl ?_
  refine A_get dX10_of_1 f_X10_9 HM_at0 rfl ?_
  refine A_bipush (v := 8) dX10_of_4 (by decide) ?_
  refine A_iconst (v := 5) dX10_of_6 (by decide) ?_
  refine A_iload_n dX10_of_7 rfl rfl ?_
  refine A_imul dX10_of_8 ?_
  refine A_iadd dX10_of_9 ?_
  refine A_iload_n dX10_of_10 rfl rfl ?_
  refine A_iadd dX10_of_11 ?_
  refine A_ialdK (i := ((8 + (5 * i)) + k)) dX10_of_12 (HM_at (by decide)) (ixA (ixA rfl (ixU rfl rfl)) rfl) (by omega) (by decide) ?_
  exact A_iret dX10_of_13 ⟨rfl, rfl⟩ ⟨by decide, by decide⟩

theorem k_ofCrop (G : GX) {b : Nat} {m : CT} {ml : Nat → Nat → Int64} {r : Nat → Option AE} {n : Nat} {i : Nat} (k : Nat) (hi : i < 8) (hk : k < 5) : MA G 0 yX10_ofCrop cX10_ofCrop 3 (some .int) 0 0 [.ref b, .int (nI i), .int (nI k)] (HM b m ml r n) (qI fun x9 h1 => x9 = m 1 (38 + 5 * i + k) ∧ h1 = HM b m ml r n) := by
  refine MA.of (own := RX10) false [some (.ref b), some (.int (nI i)), some (.int (nI k))] (by decide +kernel) rfl (fun h => by cases h) (Nat.le_of_ble_eq_true rfl) rfl (fun X => ?_)
  refine A_aload_n dX10_ofCrop_0 rfl rfl ?_
  refine A_get dX10_ofCrop_1 f_X10_9 HM_at0 rfl ?_
  refine A_bipush (v := 38) dX10_ofCrop_4 (by decide) ?_
  refine A_iconst (v := 5) dX10_ofCrop_6 (by decide) ?_
  refine A_iload_n dX10_ofCrop_7 rfl rfl ?_
  refine A_imul dX10_ofCrop_8 ?_
  refine A_iadd dX10_ofCrop_9 ?_
  refine A_iload_n dX10_ofCrop_10 rfl rfl ?_
  refine A_iadd dX10_ofCrop_11 ?_
  refine A_ialdK (i := ((38 + (5 * i)) + k)) dX10_ofCrop_12 (HM_at (by decide)) (ixA (ixA rfl (ixU rfl rfl)) rfl) (by omega) (by decide) ?_
  exact A_iret dX10_ofCrop_13 ⟨rfl, rfl⟩ ⟨by decide, by decide⟩

theorem k_ofFlood (G : GX) {b : Nat} {m : CT} {ml : Nat → Nat → Int64} {r : Nat → Option AE} {n : Nat} {i : Nat} (k : Nat) (hi : i < 3) (hk : k < 3) : MA G 0 yX10_ofFlood cX10_ofFlood 3 (some .int) 0 0 [.ref b, .int (nI i), .int (nI k)] (HM b m ml r n) (qI fun x9 h1 => x9 = m 1 (108 + 3 * i + k) ∧ h1 = HM b m ml r n) := by
  refine MA.of (own := RX10) false [some (.ref b), some (.int (nI i)), some (.int (nI k))] (by decide +kernel) rfl (fun h => by cases h) (Nat.le_of_ble_eq_true rfl) rfl (fun X => ?_)
  refine A_aload_n dX10_ofFlood_0 rfl rfl ?_
  refine A_get dX10_ofFlood_1 f_X10_9 HM_at0 rfl ?_
  refine A_bipush (v := 108) dX10_ofFlood_4 (by decide) ?_
  refine A_iconst (v := 3) dX10_ofFlood_6 (by decide) ?_
  refine A_iload_n dX10_ofFlood_7 rfl rfl ?_
  refine A_imul dX10_ofFlood_8 ?_
  refine A_iadd dX10_ofFlood_9 ?_
  refine A_iload_n dX10_ofFlood_10 rfl rfl ?_
  refine A_iadd dX10_ofFlood_11 ?_
  refine A_ialdK (i := ((108 + (3 * i)) + k)) dX10_ofFlood_12 (HM_at (by decide)) (ixA (ixA rfl (ixU rfl rfl)) rfl) (by omega) (by decide) ?_
  exact A_iret dX10_ofFlood_13 ⟨rfl, rfl⟩ ⟨by decide, by decide⟩

theorem k_ofLoan (G : GX) {b : Nat} {m : CT} {ml : Nat → Nat → Int64} {r : Nat → Option AE} {n : Nat} {i : Nat} (k : Nat) (hi : i < 8) (hk : k < 5) : MA G 0 yX10_ofLoan cX10_ofLoan 3 (some .int) 0 0 [.ref b, .int (nI i), .int (nI k)] (HM b m ml r n) (qI fun x9 h1 => x9 = m 1 (117 + 5 * i + k) ∧ h1 = HM b m ml r n) := by
  refine MA.of (own := RX10) false [some (.ref b), some (.int (nI i)), some (.int (nI k))] (by decide +kernel) rfl (fun h => by cases h) (Nat.le_of_ble_eq_true rfl) rfl (fun X => ?_)
  refine A_aload_n dX10_ofLoan_0 rfl rfl ?_
  refine A_get dX10_ofLoan_1 f_X10_9 HM_at0 rfl ?_
  refine A_bipush (v := 117) dX10_ofLoan_4 (by decide) ?_
  refine A_iconst (v := 5) dX10_ofLoan_6 (by decide) ?_
  refine A_iload_n dX10_ofLoan_7 rfl rfl ?_
  refine A_imul dX10_ofLoan_8 ?_
  refine A_iadd dX10_ofLoan_9 ?_
  refine A_iload_n dX10_ofLoan_10 rfl rfl ?_
  refine A_iadd dX10_ofLoan_11 ?_
  refine A_ialdK (i := ((117 + (5 * i)) + k)) dX10_ofLoan_12 (HM_at (by decide)) (ixA (ixA rfl (ixU rfl rfl)) rfl) (by omega) (by decide) ?_
  exact A_iret dX10_ofLoan_13 ⟨rfl, rfl⟩ ⟨by decide, by decide⟩

theorem k_ofV (G : GX) {b : Nat} {m : CT} {ml : Nat → Nat → Int64} {r : Nat → Option AE} {n : Nat} {x : Int32} (k : Nat) (hx : vp_in x 6) (hk : k < 5) : MA G 0 yX10_of cX10_of 3 (some .int) 0 0 [.ref b, .int x, .int (nI k)] (HM b m ml r n) (qI fun y h1 => y = m 1 (8 + 5 * tcl x + k) ∧ h1 = HM b m ml r n) := by
  obtain ⟨j, hj, rfl⟩ := vp_in_of hx (by decide)
  rw [tcl_nI (by omega)]
  exact k_of G k hj hk
def roomM (m : CT) (v : Nat) : Int32 := m 1 (8 + 5 * v + 0) - m 7 v
def owedM (m : CT) (x : Int32) : Int32 := x + (x * m 1 6 + 99) / 100
def tnM (fl : Nat) (m : CT) (i : Nat) : Int32 := if fl.testBit i then m 1 (157 + i) else -1
def wrongM (w : Int32) (m : CT) : CT := if m 0 23 = -1 then put m 0 23 w else m
theorem k_room (G : GX) {b : Nat} {m : CT} {ml : Nat → Nat → Int64} {r : Nat → Option AE} {n : Nat} {x : Int32} (hx : vp_in x 6) : MA G 1 yX10_room cX10_room 2 (some .int) 0 0 [.ref b, .int x] (HM b m ml r n) (qI fun x9 h1 => x9 = roomM m (tcl x) ∧ h1 = HM b m ml r n) := by
  refine MA.of (own := RX10) false [some (.ref b), some (.int x)] (by decide +kernel) rfl (fun h => by cases h) (Nat.le_of_ble_eq_true rfl) rfl (fun X => ?_)
  refine A_aload_n dX10_room_0 rfl rfl ?_
  refine A_iload_n dX10_room_1 rfl rfl ?_
  refine A_iconst (v := 0) dX10_room_2 (by decide) ?_
  refine A_callVi dX10_room_3 m_X10_241 cb_X10_of (As := [_, _]) rfl HM_at0 rfl (k_ofV G 0 hx (by decide)) rfl ⟨by decide, by decide⟩ (Nat.le_of_ble_eq_true rfl) ⟨by decide, by decide⟩ (fun x3 h3 hq => ?_)
  obtain ⟨rfl, rfl⟩ := hq
  refine A_aload_n dX10_room_6 rfl rfl ?_
  refine A_get dX10_room_7 f_X10_34 HM_at0 rfl ?_
  refine A_iload_n dX10_room_10 rfl rfl ?_
  refine A_iald dX10_room_11 (HM_at (by decide)) hx ?_
  refine A_isub dX10_room_12 ?_
  exact A_iret dX10_room_13 ⟨rfl, rfl⟩ ⟨by decide, by decide⟩

theorem k_owed (G : GX) {b : Nat} {m : CT} {ml : Nat → Nat → Int64} {r : Nat → Option AE} {n : Nat} {x : Int32} : MA G 0 yX10_owed cX10_owed 2 (some .int) 0 0 [.ref b, .int x] (HM b m ml r n) (qI fun x9 h1 => x9 = owedM m x ∧ h1 = HM b m ml r n) := by
  refine MA.of (own := RX10) false [some (.ref b), some (.int x)] (by decide +kernel) rfl (fun h => by cases h) (Nat.le_of_ble_eq_true rfl) rfl (fun X => ?_)
  refine A_iload_n dX10_owed_0 rfl rfl ?_
  refine A_iload_n dX10_owed_1 rfl rfl ?_
  refine A_aload_n dX10_owed_2 rfl rfl ?_
  refine A_get dX10_owed_3 f_X10_9 HM_at0 rfl ?_
  refine A_bipush (v := 6) dX10_owed_6 (by decide) ?_
  refine A_ialdK (i := 6) dX10_owed_8 (HM_at (by decide)) rfl (by omega) (by decide) ?_
  refine A_imul dX10_owed_9 ?_
  refine A_bipush (v := 99) dX10_owed_10 (by decide) ?_
  refine A_iadd dX10_owed_12 ?_
  refine A_bipush (v := 100) dX10_owed_13 (by decide) ?_
  refine A_idiv dX10_owed_15 (by decide) ?_
  refine A_iadd dX10_owed_16 ?_
  exact A_iret dX10_owed_17 ⟨rfl, rfl⟩ ⟨by decide, by decide⟩

theorem k_takerNow (G : GX) {b : Nat} {m : CT} {ml : Nat → Nat → Int64} {r : Nat → Option AE} {n : Nat} {i fl : Nat} (hco : m 0 24 = nI fl) (hfl : fl < 8) (hi : i < 3) : MA G 0 yX10_takerNow cX10_takerNow 2 (some .int) 0 0 [.ref b, .int (nI i)] (HM b m ml r n) (qI fun x9 h1 => x9 = tnM fl m i ∧ h1 = HM b m ml r n) := by
  refine MA.of (own := RX10) false [some (.ref b), some (.int (nI i))] (by decide +kernel) rfl (fun h => by cases h) (Nat.le_of_ble_eq_true rfl) rfl (fun X => ?_)
  refine A_aload_n dX10_takerNow_0 rfl rfl ?_
  refine A_get dX10_takerNow_1 f_X10_243 HM_at0 rfl ?_
  refine A_iload_n dX10_takerNow_4 rfl rfl ?_
  refine A_ishr dX10_takerNow_5 ?_
  refine A_iconst (v := 1) dX10_takerNow_6 (by decide) ?_
  refine A_iand dX10_takerNow_7 ?_
  refine A_eqI (y := nI (if fl.testBit i then 1 else 0)) (by rw [hco]; exact sh_bit fl hfl i hi) ?_
  refine A_if_ne 15 dX10_takerNow_8 (by decide) (fun c8 => ?_) (fun c8 => ?_)
  · refine A_aload_n dX10_takerNow_15 rfl rfl ?_
    refine A_get dX10_takerNow_16 f_X10_9 HM_at0 rfl ?_
    refine A_sipush (v := 157) dX10_takerNow_19 (by decide) ?_
    refine A_iload_n dX10_takerNow_22 rfl rfl ?_
    refine A_iadd dX10_takerNow_23 ?_
    refine A_ialdK (i := (157 + i)) dX10_takerNow_24 (HM_at (by decide)) (ixA rfl rfl) (by omega) (by decide) ?_
    exact A_iret dX10_takerNow_25 ⟨by rw [tnM, if_pos (by by_cases hb : fl.testBit i = true; exact hb; rw [if_neg hb] at c8; exact absurd rfl c8)], rfl⟩ ⟨by decide, by decide⟩
  · refine A_iconst (v := (-1)) dX10_takerNow_11 (by decide) ?_
    refine A_goto 25 dX10_takerNow_12 (by decide) ?_
    exact A_iret dX10_takerNow_25 ⟨by rw [tnM, if_neg (fun hb => by rw [if_pos hb] at c8; exact absurd c8 (by decide))], rfl⟩ ⟨by decide, by decide⟩

theorem k_wrongIn (G : GX) {b : Nat} {m : CT} {ml : Nat → Nat → Int64} {r : Nat → Option AE} {n : Nat} {w : Int32} : MA G 0 yX10_wrongIn cX10_wrongIn 2 none 0 0 [.ref b, .int w] (HM b m ml r n) (qV fun h1 => h1 = HM b (wrongM w m) ml r n) := by
  refine MA.of (own := RX10) false [some (.ref b), some (.int w)] (by decide +kernel) rfl (fun h => by cases h) (Nat.le_of_ble_eq_true rfl) rfl (fun X => ?_)
  refine A_aload_n dX10_wrongIn_0 rfl rfl ?_
  refine A_aload_n dX10_wrongIn_1 rfl rfl ?_
  refine A_get dX10_wrongIn_2 f_X10_246 HM_at0 rfl ?_
  refine A_iconst (v := (-1)) dX10_wrongIn_5 (by decide) ?_
  refine A_icmp_ne 13 dX10_wrongIn_6 (by decide) (fun c6 => ?_) (fun c6 => ?_)
  · refine A_aload_n dX10_wrongIn_13 rfl rfl ?_
    refine A_get dX10_wrongIn_14 f_X10_246 HM_at0 rfl ?_
    refine A_putM0 dX10_wrongIn_17 p_X10_246 rfl (Nat.le_of_ble_eq_true rfl) rfl ?_
    exact A_vret dX10_wrongIn_20 (by rw [wrongM, if_neg c6]; exact congrArg (fun z => HM b z ml r n) (put_self m 0 23)) ⟨by decide, by decide⟩
  · refine A_iload_n dX10_wrongIn_9 rfl rfl ?_
    refine A_goto 17 dX10_wrongIn_10 (by decide) ?_
    refine A_putM0 dX10_wrongIn_17 p_X10_246 rfl (Nat.le_of_ble_eq_true rfl) rfl ?_
    exact A_vret dX10_wrongIn_20 (by rw [wrongM, if_pos c6]) ⟨by decide, by decide⟩
