/-! THE YEAR stays in bounds -/
theorem addT {x y : Int32} (h1 : -2147483648 ≤ x.toInt + y.toInt) (h2 : x.toInt + y.toInt ≤ 2147483647) : (x + y).toInt = x.toInt + y.toInt := by
  rw [Int32.toInt_add]; exact Int.bmod_eq_of_le (by omega) (by omega)
theorem subT {x y : Int32} (h1 : -2147483648 ≤ x.toInt - y.toInt) (h2 : x.toInt - y.toInt ≤ 2147483647) : (x - y).toInt = x.toInt - y.toInt := by
  rw [Int32.toInt_sub]; exact Int.bmod_eq_of_le (by omega) (by omega)
theorem mulT {x y : Int32} (h1 : -2147483648 ≤ x.toInt * y.toInt) (h2 : x.toInt * y.toInt ≤ 2147483647) : (x * y).toInt = x.toInt * y.toInt := by
  rw [Int32.toInt_mul]; exact Int.bmod_eq_of_le (by omega) (by omega)
theorem divT {x d : Int32} (h0 : 0 ≤ x.toInt) (hd : d ≠ -1) : (x / d).toInt = x.toInt / d.toInt := by
  rw [Int32.toInt_div_of_ne_right _ _ hd]; exact Int.tdiv_eq_ediv_of_nonneg h0
theorem mnT (x y : Int32) : (mn x y).toInt = min x.toInt y.toInt := by
  unfold mn
  have := Int32.lt_iff_toInt_lt (x := y) (y := x)
  split
  · next h => rw [this] at h; omega
  · next h => rw [this] at h; omega
theorem mn_le1 (x y : Int32) : (mn x y).toInt ≤ x.toInt := by rw [mnT]; omega
theorem mn_le2 (x y : Int32) : (mn x y).toInt ≤ y.toInt := by rw [mnT]; omega
theorem mn_ge {x y : Int32} {k : Int} (h1 : k ≤ x.toInt) (h2 : k ≤ y.toInt) : k ≤ (mn x y).toInt := by rw [mnT]; omega
theorem T0 : (0 : Int32).toInt = 0 := rfl
theorem eqT0 {x : Int32} : x = 0 ↔ x.toInt = 0 := by rw [← T0, Int32.toInt_inj]
/-- what the PLAIN tells is in bounds -/
def PRC (nv nc nf nl wk : Nat) (y : CT) : Prop :=
  (∀ v, v < nv → (0 ≤ (y 8 (5 * v + 0)).toInt ∧ (y 8 (5 * v + 0)).toInt ≤ 9999) ∧ (0 ≤ (y 8 (5 * v + 1)).toInt ∧ (y 8 (5 * v + 1)).toInt ≤ (y 8 (5 * v + 0)).toInt) ∧ (0 ≤ (y 8 (5 * v + 2)).toInt ∧ (y 8 (5 * v + 2)).toInt ≤ 99) ∧ (0 ≤ (y 8 (5 * v + 3)).toInt ∧ (y 8 (5 * v + 3)).toInt ≤ 99) ∧ (0 ≤ (y 8 (5 * v + 4)).toInt ∧ (y 8 (5 * v + 4)).toInt ≤ 9999)) ∧
  (∀ i, i < nc → (1 ≤ (y 10 (5 * i + 1)).toInt ∧ (y 10 (5 * i + 1)).toInt ≤ 99) ∧ (0 ≤ (y 10 (5 * i + 2)).toInt ∧ (y 10 (5 * i + 2)).toInt ≤ 99)) ∧
  (∀ i, i < nf → (0 ≤ (y 12 (4 * i + 1)).toInt ∧ (y 12 (4 * i + 1)).toInt ≤ 9999) ∧ (0 ≤ (y 12 (4 * i + 2)).toInt ∧ (y 12 (4 * i + 2)).toInt ≤ 100)) ∧
  (∀ i, i < nl → y 14 (5 * i + 0) ≠ y 14 (5 * i + 1) ∧ (1 ≤ (y 14 (5 * i + 2)).toInt ∧ (y 14 (5 * i + 2)).toInt ≤ 9999) ∧ (y 14 (5 * i + 3)).toInt < (y 14 (5 * i + 4)).toInt) ∧
  (∀ w, w < 30 → 0 ≤ (y 15 w).toInt ∧ (y 15 w).toInt ≤ 99)
theorem PRC.to {nv nc nf nl wk : Nat} {y y' : CT} (h : PRC nv nc nf nl wk y) (e : ∀ l, l ≤ 15 → y' l = y l) : PRC nv nc nf nl wk y' := by
  unfold PRC at *
  rw [e 8 (by decide), e 10 (by decide), e 12 (by decide), e 14 (by decide), e 15 (by decide)]
  exact h
theorem PRC.P {nv nc nf nl wk : Nat} {y y' : CT} (h : PRC nv nc nf nl wk y) (e : sameP y y') : PRC nv nc nf nl wk y' := h.to (fun l hl => e l (Or.inl (by omega)))
def YW (nv : Nat) (y : CT) : Prop := ∀ v, v < nv → 0 ≤ (y 30 v).toInt ∧ (y 30 v).toInt ≤ (y 8 (5 * v + 0)).toInt
def YF (nf : Nat) (y : CT) : Prop := ∀ i, i < nf → 0 ≤ (y 34 i).toInt ∧ (y 34 i).toInt ≤ (y 33 i).toInt ∧ (y 33 i).toInt ≤ 30000
def YL (nl : Nat) (y : CT) : Prop := ∀ i, i < nl → 0 ≤ (y 37 i).toInt ∧ (y 37 i).toInt ≤ (y 36 i).toInt ∧ (y 36 i).toInt ≤ 30000
/-- crops: those ahead of i have had this WEEK -/
def YC (nc w i : Nat) (y : CT) : Prop := ∀ j, j < nc → 0 ≤ (y 38 j).toInt ∧ (y 38 j).toInt ≤ 99 * (w + if j < i then 1 else 0 : Nat) ∧ 0 ≤ (y 39 j).toInt ∧ (y 39 j).toInt ≤ (w + if j < i then 1 else 0 : Nat) ∧ (y 39 j = 0 ↔ y 40 j = -1)
def YD (nv nc w i : Nat) (y : CT) : Prop := ∀ v, v < nv → 0 ≤ (y 41 v).toInt ∧ (y 41 v).toInt ≤ (8 * w + i : Nat) ∧ (y 41 v = 0 ↔ ∀ j, j < nc → tcl (y 10 (5 * j + 0)) = v → y 39 j = 0)
def FZ (nf w i : Nat) (y : CT) : Prop := ∀ j, j < nf → ((w : Int) < (y 12 (4 * j + 0)).toInt ∨ i ≤ j ∧ (w : Int) ≤ (y 12 (4 * j + 0)).toInt) → y 33 j = 0 ∧ y 34 j = 0
def LZ (nl w i : Nat) (y : CT) : Prop := ∀ j, j < nl → ((w : Int) < (y 14 (5 * j + 4)).toInt ∨ i ≤ j ∧ (w : Int) ≤ (y 14 (5 * j + 4)).toInt) → y 37 j = 0
def YZ (nv nc nf nl : Nat) (y : CT) : Prop := (∀ i, nf ≤ i → y 32 i = 0 ∧ y 33 i = 0 ∧ y 34 i = 0) ∧ (∀ i, nl ≤ i → y 35 i = 0 ∧ y 36 i = 0 ∧ y 37 i = 0) ∧ (∀ i, nc ≤ i → y 38 i = 0) ∧ (∀ v, nv ≤ v → y 30 v = 0)
theorem YW.to {nv : Nat} {y y' : CT} (h : YW nv y) (e : y' 30 = y 30) (e2 : y' 8 = y 8) : YW nv y' := by unfold YW at *; rw [e, e2]; exact h
theorem YF.to {nf : Nat} {y y' : CT} (h : YF nf y) (e : y' 33 = y 33) (e2 : y' 34 = y 34) : YF nf y' := by unfold YF at *; rw [e, e2]; exact h
theorem YL.to {nl : Nat} {y y' : CT} (h : YL nl y) (e : y' 36 = y 36) (e2 : y' 37 = y 37) : YL nl y' := by unfold YL at *; rw [e, e2]; exact h
theorem YC.to {nc w i : Nat} {y y' : CT} (h : YC nc w i y) (e : y' 38 = y 38) (e2 : y' 39 = y 39) (e3 : y' 40 = y 40) : YC nc w i y' := by unfold YC at *; rw [e, e2, e3]; exact h
theorem YD.to {nv nc w i : Nat} {y y' : CT} (h : YD nv nc w i y) (e : y' 41 = y 41) (e2 : y' 39 = y 39) (e3 : y' 10 = y 10) : YD nv nc w i y' := by unfold YD at *; rw [e, e2, e3]; exact h
theorem FZ.to {nf w i : Nat} {y y' : CT} (h : FZ nf w i y) (e : y' 33 = y 33) (e2 : y' 34 = y 34) (e3 : y' 12 = y 12) : FZ nf w i y' := by unfold FZ at *; rw [e, e2, e3]; exact h
theorem LZ.to {nl w i : Nat} {y y' : CT} (h : LZ nl w i y) (e : y' 37 = y 37) (e3 : y' 14 = y 14) : LZ nl w i y' := by unfold LZ at *; rw [e, e3]; exact h
theorem YZ.to {nv nc nf nl : Nat} {y y' : CT} (h : YZ nv nc nf nl y) (e : y' 30 = y 30) (e1 : y' 32 = y 32) (e2 : y' 33 = y 33) (e3 : y' 34 = y 34) (e4 : y' 35 = y 35) (e5 : y' 36 = y 36) (e6 : y' 37 = y 37) (e7 : y' 38 = y 38) : YZ nv nc nf nl y' := by unfold YZ at *; rw [e, e1, e2, e3, e4, e5, e6, e7]; exact h
theorem YW.pu {nv v : Nat} {y : CT} {x : Int32} (h : YW nv y) (h1 : 0 ≤ x.toInt) (h2 : v < nv → x.toInt ≤ (y 8 (5 * v + 0)).toInt) : YW nv (put y 30 v x) := by
  intro u hu
  rw [put_ne (show (8 : Nat) ≠ 30 by decide)]
  by_cases z : u = v
  · subst z; rw [put_at]; exact ⟨h1, h2 hu⟩
  · rw [put_no z]; exact h u hu
theorem YW.ot {nv k i : Nat} {y : CT} {x : Int32} (h : YW nv y) (hk : k ≠ 30 ∧ k ≠ 8) : YW nv (put y k i x) := h.to (put_ne (Ne.symm hk.1)) (put_ne (Ne.symm hk.2))
theorem room_b {nv nc nf nl wk v : Nat} {y : CT} (hP : PRC nv nc nf nl wk y) (hW : YW nv y) (hv : v < nv) : (roomF y v).toInt = (y 8 (5 * v + 0)).toInt - (y 30 v).toInt ∧ 0 ≤ (roomF y v).toInt ∧ (roomF y v).toInt ≤ 9999 := by
  have h1 := (hP.1 v hv).1
  have h2 := hW v hv
  have e : (roomF y v).toInt = (y 8 (5 * v + 0)).toInt - (y 30 v).toInt := subT (by omega) (by omega)
  omega
theorem more_b {y : CT} {x : Int32} (hp : 0 ≤ (y 28 2).toInt ∧ (y 28 2).toInt ≤ 100) (h0 : 0 ≤ x.toInt) (h1 : x.toInt ≤ 9999) : 0 ≤ (moreF y x).toInt ∧ (moreF y x).toInt ≤ 30000 := by
  unfold moreF
  have hm0 : 0 ≤ x.toInt * (y 28 2).toInt := Int.mul_nonneg h0 hp.1
  have hm1 : x.toInt * (y 28 2).toInt ≤ 9999 * 100 := Int.mul_le_mul h1 hp.2 hp.1 (by decide)
  have e1 : (x * y 28 2).toInt = x.toInt * (y 28 2).toInt := mulT (by omega) (by omega)
  have e100 : (100 : Int32).toInt = 100 := rfl
  have e1' : (1 : Int32).toInt = 1 := rfl
  have e2 : (x * y 28 2 + 100).toInt = x.toInt * (y 28 2).toInt + 100 := by rw [addT (by omega) (by omega), e1, e100]
  have e3 : (x * y 28 2 + 100 - 1).toInt = x.toInt * (y 28 2).toInt + 100 - 1 := by rw [subT (by omega) (by omega), e2, e1']
  have e4 : ((x * y 28 2 + 100 - 1) / 100).toInt = (x.toInt * (y 28 2).toInt + 100 - 1) / 100 := by rw [divT (by omega) (by decide), e3, e100]
  rw [addT (by omega) (by omega), e4]
  omega
theorem vp_toInt {x : Int32} {k : Nat} (h : vp_in x k) (hk : k < 2 ^ 31) : x.toInt = (tcl x : Nat) := by
  obtain ⟨j, hj, rfl⟩ := vp_in_of h hk
  rw [tcl_nI (by omega), nI_toInt (by omega)]
theorem tcl_ne {x y : Int32} {k : Nat} (h : vp_in x k) (h2 : vp_in y k) (hk : k < 2 ^ 31) (hne : x ≠ y) : tcl x ≠ tcl y := by
  intro e
  apply hne
  rw [← Int32.toInt_inj, vp_toInt h hk, vp_toInt h2 hk, e]
theorem takeS_Y9 {nv nc nf nl wk w i : Nat} {y : CT} (hP : PRC nv nc nf nl wk y) (hT : TX y nv nf) (hp : 0 ≤ (y 28 2).toInt ∧ (y 28 2).toInt ≤ 100) (hW : YW nv y) (hF : YF nf y) (hZ : FZ nf w i y) (hYZ : YZ nv nc nf nl y) (hi : i < nf) (hw : w < 30) : YW nv (takeS (nI w) i y) ∧ YF nf (takeS (nI w) i y) ∧ FZ nf w (i + 1) (takeS (nI w) i y) ∧ YZ nv nc nf nl (takeS (nI w) i y) := by
  have wk1 : FZ nf w (i + 1) y := fun j hj z => hZ j hj (z.imp id (fun z => ⟨by omega, z.2⟩))
  unfold takeS
  by_cases z : y 29 i = -1
  · rw [if_pos z]; exact ⟨hW, hF, wk1, hYZ⟩
  · rw [if_neg z]
    by_cases z2 : y 12 (4 * i + 0) = nI w
    · rw [if_pos z2]
      have hv := vp_tcl (hT i hi z)
      dsimp only
      have hr := room_b hP hW hv
      have hc := (hP.2.2.1 i hi).1
      have q1 := mn_le1 (y 12 (4 * i + 1)) (roomF y (tcl (y 29 i)))
      have q2 := mn_le2 (y 12 (4 * i + 1)) (roomF y (tcl (y 29 i)))
      have q0 : 0 ≤ (mn (y 12 (4 * i + 1)) (roomF y (tcl (y 29 i)))).toInt := mn_ge hc.1 hr.2.1
      generalize mn (y 12 (4 * i + 1)) (roomF y (tcl (y 29 i))) = q at q0 q1 q2 ⊢
      generalize tcl (y 29 i) = v at hv hr q2 ⊢
      have eW : (w : Int) = (y 12 (4 * i + 0)).toInt := by rw [z2, nI_toInt (by omega)]
      have z4 := hZ i hi (Or.inr ⟨Nat.le_refl _, by omega⟩)
      rw [put_at]
      have mb := more_b (y := put y 32 i q) (x := q) (by rw [put_ne (by decide)]; exact hp) q0 (by omega)
      generalize moreF (put y 32 i q) q = o at mb ⊢
      have e30 : (put (put y 32 i q) 33 i o) 30 v = y 30 v := by rw [put_ne (by decide), put_ne (by decide)]
      have e32 : (put (put y 32 i q) 33 i o) 32 i = q := by rw [put_ne (by decide), put_at]
      rw [e30, e32]
      have hwv := hW v hv
      have hpv := (hP.1 v hv).1
      have eS : (y 30 v + q).toInt = (y 30 v).toInt + q.toInt := addT (by omega) (by omega)
      refine ⟨YW.pu ((hW.ot (by decide)).ot (by decide)) (by omega) (fun _ => by rw [put_ne (by decide), put_ne (by decide)]; omega), ?_, ?_, ?_⟩
      · intro j hj
        rw [put_ne (show (34 : Nat) ≠ 30 by decide), put_ne (show (33 : Nat) ≠ 30 by decide), put_ne (show (34 : Nat) ≠ 33 by decide), put_ne (show (34 : Nat) ≠ 32 by decide)]
        by_cases e : j = i
        · subst e
          rw [put_at, z4.2]
          exact ⟨by decide, by rw [T0]; exact mb.1, mb.2⟩
        · rw [put_no e, put_ne (show (33 : Nat) ≠ 32 by decide)]
          exact hF j hj
      · intro j hj zz
        rw [put_ne (show (12 : Nat) ≠ 30 by decide), put_ne (show (12 : Nat) ≠ 33 by decide), put_ne (show (12 : Nat) ≠ 32 by decide)] at zz
        rw [put_ne (show (34 : Nat) ≠ 30 by decide), put_ne (show (33 : Nat) ≠ 30 by decide), put_ne (show (34 : Nat) ≠ 33 by decide), put_ne (show (34 : Nat) ≠ 32 by decide)]
        by_cases e : j = i
        · subst e
          rcases zz with zz | zz <;> omega
        · rw [put_no e, put_ne (show (33 : Nat) ≠ 32 by decide)]
          exact wk1 j hj zz
      · refine ⟨fun j hj => ?_, fun j hj => ?_, fun j hj => ?_, fun u hu => ?_⟩
        · have := hYZ.1 j hj
          rw [put_ne (by decide), put_ne (by decide), put_no (by omega), put_ne (by decide), put_no (by omega), put_ne (by decide), put_ne (by decide), put_ne (by decide), put_ne (by decide)]
          exact this
        · have := hYZ.2.1 j hj
          simp only [put_ne (show (35 : Nat) ≠ 30 by decide), put_ne (show (35 : Nat) ≠ 33 by decide), put_ne (show (35 : Nat) ≠ 32 by decide), put_ne (show (36 : Nat) ≠ 30 by decide), put_ne (show (36 : Nat) ≠ 33 by decide), put_ne (show (36 : Nat) ≠ 32 by decide), put_ne (show (37 : Nat) ≠ 30 by decide), put_ne (show (37 : Nat) ≠ 33 by decide), put_ne (show (37 : Nat) ≠ 32 by decide)]
          exact this
        · rw [put_ne (by decide), put_ne (by decide), put_ne (by decide)]; exact hYZ.2.2.1 j hj
        · rw [put_no (by omega), put_ne (by decide), put_ne (by decide)]; exact hYZ.2.2.2 u hu
    · rw [if_neg z2]
      refine ⟨hW, hF, fun j hj zz => ?_, hYZ⟩
      exact hZ j hj (zz.imp id (fun q => ⟨by omega, q.2⟩))