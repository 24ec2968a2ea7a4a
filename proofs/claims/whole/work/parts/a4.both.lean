/-! BOTH WORLDS IN ONE HEAP; what holds between two calls -/
def HCM (b : Nat) (c : CT) (co : Nat → Nat → Option Nat) (m : CT) (ml : Nat → Nat → Int64) (r : Nat → Option AE) (n : Nat) : AH := HC b c co (HM (b + 55) m ml r n).1 n
theorem HCM_sw {b : Nat} {c : CT} {co : Nat → Nat → Option Nat} {m : CT} {ml : Nat → Nat → Int64} {r : Nat → Option AE} {n : Nat} : HCM b c co m ml r n = HM (b + 55) m ml (HC b c co r n).1 n := by
  refine Prod.ext ?_ rfl
  funext a
  simp only [HCM, HC, HM]
  by_cases h : b ≤ a ∧ a < b + 55
  · rw [if_pos h, if_neg (by omega), if_pos h]
  · rw [if_neg h, if_neg h]
/-- the script, from the law's own start -/
def SCR (X : XC) (sc L : Nat) (xs : Nat → Int32) : Prop := match X with
  | (_, _, s, _, _, _, _, _, h0) => va_X sc L xs s s.heap ∧ sc < s.heap.size ∧ ¬ dmA h0 sc
theorem A_sld {X : XC} {G : GX} {own : String} {cc : ByteArray} {ini : Bool} {ret : Option FieldType} {Qp : Option Value → AH → Prop} {d mc ms : Nat} {h : AH} {uc us pc : Nat} {lv : List (Option Value)} {st : List Value} {sc L : Nat} {xs : Nat → Int32} {i : Int32} (hX : SCR X sc L xs) (hin : vp_in i L) (hd : decode cc pc = .ok (.iaload, 1)) (k : WA X G own cc ini ret Qp d mc ms h uc us (pc + 1) lv (.int (xs i.toNatClampNeg) :: st)) : WA X G own cc ini ret Qp d mc ms h uc us pc lv (.int i :: .ref sc :: st) := by
  obtain ⟨p, e, s, m, args, below, meth, c, h0⟩ := X
  obtain ⟨x1, x2, x3⟩ := hX
  intro H locs ls hXo hR hS hdm hL
  exact va_sld hXo.1 hXo.2.1 x1 x2 x3 hS hin hd (k H locs ls hXo hR hS hdm hL)
theorem A_slen {X : XC} {G : GX} {own : String} {cc : ByteArray} {ini : Bool} {ret : Option FieldType} {Qp : Option Value → AH → Prop} {d mc ms : Nat} {h : AH} {uc us pc : Nat} {lv : List (Option Value)} {st : List Value} {sc L : Nat} {xs : Nat → Int32} (hX : SCR X sc L xs) (hd : decode cc pc = .ok (.arraylength, 1)) (k : WA X G own cc ini ret Qp d mc ms h uc us (pc + 1) lv (.int (nI L) :: st)) : WA X G own cc ini ret Qp d mc ms h uc us pc lv (.ref sc :: st) := by
  obtain ⟨p, e, s, m, args, below, meth, c, h0⟩ := X
  obtain ⟨x1, x2, x3⟩ := hX
  intro H locs ls hXo hR hS hdm hL
  exact va_slen hXo.1 hXo.2.1 x1 x2 x3 hS hd (k H locs ls hXo hR hS hdm hL)
def TPE (L : Nat) (c m : CT) : Prop := c 1 1 = nI L ∧ L ≤ 1600 ∧ m 0 5 = nI L ∧ (∀ i, i < 1600 → c 2 i = m 4 i) ∧ ByR m
def FLT (c m : CT) : Prop := c 3 3 = m 0 12 ∧ c 3 4 = m 0 13
/-- the SLOTS' cells; ow: whose cell it is -/
def SX (b n : Nat) (r : Nat → Option AE) (co : Nat → Nat → Option Nat) (S : Nat → Option ST) (ow : Nat → Nat) : Prop := ∀ j, j < 4 → (S j = none → co 27 j = none) ∧ ∀ a q w N f, S j = some (a, q, w, N, f) → co 27 j = some a ∧ r a = some (ob 5 [.ref q, .int w, .int (nI N)]) ∧ r q = some (aJ 60 f) ∧ N ≤ 60 ∧ b + 76 ≤ a ∧ a < n ∧ b + 76 ≤ q ∧ q < n ∧ ow a = 1 + j ∧ ow q = 1 + j ∧ a ≠ q
/-- the IMAGES' cells -/
def IY (b n : Nat) (r : Nat → Option AE) (co : Nat → Nat → Option Nat) (I : Nat → Option (Nat × CT)) (ow : Nat → Nat) : Prop := ∀ k, k < 3 → co 26 k = (I k).map Prod.fst ∧ ∀ q Q, I k = some (q, Q) → b + 76 ≤ q ∧ q + 10 ≤ n ∧ (∀ j, j < 10 → r (q + j) = some (mkP q j (Q j) (cz0 j))) ∧ ∀ j, j < 10 → ow (q + j) = 10 + k
def iC (Q : CT) : CT := fun l => Q (l - 6)
def iM (m : CT) (k : Nat) : CT := fun l j => if l = 1 then m 2 (160 * k + j) else -1
/-- the IMAGES, alike -/
def IML (I : Nat → Option (Nat × CT)) (m : CT) : Prop := ∀ k, k < 3 → (I k = none → m 3 k = 0) ∧ ∀ q Q, I k = some (q, Q) → ¬ m 3 k = 0 ∧ ∃ nv nc nf nl wk, BL nv nc nf nl wk (iC Q) (iM m k)
def LJ' (b : Nat) (c : CT) (co : Nat → Nat → Option Nat) (m : CT) (ml : Nat → Nat → Int64) (r : Nat → Option AE) (n nv nc nf nl wk L : Nat) (S : Nat → Option ST) (I : Nat → Option (Nat × CT)) (ow : Nat → Nat) : Prop := BL nv nc nf nl wk c m ∧ CacheOk c (tot nv nf) ∧ TPE L c m ∧ FLT c m ∧ SX b n r co S ow ∧ SL S m ml ∧ IY b n r co I ow ∧ IML I m ∧ b + 76 ≤ n
def LJ (b : Nat) (c : CT) (co : Nat → Nat → Option Nat) (m : CT) (ml : Nat → Nat → Int64) (r : Nat → Option AE) (n : Nat) : Prop := ∃ nv nc nf nl wk L S I ow, LJ' b c co m ml r n nv nc nf nl wk L S I ow
theorem SX.ok {b n : Nat} {r : Nat → Option AE} {co : Nat → Nat → Option Nat} {S : Nat → Option ST} {ow : Nat → Nat} {m : CT} {ml : Nat → Nat → Int64} (h : SX b n r co S ow) : SOk b co (HM (b + 55) m ml r n).1 S := by
  intro j hj
  refine ⟨(h j hj).1, fun a q w N f hs => ?_⟩
  obtain ⟨h1, h2, h3, h4, h5, h6, h7, h8, -⟩ := (h j hj).2 a q w N f hs
  exact ⟨h1, by rw [HM_out (by omega)]; exact h2, by rw [HM_out (by omega)]; exact h3, h4, by omega, by omega⟩
theorem IY.ok {b n : Nat} {r : Nat → Option AE} {co : Nat → Nat → Option Nat} {I : Nat → Option (Nat × CT)} {ow : Nat → Nat} {m : CT} {ml : Nat → Nat → Int64} (h : IY b n r co I ow) : IOk b co (HM (b + 55) m ml r n).1 I := by
  intro k hk
  refine ⟨(h k hk).1, fun q Q hs => ?_⟩
  obtain ⟨h1, h2, h3, -⟩ := (h k hk).2 q Q hs
  exact ⟨by omega, fun j hj => by rw [HM_out (by omega)]; exact h3 j hj⟩
theorem SX.sn {b n : Nat} {r : Nat → Option AE} {co : Nat → Nat → Option Nat} {S : Nat → Option ST} {ow : Nat → Nat} {m : CT} {ml : Nat → Nat → Int64} (h : SX b n r co S ow) (hS : SL S m ml) : SN m co := by
  intro j hj
  cases hs : S j with
  | none => rw [(h j hj).1 hs, (hS j hj).1 hs]; exact ⟨fun _ => rfl, fun _ => rfl⟩
  | some z =>
    obtain ⟨a, q, w, N, f⟩ := z
    have h1 := (h j hj).2 a q w N f hs
    have h2 := (hS j hj).2 a q w N f hs
    rw [h1.1, h2.1]
    constructor
    · intro z
      have := congrArg Int32.toInt z
      rw [nI_toInt (by have := h2.2.1; omega)] at this
      have e : (-1 : Int32).toInt = -1 := rfl
      omega
    · intro z; cases z
theorem TPE.to {L : Nat} {c m c1 m1 : CT} (h : TPE L c m) (e1 : c1 1 = c 1) (e2 : c1 2 = c 2) (e3 : m1 0 5 = m 0 5) (e4 : m1 4 = m 4) : TPE L c1 m1 := by
  unfold TPE ByR at *
  rw [e1, e2, e3, e4]; exact h
theorem SL.too {S : Nat → Option ST} {m m1 : CT} {ml ml1 : Nat → Nat → Int64} (h : SL S m ml) (e1 : m1 17 = m 17) (e2 : m1 18 = m 18) (e3 : ml1 19 = ml 19) : SL S m1 ml1 := by
  unfold SL at *
  rw [e1, e2, e3]; exact h
theorem iM_to {m m1 : CT} {k : Nat} (e : m1 2 = m 2) : iM m1 k = iM m k := by unfold iM; rw [e]
theorem IML.to {I : Nat → Option (Nat × CT)} {m m1 : CT} (h : IML I m) (e1 : m1 2 = m 2) (e2 : m1 3 = m 3) : IML I m1 := by
  intro k hk
  rw [e2, iM_to e1]; exact h k hk
theorem FLT.to {c m c1 m1 : CT} (h : FLT c m) (e1 : c1 3 = c 3) (e2 : m1 0 12 = m 0 12) (e3 : m1 0 13 = m 0 13) : FLT c1 m1 := by
  unfold FLT at *
  rw [e1, e2, e3]; exact h
/-- most calls: nothing but the YEAR, and what is kept of YEARS, has changed -/
theorem LJ'.keep {b : Nat} {c c1 : CT} {co : Nat → Nat → Option Nat} {m m1 : CT} {ml ml1 : Nat → Nat → Int64} {r : Nat → Option AE} {n nv nc nf nl wk L : Nat} {S : Nat → Option ST} {I : Nat → Option (Nat × CT)} {ow : Nat → Nat} (h : LJ' b c co m ml r n nv nc nf nl wk L S I ow) (hc : keepC c c1 (tot nv nf)) (hm : KM m ml m1 ml1) : LJ b c1 co m1 ml1 r n := by
  obtain ⟨h1, h2, h3, h4, h5, h6, h7, h8, h9⟩ := h
  have e := fun l (hl : l ≤ 27) => hc.1 l hl
  have f := hm.1.1
  have g := hm.1.2
  exact ⟨nv, nc, nf, nl, wk, L, S, I, ow, h1.to (fun l hl => e l (by omega)) hm.1, hc.2, h3.to (e 1 (by decide)) (e 2 (by decide)) (g 5 (by decide)) (f 4 (by decide) (by decide)), h4.to (e 3 (by decide)) (g 12 (by decide)) (g 13 (by decide)), h5, h6.too (f 17 (by decide) (by decide)) (f 18 (by decide) (by decide)) hm.2, h7, h8.to (f 2 (by decide) (by decide)) (f 3 (by decide) (by decide)), h9⟩
theorem LJ'.lj {b : Nat} {c : CT} {co : Nat → Nat → Option Nat} {m : CT} {ml : Nat → Nat → Int64} {r : Nat → Option AE} {n nv nc nf nl wk L : Nat} {S : Nat → Option ST} {I : Nat → Option (Nat × CT)} {ow : Nat → Nat} (h : LJ' b c co m ml r n nv nc nf nl wk L S I ow) : LJ b c co m ml r n := ⟨_, _, _, _, _, _, _, _, _, h⟩
/-- the law, from pc on: any state that holds both worlds alike, with room for what is left -/
def LW (X : XC) (G : GX) (Qp : Option Value → AH → Prop) (sc b k uc us : Nat) (pc : Nat) (h : AH) : Prop := WA X G RL cL_law false (some .boolean) Qp 20 510000 7100000 h uc us pc [some (.ref sc), some (.ref b), some (.ref (b + 55)), some (.int (nI (6 * k)))] []
/-- goes on behind a call -/
def LN (X : XC) (G : GX) (Qp : Option Value → AH → Prop) (sc b k uc us : Nat) : Prop := ∀ (c : CT) (co : Nat → Nat → Option Nat) (m : CT) (ml : Nat → Nat → Int64) (r : Nat → Option AE) (n uc1 us1 : Nat), LJ b c co m ml r n → uc1 ≤ uc + 12 → us1 ≤ us + 180 → LW X G Qp sc b k uc1 us1 1444 (HCM b c co m ml r n)
theorem ix_k {k L j : Nat} (hk : 6 * k + 6 ≤ L) (hL : L ≤ 3072) (hj : j < 6) : vp_in (nI (6 * k) + nI j) L := by
  rw [nI_add]; exact vp_in_nI (by omega) (by omega)
theorem lg_self (x : Int64) : lg_cmp x x = 0 := by
  have h : ¬ x > x := fun z => by rw [gt_iff_lt, Int64.lt_iff_toInt_lt] at z; omega
  rw [lg_cmp, if_neg h, if_pos rfl]
theorem enP {nv nc nf nl wk : Nat} {c m : CT} (h : BL nv nc nf nl wk c m) : ∀ j, j < nv → ∃ p, p ≤ 9999 ∧ c 8 (5 * j + 0) = nI p := fun j hj => by
  have := (h.pr.1 j hj).1
  exact ⟨_, by omega, nI_nat this.1⟩