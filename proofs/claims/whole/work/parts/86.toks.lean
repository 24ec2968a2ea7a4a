/-! TOKENS as places of the tape -/
def byF (c : CT) (i : Nat) : Int32 := atF c (nI i)
def isBl (v : Int32) : Prop := v = 32 ∨ v = 10
def isLt (v : Int32) : Prop := ¬ (v < 97 ∨ 122 < v)
def isDg (v : Int32) : Prop := ¬ (v < 48 ∨ 57 < v)
def skN (f : Nat → Int32) : Nat → Nat → Nat
  | 0, p => p
  | k + 1, p => if f p = 32 ∨ f p = 10 then skN f k (p + 1) else p
def wdN (f : Nat → Int32) : Nat → Nat → Nat
  | 0, p => p
  | k + 1, p => if f p < 97 ∨ 122 < f p then p else wdN f k (p + 1)
def dgN (f : Nat → Int32) : Nat → Nat → Nat
  | 0, p => p
  | k + 1, p => if f p < 48 ∨ 57 < f p then p else dgN f k (p + 1)
def vlN (f : Nat → Int32) (cap : Int32) : Nat → Nat → Int32 → Int32
  | 0, _, v => v
  | k + 1, p, v => if f p < 48 ∨ 57 < f p then v else vlN f cap k (p + 1) (mn cap (v * 10 + f p - 48))
def tkS (f : Nat → Int32) (L p : Nat) : Nat := skN f (L - p) p
def tkK (f : Nat → Int32) (q : Nat) : Int32 := if f q = -1 then 0 else if ¬ (f q < 97 ∨ 122 < f q) then 1 else if ¬ (f q < 48 ∨ 57 < f q) then 2 else if f q = 59 then 3 else 4
def tkE (f : Nat → Int32) (L q : Nat) : Nat := if f q = -1 then q else if ¬ (f q < 97 ∨ 122 < f q) then wdN f (L - q) q else if ¬ (f q < 48 ∨ 57 < f q) then dgN f (L - q) q else q + 1
def tkV (f : Nat → Int32) (cap : Int32) (L q : Nat) : Int32 := vlN f cap (L - q) q 0
theorem skN_b {f : Nat → Int32} : ∀ k p, p ≤ skN f k p ∧ skN f k p ≤ p + k
  | 0, p => ⟨Nat.le_refl _, Nat.le_refl _⟩
  | k + 1, p => by
    have := skN_b (f := f) k (p + 1)
    rw [skN]; split <;> omega
theorem wdN_b {f : Nat → Int32} : ∀ k p, p ≤ wdN f k p ∧ wdN f k p ≤ p + k
  | 0, p => ⟨Nat.le_refl _, Nat.le_refl _⟩
  | k + 1, p => by
    have := wdN_b (f := f) k (p + 1)
    rw [wdN]; split <;> omega
theorem dgN_b {f : Nat → Int32} : ∀ k p, p ≤ dgN f k p ∧ dgN f k p ≤ p + k
  | 0, p => ⟨Nat.le_refl _, Nat.le_refl _⟩
  | k + 1, p => by
    have := dgN_b (f := f) k (p + 1)
    rw [dgN]; split <;> omega
theorem tkS_b {f : Nat → Int32} {L p : Nat} (h : p ≤ L) : p ≤ tkS f L p ∧ tkS f L p ≤ L := by
  have := skN_b (f := f) (L - p) p
  unfold tkS; omega
theorem tkE_b {f : Nat → Int32} {L q : Nat} (h : q ≤ L) (he : f L = -1) : q ≤ tkE f L q ∧ tkE f L q ≤ L := by
  have h1 := wdN_b (f := f) (L - q) q
  have h2 := dgN_b (f := f) (L - q) q
  unfold tkE
  split
  · omega
  · next z =>
    split
    · omega
    · split
      · omega
      · have : q ≠ L := fun e => z (e ▸ he)
        omega
theorem atF_5 {c : CT} {i : Nat} {v : Int32} : atF (put c 5 i v) = atF c := by
  funext x
  unfold atF
  rw [put_ne (by decide), put_ne (by decide)]
theorem byF_5 {c : CT} {i : Nat} {v : Int32} : byF (put c 5 i v) = byF c := by unfold byF; rw [atF_5]
theorem pp5 {c : CT} {i : Nat} {v w : Int32} : put (put c 5 i v) 5 i w = put c 5 i w := by
  funext l j
  by_cases e : l = 5
  · subst e
    by_cases z : j = i
    · subst z; rw [put_at, put_at]
    · rw [put_no z, put_no z, put_no z]
  · rw [put_ne e, put_ne e, put_ne e]
theorem ps5 {c : CT} {i : Nat} : put c 5 i (c 5 i) = c := by
  funext l j
  by_cases e : l = 5
  · subst e
    by_cases z : j = i
    · subst z; rw [put_at]
    · rw [put_no z]
  · rw [put_ne e]
theorem skF_N : ∀ k p (c : CT), c 5 2 = nI p → skF k c = put c 5 2 (nI (skN (byF c) k p))
  | 0, p, c, h => by rw [skF, skN, ← h, ps5]
  | k + 1, p, c, h => by
    have e : atF c (c 5 2) = byF c p := by rw [h]; rfl
    rw [skF, skN, e]
    by_cases z : byF c p = 32 ∨ byF c p = 10
    · rw [if_neg (by rw [blF, if_pos z]; decide), if_pos z, skF_N k (p + 1) _ (by rw [put_kk, h]; exact nI_1 p), byF_5, pp5]
    · rw [if_pos (by rw [blF, if_neg z]), if_neg z, ← h, ps5]
theorem wdF_N : ∀ k p (c : CT), c 5 3 = nI p → wdF k c = put c 5 3 (nI (wdN (byF c) k p))
  | 0, p, c, h => by rw [wdF, wdN, ← h, ps5]
  | k + 1, p, c, h => by
    have e : atF c (c 5 3) = byF c p := by rw [h]; rfl
    rw [wdF, wdN, e]
    by_cases z : byF c p < 97 ∨ 122 < byF c p
    · rw [if_pos (by rw [letF, if_pos z]), if_pos z, ← h, ps5]
    · rw [if_neg (by rw [letF, if_neg z]; decide), if_neg z, wdF_N k (p + 1) _ (by rw [put_kk, h]; exact nI_1 p), byF_5, pp5]
theorem snS_b {c : CT} : byF (snS c) = byF c := by
  unfold byF atF
  rw [snS_1, snS_2]
theorem snF_N : ∀ k p (c : CT), c 5 3 = nI p → snF k c 5 3 = nI (dgN (byF c) k p) ∧ snF k c 5 4 = vlN (byF c) 1000000 k p (c 5 4) ∧ snF k c 5 1 = c 5 1 ∧ snF k c 5 2 = c 5 2 ∧ ∀ l, l ≠ 5 → snF k c l = c l
  | 0, p, c, h => ⟨h, rfl, rfl, rfl, fun _ _ => rfl⟩
  | k + 1, p, c, h => by
    have e : atF c (c 5 3) = byF c p := by rw [h]; rfl
    rw [snF, dgN, vlN, e]
    by_cases z : byF c p < 48 ∨ 57 < byF c p
    · rw [if_pos (by rw [digF, if_pos z]), if_pos z, if_pos z]
      exact ⟨h, rfl, rfl, rfl, fun _ _ => rfl⟩
    · rw [if_neg (by rw [digF, if_neg z]; decide), if_neg z, if_neg z]
      obtain ⟨h1, h2, h3, h4, h5⟩ := snF_N k (p + 1) (snS c) (snS_3 h)
      rw [snS_b] at h1 h2
      refine ⟨h1, h2.trans ?_, h3.trans ?_, h4.trans ?_, fun l hl => (h5 l hl).trans ?_⟩
      · rw [snS, put_no (by decide), put_at, e]
      · rw [snS, put_no (by decide), put_no (by decide)]
      · rw [snS, put_no (by decide), put_no (by decide)]
      · rw [snS, put_ne hl, put_ne hl]
/-- the next TOKEN, as places -/
def TokAt (c y : CT) (L p : Nat) : Prop := y 5 1 = tkK (byF c) (tkS (byF c) L p) ∧ y 5 2 = nI (tkS (byF c) L p) ∧ y 5 3 = nI (tkE (byF c) L (tkS (byF c) L p)) ∧ (tkK (byF c) (tkS (byF c) L p) = 2 → y 5 4 = tkV (byF c) 1000000 L (tkS (byF c) L p)) ∧ ∀ l, l ≠ 5 → y l = c l
theorem step_N {L p : Nat} {c : CT} (h : c 5 3 = nI p) (hp : p ≤ L) (hL : L ≤ 1600) : TokAt c (stepF L p c) L p := by
  have hb := tkS_b (f := byF c) hp
  rw [stepF, skF_N (L - p) p _ (by rw [put_kk, h]), byF_5, pp5, s2F, put_kk]
  obtain ⟨q, hq⟩ : ∃ q, skN (byF c) (L - p) p = q := ⟨_, rfl⟩
  rw [hq]
  have eq : tkS (byF c) L p = q := hq
  rw [eq] at hb
  unfold TokAt
  rw [eq]
  have z2 : put (put c 5 2 (nI q)) 5 3 (nI q) 5 2 = nI q := by rw [put_no (by decide), put_at]
  have z3 : put (put c 5 2 (nI q)) 5 3 (nI q) 5 3 = nI q := put_at
  have zb : byF (put (put c 5 2 (nI q)) 5 3 (nI q)) = byF c := by rw [byF_5, byF_5]
  have zl : ∀ l, l ≠ 5 → put (put c 5 2 (nI q)) 5 3 (nI q) l = c l := fun l hl => by rw [put_ne hl, put_ne hl]
  generalize put (put c 5 2 (nI q)) 5 3 (nI q) = z at z2 z3 zb zl ⊢
  have ea : atF z (z 5 2) = byF c q := by rw [z2, ← zb]; rfl
  rw [s3F, ea]
  by_cases k0 : byF c q = -1
  · rw [if_pos k0]
    refine ⟨by rw [put_at, tkK, if_pos k0], by rw [put_no (by decide)]; exact z2, by rw [put_no (by decide), tkE, if_pos k0]; exact z3, fun w => ?_, fun l hl => by rw [put_ne hl]; exact zl l hl⟩
    rw [tkK, if_pos k0] at w; exact absurd w (by decide)
  · rw [if_neg k0]
    by_cases k1 : byF c q < 97 ∨ 122 < byF c q
    · rw [if_pos (by rw [letF, if_pos k1])]
      by_cases k2 : byF c q < 48 ∨ 57 < byF c q
      · rw [if_pos (by rw [digF, if_pos k2])]
        have ek : tkK (byF c) q = if byF c q = 59 then 3 else 4 := by rw [tkK, if_neg k0, if_neg (fun w => w k1), if_neg (fun w => w k2)]
        refine ⟨by rw [put_no (by decide), put_at, ek], by rw [put_no (by decide), put_no (by decide)]; exact z2, ?_, fun w => ?_, fun l hl => by rw [put_ne hl, put_ne hl]; exact zl l hl⟩
        · rw [put_at, tkE, if_neg k0, if_neg (fun w => w k1), if_neg (fun w => w k2), z3]; exact nI_1 q
        · rw [ek] at w
          split at w <;> exact absurd w (by decide)
      · rw [if_neg (by rw [digF, if_neg k2]; decide)]
        have ek : tkK (byF c) q = 2 := by rw [tkK, if_neg k0, if_neg (fun w => w k1), if_pos k2]
        have et : tcl (z 5 2) = q := by rw [z2, tcl_nI (by omega)]
        obtain ⟨h1, h2, h3, h4, h5⟩ := snF_N (L - q) q (put (put z 5 1 2) 5 4 0) (by rw [put_no (by decide), put_no (by decide)]; exact z3)
        rw [byF_5, byF_5, zb] at h1 h2
        rw [snA, et]
        refine ⟨by rw [h3, put_no (by decide), put_at, ek], by rw [h4, put_no (by decide), put_no (by decide)]; exact z2, by rw [h1, tkE, if_neg k0, if_neg (fun w => w k1), if_pos k2], fun _ => by rw [h2, put_at, tkV], fun l hl => by rw [h5 l hl, put_ne hl, put_ne hl]; exact zl l hl⟩
    · rw [if_neg (by rw [letF, if_neg k1]; decide)]
      have ek : tkK (byF c) q = 1 := by rw [tkK, if_neg k0, if_pos k1]
      have et : tcl (z 5 2) = q := by rw [z2, tcl_nI (by omega)]
      rw [et, wdF_N (L - q) q _ (by rw [put_no (by decide)]; exact z3), byF_5, zb]
      refine ⟨by rw [put_no (by decide), put_at, ek], by rw [put_no (by decide), put_no (by decide)]; exact z2, by rw [put_at, tkE, if_neg k0, if_pos k1], fun w => ?_, fun l hl => by rw [put_ne hl, put_ne hl]; exact zl l hl⟩
      rw [ek] at w; exact absurd w (by decide)