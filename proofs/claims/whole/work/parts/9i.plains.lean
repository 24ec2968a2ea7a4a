/-! plain goes alike -/
def RQ (X : Int32 × CT) (t : RS) : Prop := (t.1.1 = 0 ∧ X.1 = 1 ∧ X.2 3 3 = 0 ∧ X.2 3 4 = -1 ∧ ∃ nv nc nf nl wk K, FD nv nc nf nl wk K X.2 t.2) ∨ (¬ t.1.1 = 0 ∧ X.1 = 0 ∧ X.2 3 3 = t.1.1 ∧ X.2 3 4 = nI t.1.2)
theorem CP.lt {L p : Nat} {f : Nat → Int32} {c : CT} (h : CP L f p c) (hk : ¬ tkK f (tkS f L p) = 0) : p < L := by
  have hb := nxP_b h
  obtain ⟨h1, hL, hp, -, hf⟩ := h
  by_cases e : p = L
  · exfalso
    have e2 : tkS f L p = L := by omega
    refine hk ?_
    rw [e2, tkK, if_pos ((hf L hL).symm.trans (byF_L h1 hL))]
  · omega
theorem rd_sim {L : Nat} {f : Nat → Int32} : ∀ (k i p : Nat) (c : CT) (g : Nat → Int32) (nv nc nf nl wk : Nat), i + k = L + 1 → i ≤ p → CP L f p c → FD nv nc nf nl wk i c g → c 3 3 = 0 → c 3 4 = -1 → ∃ t, rpP f L (k + 1) ((0, p), g) t ∧ RQ (rdR L k c) t ∧ ∀ l, l ≠ 3 → l ≠ 4 → l ≠ 5 → (l < 16 ∨ 25 < l) → (rdR L k c).2 l = c l := by
  intro k
  induction k with
  | zero =>
    intro i p c g nv nc nf nl wk hi hip h hF h3 h4
    have := h.2.2.1
    omega
  | succ k ih =>
    intro i p c g nv nc nf nl wk hi hip h hF h3 h4
    obtain ⟨zP, T, zl, z52, z51⟩ := h.st
    by_cases hk : tkK f (tkS f L p) = 0
    · have er : rdR L (k + 1) c = (1, stp L c) := by rw [rdR, if_pos (z51.trans hk)]
      refine ⟨((0, p), g), ?_, Or.inl ?_, fun l a b d e => ?_⟩
      · rw [rpP, if_neg (fun w => w.2 hk)]
      · rw [er]
        have z3 : stp L c 3 3 = 0 := (congrFun (zl 3 (by decide)) 3).trans h3
        have z4 : stp L c 3 4 = -1 := (congrFun (zl 3 (by decide)) 4).trans h4
        have zF : FD nv nc nf nl wk i (stp L c) g := hF.to (fun l hl => zl l (by omega))
        generalize stp L c = z at z3 z4 zF
        exact ⟨rfl, rfl, z3, z4, nv, nc, nf, nl, wk, i, zF⟩
      · rw [er]; exact zl l d
    · have hlt := h.lt hk
      have hL := h.2.1
      have Q := LN_sim h hF (by omega)
      have hfr : ∀ l, l ≠ 3 → l ≠ 4 → l ≠ 5 → (l < 16 ∨ 25 < l) → (rlA L (stp L c)).2 l = c l := fun l a b d e => (rlA_f zP.pt a b d e).trans (zl l d)
      obtain ⟨S, eS⟩ : ∃ S, lnS f L ((0, p), g) = S := ⟨_, rfl⟩
      obtain ⟨X, eX⟩ : ∃ X, rlA L (stp L c) = X := ⟨_, rfl⟩
      rw [eS, eX] at Q
      rw [eX] at hfr
      have er : rdR L (k + 1) c = if X.1 = 0 then (0, X.2) else rdR L k X.2 := by rw [rdR, if_neg (fun w => hk (z51.symm.trans w)), eX]
      have hp : ∀ t, rpP f L (k + 1) S t → rpP f L (k + 1 + 1) ((0, p), g) t := fun t ht => by
        rw [rpP, if_pos ⟨rfl, hk⟩, eS]
        exact ⟨⟨_, _, _, _, _, hF.cf⟩, ht⟩
      rcases Q with ⟨s0, x1, P, hq, fr, a, b, d, e, w, hF2⟩ | ⟨s0, x1, x3, x4⟩
      · have er2 : rdR L (k + 1) c = rdR L k X.2 := by rw [er, x1, if_neg (by decide)]
        have eSp : S = ((0, S.1.2), S.2) := Prod.ext (Prod.ext s0 rfl) rfl
        obtain ⟨t, t1, t2, t3⟩ := ih (i + 1) S.1.2 X.2 S.2 a b d e w (by omega) (by omega) P hF2 (by rw [fr 3 (by decide) (by decide) (by decide), zl 3 (by decide)]; exact h3) (by rw [fr 3 (by decide) (by decide) (by decide), zl 3 (by decide)]; exact h4)
        rw [← eSp] at t1
        rw [er2]
        exact ⟨t, hp t t1, t2, fun l a b d e => (t3 l a b d e).trans (hfr l a b d e)⟩
      · have er2 : rdR L (k + 1) c = (0, X.2) := by rw [er, x1, if_pos rfl]
        refine ⟨S, hp S ?_, Or.inr ?_, ?_⟩
        · rw [rpP, if_neg (fun w => s0 w.1)]
        · rw [er2]; exact ⟨s0, rfl, x3, x4⟩
        · rw [er2]; exact hfr
theorem clr_l {c : CT} {l : Nat} (h : l < 16 ∨ 25 < l) : clrF c l = c l := by
  rw [clrF, put_ne (by omega), put_ne (by omega), put_ne (by omega), put_ne (by omega), st1_ne (by omega), put_ne (by omega), put_ne (by omega), put_ne (by omega), put_ne (by omega)]
theorem clr_h {c : CT} : clrF c 16 5 = 0 ∧ clrF c 16 6 = 0 ∧ clrF c 16 7 = 0 ∧ clrF c 16 8 = 0 ∧ clrF c 25 = fun _ => 0 := by
  refine ⟨?_, ?_, ?_, ?_, ?_⟩
  · rw [clrF, put_no (by decide), put_no (by decide), put_no (by decide), put_at]
  · rw [clrF, put_no (by decide), put_no (by decide), put_at]
  · rw [clrF, put_no (by decide), put_at]
  · rw [clrF, put_at]
  · rw [clrF, put_ne (by decide), put_ne (by decide), put_ne (by decide), put_ne (by decide), st1_eq]
theorem rd0_x {c : CT} {l : Nat} (h3 : l ≠ 3) (h5 : l ≠ 5) : rd0 c l = clrF c l := by rw [rd0, tbF, put_ne h5, put_ne h5, put_ne h5, put_ne h5, put_ne h3, put_ne h3]
theorem rd0_3 {c : CT} : rd0 c 3 3 = 0 ∧ rd0 c 3 4 = -1 ∧ rd0 c 5 3 = 0 := by
  refine ⟨?_, ?_, ?_⟩
  · rw [rd0, tbF, put_ne (by decide), put_ne (by decide), put_ne (by decide), put_ne (by decide), put_no (by decide), put_at]
  · rw [rd0, tbF, put_ne (by decide), put_ne (by decide), put_ne (by decide), put_ne (by decide), put_at]
  · rw [rd0, tbF, put_no (by decide), put_at]
theorem rd0_F {c : CT} : FD 0 0 0 0 0 0 (rd0 c) (fun _ => 0) := by
  obtain ⟨⟨a1, -⟩, ⟨a2, -⟩, ⟨a3, -⟩, ⟨a4, -⟩⟩ := rd0_C (c := c)
  obtain ⟨b1, b2, b3, b4, b5⟩ := clr_h (c := c)
  have e16 := rd0_x (c := c) (l := 16) (by decide) (by decide)
  have e25 := rd0_x (c := c) (l := 25) (by decide) (by decide)
  refine ⟨?_, ⟨a1, by decide, rfl, fun v hv => absurd hv (Nat.not_lt_zero v), fun _ _ _ => rfl, fun v hv => absurd hv (Nat.not_lt_zero v)⟩, ⟨a2, by decide, rfl, fun v hv => absurd hv (Nat.not_lt_zero v), fun v hv => absurd hv (Nat.not_lt_zero v)⟩, fun w hw => ?_, ⟨a3, by decide, rfl, fun v hv => absurd hv (Nat.not_lt_zero v), fun v hv => absurd hv (Nat.not_lt_zero v)⟩, ⟨a4, by decide, rfl, fun v hv => absurd hv (Nat.not_lt_zero v), fun v hv => absurd hv (Nat.not_lt_zero v)⟩⟩
  · unfold HD
    rw [e16, b1, b2, b3, b4]
    exact ⟨⟨rfl, rfl, by decide, Iff.rfl⟩, ⟨rfl, rfl, by decide⟩, rfl, rfl, by decide, by decide⟩
  · rw [e25, b5]; exact ⟨rfl, (by decide : 0 ≤ (0 : Int32).toInt), (by decide : (0 : Int32).toInt ≤ 99)⟩
theorem reads_sim {L : Nat} {f : Nat → Int32} {c : CT} (h1 : c 1 1 = nI L) (hL : L ≤ 1600) (hf : ∀ i, i ≤ 1600 → byF c i = f i) : ∃ t, rpP f L (L + 2) ((0, 0), fun _ => 0) t ∧ RQ (readsF L c) t ∧ ∀ l, l ≠ 3 → l ≠ 4 → l ≠ 5 → (l < 16 ∨ 25 < l) → (readsF L c).2 l = c l := by
  have e1 : rd0 c 1 = c 1 := rd0_l (by decide)
  have e2 : rd0 c 2 = c 2 := rd0_l (by decide)
  obtain ⟨a3, a4, a5⟩ := rd0_3 (c := c)
  have eR : readsF L c = rdR L (L + 1) (rd0 c) := by rw [readsF]
  rw [eR, show L + 2 = L + 1 + 1 from rfl]
  obtain ⟨t, t1, t2, t3⟩ := rd_sim (L := L) (f := f) (L + 1) 0 0 (rd0 c) (fun _ => 0) 0 0 0 0 0 (by omega) (Nat.le_refl _) ⟨by rw [e1]; exact h1, hL, Nat.zero_le _, a5, by rw [byF_to e1 e2]; exact hf⟩ rd0_F a3 a4
  generalize rdR L (L + 1) (rd0 c) = X at t2 t3 ⊢
  refine ⟨t, t1, t2, fun l a b d e => ?_⟩
  rw [t3 l a b d e, rd0_x a d, clr_l e]
theorem FD.bl {nv nc nf nl wk K : Nat} {y c m : CT} {g : Nat → Int32} (h : FD nv nc nf nl wk K y g) (e : ∀ l, 6 ≤ l → l < 16 → c l = y (10 + l)) (em : m 1 = g) (e25 : m 0 25 = -1) : BL nv nc nf nl wk c m := by
  obtain ⟨⟨⟨k1, k2, k3, k4⟩, ⟨w1, w2, w3⟩, m6, m7, mr⟩, ⟨v1, v2, v3, v4, v5, v6⟩, ⟨c1, c2, c3, c4, c5⟩, hs, ⟨f1, f2, f3, f4, f5⟩, ⟨n1, n2, n3, n4, n5⟩⟩ := h
  have e6 := e 6 (by decide) (by decide)
  have e7 := e 7 (by decide) (by decide)
  have e8 := e 8 (by decide) (by decide)
  have e9 := e 9 (by decide) (by decide)
  have e10 := e 10 (by decide) (by decide)
  have e11 := e 11 (by decide) (by decide)
  have e12 := e 12 (by decide) (by decide)
  have e13 := e 13 (by decide) (by decide)
  have e14 := e 14 (by decide) (by decide)
  have e15 := e 15 (by decide) (by decide)
  refine ⟨⟨by rw [e7]; exact v1, v2, by rw [e9]; exact c1, c2, by rw [e11]; exact f1, f2, by rw [e13]; exact n1, n2, by rw [e6]; exact w1, w3, fun i hi => by rw [e10]; exact (c5 i hi).1, fun i hi => by rw [e14]; exact ⟨(n5 i hi).1, (n5 i hi).2.1⟩⟩, fun i hi => ?_, ⟨fun v hv => by rw [e8]; exact v6 v hv, fun i hi => by rw [e10]; exact (c5 i hi).2, fun i hi => by rw [e12]; exact (f5 i hi).2.2, fun i hi => by rw [e14]; exact (n5 i hi).2.2, fun w hw => by rw [e15]; exact (hs w hw).2⟩, ⟨by rw [em]; exact v3, v2, by rw [em]; exact c3, c2, by rw [em]; exact f3, f2, by rw [em]; exact n3, n2, by rw [em]; exact w2, w3, fun i hi => by rw [em, ← c4 i hi 0 (by decide)]; exact (c5 i hi).1, fun i hi => by rw [em, ← n4 i hi 0 (by decide), ← n4 i hi 1 (by decide)]; exact ⟨(n5 i hi).1, (n5 i hi).2.1⟩⟩, ⟨fun v hv k hk => by rw [e8, em]; exact v4 v hv k hk.1, fun i hi k hk => by rw [e10, em]; exact c4 i hi k hk, fun i hi k hk => by rw [e12, em]; exact f4 i hi k hk, fun i hi k hk => by rw [e14, em]; exact n4 i hi k hk, fun w hw => by rw [e15, em]; exact (hs w hw).1, by rw [e6, em]; exact m7⟩, fun v hv => by rw [e8, em]; exact v4 v hv 1 (by decide), fun i hi => by rw [e12, em, (f5 i hi).2.1]; exact (f5 i hi).1, by rw [e6, em]; exact m6, by rw [e6]; exact mr, e25, ?_, ?_⟩
  · have e0 : c 12 (4 * i + 3) + 1 = 0 := by rw [e12, show y (10 + 12) (4 * i + 3) = -1 from (f5 i hi).1]; decide
    rw [tkn, e0]
    exact ⟨by decide, Nat.zero_le _⟩
  · rw [e6, em, show y (10 + 6) 5 = nI K from k1, w2, show (0 : Int32) = nI 0 from rfl, nI_ltI (by decide) (by omega), nI_ltI (by decide) (by omega)]
    exact k4
  · rw [e6, em, k2]; exact k1
/-- plain, on both sides -/
theorem plain_alike {L : Nat} {f : Nat → Int32} {c : CT} {N0 : Nat} (h1 : c 1 1 = nI L) (hL : L ≤ 1600) (hf : ∀ i, i ≤ 1600 → byF c i = f i) (hCa : CacheOk c N0) : ∃ t, rpP f L (L + 2) ((0, 0), fun _ => 0) t ∧ (plainA L c).1 = (if t.1.1 = 0 then t.2 4 else -4) ∧ (plainA L c).2 3 3 = t.1.1 ∧ (plainA L c).2 3 4 = (if t.1.1 = 0 then -1 else nI t.1.2) ∧ (plainA L c).2 1 1 = 0 ∧ (plainA L c).2 2 = c 2 ∧ (∀ l, 26 ≤ l → l ≠ 45 → (plainA L c).2 l = c l) ∧ ((t.1.1 = 0 ∧ (∀ N, CacheOk (plainA L c).2 N) ∧ ∃ nv nc nf nl wk, ∀ m1 : CT, m1 1 = t.2 → m1 0 25 = -1 → BL nv nc nf nl wk (plainA L c).2 m1) ∨ (¬ t.1.1 = 0 ∧ (∀ l, 6 ≤ l → l < 16 → (plainA L c).2 l = c l) ∧ CacheOk (plainA L c).2 N0)) := by
  obtain ⟨t, t1, t2, t3⟩ := reads_sim h1 hL hf
  refine ⟨t, t1, ?_⟩
  obtain ⟨y, ey⟩ : ∃ y, (readsF L c).2 = y := ⟨_, rfl⟩
  have ez : plainZ L c = put y 1 1 0 := by rw [plainZ, ey]
  rw [ey] at t3
  have zl : ∀ l, l ≠ 1 → put y 1 1 0 l = y l := fun l hl => put_ne hl
  rcases t2 with ⟨s0, x1, x3, x4, a, b, d, e, w, K, hF⟩ | ⟨s0, x1, x3, x4⟩
  · rw [ey] at x3 x4 hF
    have eA : plainA L c = (put y 1 1 0 16 5, forgetF (cpN (put y 1 1 0) (dra (put y 1 1 0)))) := by rw [plainA, x1, if_neg (by decide), ez]
    have fl : ∀ l, (l < 6 ∨ 16 ≤ l) → l ≠ 45 → forgetF (cpN (put y 1 1 0) (dra (put y 1 1 0))) l = put y 1 1 0 l := fun l hl h => by rw [forgetF, st1_ne h, cpN, if_neg (by omega)]
    have fn : ∀ l, 6 ≤ l → l < 16 → forgetF (cpN (put y 1 1 0) (dra (put y 1 1 0))) l = y (10 + l) := fun l h h2 => by
      rw [forgetF, st1_ne (by omega), cpN, if_pos ⟨h, h2⟩, dra, show 16 + (l - 6) = 10 + l by omega, zl _ (by omega)]
    have f45 : ∀ k, forgetF (cpN (put y 1 1 0) (dra (put y 1 1 0))) 45 k = 0 := fun k => by rw [forgetF, st1_eq]
    generalize forgetF (cpN (put y 1 1 0) (dra (put y 1 1 0))) = F9 at eA fl fn f45
    obtain ⟨A, hA⟩ : ∃ A, plainA L c = A := ⟨_, rfl⟩
    rw [hA] at eA ⊢
    subst eA
    rw [if_pos s0, if_pos s0]
    have q1 : put y 1 1 0 16 5 = t.2 4 := by rw [zl 16 (by decide), hF.1.1.1, hF.1.1.2.1]
    have q2 : F9 3 3 = t.1.1 := by rw [fl 3 (by omega) (by decide), zl 3 (by decide), s0]; exact x3
    have q3 : F9 3 4 = -1 := by rw [fl 3 (by omega) (by decide), zl 3 (by decide)]; exact x4
    have q4 : F9 1 1 = 0 := by rw [fl 1 (by omega) (by decide), put_at]
    have q5 : F9 2 = c 2 := by rw [fl 2 (by omega) (by decide), zl 2 (by decide)]; exact t3 2 (by decide) (by decide) (by decide) (by decide)
    have q6 : ∀ l, 26 ≤ l → l ≠ 45 → F9 l = c l := fun l hl h => by rw [fl l (by omega) h, zl l (by omega)]; exact t3 l (by omega) (by omega) (by omega) (by omega)
    exact ⟨q1, q2, q3, q4, q5, q6, Or.inl ⟨s0, fun N k _ hk => absurd (f45 k) hk, a, b, d, e, w, fun m1 em e25 => hF.bl fn em e25⟩⟩
  · rw [ey] at x3 x4
    have eA : plainA L c = (-4, put y 1 1 0) := by rw [plainA, x1, if_pos rfl, ez]
    rw [eA, if_neg s0, if_neg s0]
    have tl : ∀ l, l ≠ 1 → l ≠ 3 → l ≠ 4 → l ≠ 5 → (l < 16 ∨ 25 < l) → put y 1 1 0 l = c l := fun l a b d e h => (zl l a).trans (t3 l b d e h)
    refine ⟨rfl, (congrFun (zl 3 (by decide)) 3).trans x3, (congrFun (zl 3 (by decide)) 4).trans x4, (put_at : put y 1 1 0 1 1 = 0), tl 2 (by decide) (by decide) (by decide) (by decide) (by decide), fun l hl h => tl l (by omega) (by omega) (by omega) (by omega) (by omega), Or.inr ⟨s0, fun l hl h => tl l (by omega) (by omega) (by omega) (by omega) (by omega), fun k hk h45 => ?_⟩⟩
    have hE : EqP c (put y 1 1 0) := ⟨fun l a b _ => tl l (by omega) (by omega) (by omega) (by omega) (by omega), fun j _ => by rw [tl 12 (by decide) (by decide) (by decide) (by decide) (by decide)]⟩
    rw [BR_c hE, SH_c hE]
    have e := fun l (h : 26 ≤ l) => tl l (by omega) (by omega) (by omega) (by omega) (by omega)
    show put y 1 1 0 43 k = _ ∧ put y 1 1 0 44 k = _
    rw [e 43 (by decide), e 44 (by decide)]
    have h45' : put y 1 1 0 45 k ≠ 0 := h45
    rw [e 45 (by decide)] at h45'
    exact hCa k hk h45'