/-! one word, one number: the reference goes on as the class does -/
theorem thn_bad {o : Int32 × Nat} {g : Nat → Int32 × Nat} (h : ¬ o.1 = 0) : thn o g = o := if_neg h
theorem tdS_bad {f : Nat → Int32} {L j i : Nat} {lo hi : Int32} {s : RS} {o : Int32 × Nat} (h : s.1 = o) (ho : ¬ o.1 = 0) : (tdS f L j lo hi i s).1 = o := by
  show thn (thn s.1 (wdO f L j)) (nuO f L lo hi) = o
  rw [h, thn_bad ho, thn_bad ho]
theorem nuS_bad {f : Nat → Int32} {L i : Nat} {lo hi : Int32} {s : RS} {o : Int32 × Nat} (h : s.1 = o) (ho : ¬ o.1 = 0) : (nuS f L lo hi i s).1 = o := by
  show thn s.1 (nuO f L lo hi) = o
  rw [h, thn_bad ho]
theorem in_bad {i : Nat} {s : RS} {o : Int32 × Nat} (h : s.1 = o) : (inS i s).1 = o := h
theorem st_bad {i : Nat} {v : Int32} {s : RS} {o : Int32 × Nat} (h : s.1 = o) : (stS2 i v s).1 = o := h
theorem put_s {c : CT} {k i : Nat} {v : Int32} : put c k i v k = upd (c k) i v := by funext j; simp [put, upd]
theorem leastF_to {c y : CT} {t k : Int32} (h : y 4 = c 4) : leastF y t k = leastF c t k := by unfold leastF; rw [h]
theorem mostF_to {c y : CT} {t k : Int32} (h4 : y 4 = c 4) (h16 : y 16 = c 16) (h17 : y 17 = c 17) : mostF y t k = mostF c t k := by unfold mostF most0 most1 most2 most3 most4 most5 most6 lastW lastV; rw [h4, h16, h17]
theorem nxP_b {L p : Nat} {f : Nat → Int32} {c : CT} (h : CP L f p c) : p ≤ tkS f L p ∧ tkS f L p ≤ nxP f L p ∧ nxP f L p ≤ L := by
  obtain ⟨h1, hL, hp, -, hf⟩ := h
  have hs := tkS_b (f := f) hp
  have he := tkE_b (f := f) hs.2 (by rw [← hf L hL]; exact byF_L h1 hL)
  exact ⟨hs.1, he⟩
/-- a number went well -/
def OKs (L : Nat) (f : Nat → Int32) (p q k : Nat) (v lo hi : Int32) (c y : CT) : Prop := CP L f q y ∧ (∀ l, l ≠ 4 → l ≠ 5 → y l = c l) ∧ y 4 = upd (c 4) k v ∧ lo.toInt ≤ v.toInt ∧ v.toInt ≤ hi.toInt ∧ p ≤ q
/-- the class stopped with the fault o -/
def BDs (R : Bool × CT) (o : Int32 × Nat) : Prop := ¬ o.1 = 0 ∧ ∃ y, R = (false, y) ∧ y 3 3 = o.1 ∧ y 3 4 = nI o.2
theorem BDs.to {R R' : Bool × CT} {o o' : Int32 × Nat} (h : BDs R o) (e : R' = R) (e2 : o' = o) : BDs R' o' := by rw [e, e2]; exact h
theorem nu_ok {f : Nat → Int32} {L p : Nat} {lo hi : Int32} (h : (nuO f L lo hi p).1 = 0) : lo.toInt ≤ (nuW f L p).toInt ∧ (nuW f L p).toInt ≤ hi.toInt := by
  unfold nuO at h
  split at h
  · exact absurd h (by decide : ¬ (1 : Int32) = 0)
  · split at h
    · exact absurd h (by decide : ¬ (2 : Int32) = 0)
    · next z => exact ⟨Int.not_lt.mp (fun w => z (Or.inl (Int32.lt_iff_toInt_lt.mpr w))), Int.not_lt.mp (fun w => z (Or.inr (Int32.lt_iff_toInt_lt.mpr w)))⟩
theorem nu_o {L p k jc : Nat} {f : Nat → Int32} {c : CT} {t lo hi : Int32} {xs : List (Option (Nat × Nat))} (h : CP L f p c) (el : leastF c t (nI k) = lo) (eh : mostF c t (nI k) = hi) (hlo : lo.toInt ≤ 99999) (hhi : hi.toInt < 99999) (ht : ¬ (t = 5 ∧ nI k = 1)) :
    (∃ v q y, nuO f L lo hi p = (0, q) ∧ nuW f L p = v ∧ rlL L t jc (none :: xs) k c = rlL L t jc xs (k + 1) y ∧ OKs L f p q k v lo hi c y) ∨ ∃ o, nuO f L lo hi p = o ∧ BDs (rlL L t jc (none :: xs) k c) o := by
  obtain ⟨hP, -, sl, -, -⟩ := h.st
  obtain ⟨g1, g2⟩ := rl_nu (jc := jc) (xs := xs) h ((leastF_to (sl 4 (by decide))).trans el) ((mostF_to (sl 4 (by decide)) (sl 16 (by decide)) (sl 17 (by decide))).trans eh) hlo hhi ht
  by_cases z : (nuO f L lo hi p).1 = 0
  · obtain ⟨r, P⟩ := g1 z
    have hb := nxP_b h
    refine Or.inl ⟨_, (nuO f L lo hi p).2, _, ?_, rfl, r, P, fun l h4 h5 => ?_, ?_, (nu_ok z).1, (nu_ok z).2, ?_⟩
    · exact Prod.ext z rfl
    · rw [put_ne h4]; exact sl l h5
    · rw [put_s, sl 4 (by decide)]
    · rw [nuO_2.1 z]; omega
  · exact Or.inr ⟨_, rfl, z, g2 z⟩
theorem nu_r {L p k jc i : Nat} {f g : Nat → Int32} {c : CT} {t lo hi : Int32} {xs : List (Option (Nat × Nat))} (h : CP L f p c) (el : leastF c t (nI k) = lo) (eh : mostF c t (nI k) = hi) (hlo : lo.toInt ≤ 99999) (hhi : hi.toInt < 99999) (ht : ¬ (t = 5 ∧ nI k = 1)) :
    (∃ v q y, nuS f L lo hi i ((0, p), g) = ((0, q), upd g i v) ∧ rlL L t jc (none :: xs) k c = rlL L t jc xs (k + 1) y ∧ OKs L f p q k v lo hi c y) ∨ ∃ o, (nuS f L lo hi i ((0, p), g)).1 = o ∧ BDs (rlL L t jc (none :: xs) k c) o := by
  have e : thn (0, p) (nuO f L lo hi) = nuO f L lo hi p := if_pos rfl
  rcases nu_o (jc := jc) (xs := xs) h el eh hlo hhi ht with ⟨v, q, y, e1, e2, r, K⟩ | ⟨o, e1, B⟩
  · refine Or.inl ⟨v, q, y, ?_, r, K⟩
    show (thn (0, p) (nuO f L lo hi), upd g i (if (thn (0, p) (nuO f L lo hi)).1 = 0 then nuW f L p else 0)) = _
    rw [e, e1, if_pos rfl, e2]
  · exact Or.inr ⟨o, e.trans e1, B⟩
theorem wd_o {L p k jr jc f0 t0 : Nat} {f : Nat → Int32} {c : CT} {t : Int32} {xs : List (Option (Nat × Nat))} (h : CP L f p c) (hS : SW jr jc f0 t0) (h60 : t0 < 100) :
    (∃ q y, wdO f L jr p = (0, q) ∧ rlL L t jc (some (f0, t0) :: xs) k c = rlL L t jc xs k y ∧ CP L f q y ∧ (∀ l, l ≠ 5 → y l = c l) ∧ p ≤ q) ∨ ∃ o, wdO f L jr p = o ∧ BDs (rlL L t jc (some (f0, t0) :: xs) k c) o := by
  obtain ⟨hP, -, sl, -, -⟩ := h.st
  obtain ⟨g1, g2⟩ := rl_wd (t := t) (k := k) (xs := xs) h hS h60
  by_cases z : (wdO f L jr p).1 = 0
  · obtain ⟨r, P⟩ := g1 z
    have hb := nxP_b h
    refine Or.inl ⟨(wdO f L jr p).2, _, Prod.ext z rfl, r, P, sl, ?_⟩
    unfold wdO
    split
    · show p ≤ nxP f L p; omega
    · exact hb.1
  · exact Or.inr ⟨_, rfl, z, g2 z⟩
theorem td_r {L p k jr jc f0 t0 i : Nat} {f g : Nat → Int32} {c : CT} {t lo hi : Int32} {xs : List (Option (Nat × Nat))} (h : CP L f p c) (hS : SW jr jc f0 t0) (h60 : t0 < 100) (el : leastF c t (nI k) = lo) (eh : mostF c t (nI k) = hi) (hlo : lo.toInt ≤ 99999) (hhi : hi.toInt < 99999) (ht : ¬ (t = 5 ∧ nI k = 1)) :
    (∃ v q y, tdS f L jr lo hi i ((0, p), g) = ((0, q), upd g i v) ∧ rlL L t jc (some (f0, t0) :: none :: xs) k c = rlL L t jc xs (k + 1) y ∧ OKs L f p q k v lo hi c y) ∨ ∃ o, (tdS f L jr lo hi i ((0, p), g)).1 = o ∧ BDs (rlL L t jc (some (f0, t0) :: none :: xs) k c) o := by
  have e : thn (0, p) (wdO f L jr) = wdO f L jr p := if_pos rfl
  have eT : tdS f L jr lo hi i ((0, p), g) = (thn (wdO f L jr p) (nuO f L lo hi), upd g i (if (thn (wdO f L jr p) (nuO f L lo hi)).1 = 0 then nuW f L (wdO f L jr p).2 else 0)) := by
    show (thn (thn (0, p) (wdO f L jr)) (nuO f L lo hi), upd g i (if (thn (thn (0, p) (wdO f L jr)) (nuO f L lo hi)).1 = 0 then nuW f L (thn (0, p) (wdO f L jr)).2 else 0)) = _
    rw [e]
  rcases wd_o (t := t) (k := k) (xs := none :: xs) h hS h60 with ⟨q1, y1, w1, r1, P1, l1, b1⟩ | ⟨o, w1, B⟩
  · have e2 : thn (0, q1) (nuO f L lo hi) = nuO f L lo hi q1 := if_pos rfl
    rcases nu_o (jc := jc) (xs := xs) P1 ((leastF_to (l1 4 (by decide))).trans el) ((mostF_to (l1 4 (by decide)) (l1 16 (by decide)) (l1 17 (by decide))).trans eh) hlo hhi ht with ⟨v, q, y, n1, n2, r, K1, K2, K3, K4, K5, K6⟩ | ⟨o, n1, B⟩
    · refine Or.inl ⟨v, q, y, ?_, r1.trans r, K1, fun l a b => (K2 l a b).trans (l1 l b), by rw [K3, l1 4 (by decide)], K4, K5, by omega⟩
      rw [eT, w1, e2, n1, if_pos rfl, n2]
    · refine Or.inr ⟨o, ?_, B.to r1 rfl⟩
      rw [eT, w1, e2]; exact n1
  · refine Or.inr ⟨o, ?_, B⟩
    rw [eT, w1]
    exact thn_bad B.1
/-- a loan's second number: not the first -/
theorem lo_r {L p : Nat} {f : Nat → Int32} {c : CT} {hi v0 : Int32} {xs : List (Option (Nat × Nat))} (h : CP L f p c) (eh : mostF c (nI 5) (nI 1) = hi) (hhi : hi.toInt < 99999) (e0 : c 4 0 = v0) (hv : 0 ≤ v0.toInt ∧ v0.toInt ≤ hi.toInt) :
    ((tkK f (tkS f L p) = 2 ∧ nuW f L p = v0) ∧ BDs (rlL L (nI 5) 5 (none :: xs) 1 c) (2, tkS f L p)) ∨
    (¬ (tkK f (tkS f L p) = 2 ∧ nuW f L p = v0) ∧ ((∃ v q y, nuO f L 0 hi p = (0, q) ∧ nuW f L p = v ∧ v ≠ v0 ∧ rlL L (nI 5) 5 (none :: xs) 1 c = rlL L (nI 5) 5 xs 2 y ∧ OKs L f p q 1 v 0 hi c y) ∨ ∃ o, nuO f L 0 hi p = o ∧ BDs (rlL L (nI 5) 5 (none :: xs) 1 c) o)) := by
  obtain ⟨hP, T, sl, e52, e51⟩ := h.st
  have el : leastF (stp L c) (nI 5) (nI 1) = 0 := by rw [leastF, if_neg (by decide), if_neg (by decide), if_pos (by decide), if_neg (by decide), if_neg (by decide)]
  have eh2 : mostF (stp L c) (nI 5) (nI 1) = hi := (mostF_to (sl 4 (by decide)) (sl 16 (by decide)) (sl 17 (by decide))).trans eh
  have s4 : stp L c 4 0 = v0 := by rw [sl 4 (by decide)]; exact e0
  have e54 := T.2.2.2.1
  rw [h.cg.2.1, h.cg.2.2.2.1] at e54
  obtain ⟨f1, f2, -⟩ := fail_f (y := stp L c) (k := 2)
  obtain ⟨f3, f4, -⟩ := fail_f (y := stp L c) (k := 1)
  have hb := nxP_b h
  have rl : rlL L (nI 5) 5 (none :: xs) 1 c = if (rnF (nI 5) 1 (stp L c)).1 = 0 then (false, (rnF (nI 5) 1 (stp L c)).2) else rlL L (nI 5) 5 xs 2 (rnF (nI 5) 1 (stp L c)).2 := by rw [rlL]
  by_cases a1 : tkK f (tkS f L p) = 2
  · obtain ⟨c1, c2, c3⟩ := nu_c (f := f) (L := L) (p := p) (lo := 0) (hi := hi) (e54 a1) (by decide) hhi
    have rn : rnF (nI 5) 1 (stp L c) = if stp L c 5 4 < 0 then (0, failF (stp L c) 2) else if hi < stp L c 5 4 then (0, failF (stp L c) 2) else if stp L c 5 4 = v0 then (0, failF (stp L c) 2) else (1, put (stp L c) 4 1 (stp L c 5 4)) := by
      rw [rnF, el, eh2, e51, if_neg (fun w => w a1), s4]
      by_cases b1 : stp L c 5 4 < 0
      · rw [if_pos b1, if_pos b1]
      · rw [if_neg b1, if_neg b1]
        by_cases b2 : hi < stp L c 5 4
        · rw [if_pos b2, if_pos b2]
        · rw [if_neg b2, if_neg b2]
          by_cases b3 : stp L c 5 4 = v0
          · rw [if_pos b3, if_pos ⟨by decide, by decide, b3⟩]
          · rw [if_neg b3, if_neg (fun w => b3 w.2.2)]
    have nu : nuO f L 0 hi p = if nuW f L p < 0 ∨ hi < nuW f L p then (2, tkS f L p) else (0, nxP f L p) := by rw [nuO, if_neg (fun w => w a1)]
    have fl : (rnF (nI 5) 1 (stp L c)) = (0, failF (stp L c) 2) → BDs (rlL L (nI 5) 5 (none :: xs) 1 c) (2, tkS f L p) := fun w => by
      refine ⟨(by decide : ¬ (2 : Int32) = 0), _, ?_, f1, f2.trans e52⟩
      rw [rl, w, if_pos rfl]
    by_cases b0 : nuW f L p = v0
    · refine Or.inl ⟨⟨a1, b0⟩, fl ?_⟩
      rw [rn]
      by_cases b1 : stp L c 5 4 < 0
      · rw [if_pos b1]
      · rw [if_neg b1]
        by_cases b2 : hi < stp L c 5 4
        · rw [if_pos b2]
        · rw [if_neg b2, if_pos (by rw [← c3 b2]; exact b0)]
    · refine Or.inr ⟨fun w => b0 w.2, ?_⟩
      by_cases b1 : stp L c 5 4 < 0
      · exact Or.inr ⟨_, rfl, by rw [nu, if_pos (Or.inl (c1.mpr b1))]; exact fl (by rw [rn, if_pos b1])⟩
      · by_cases b2 : hi < stp L c 5 4
        · exact Or.inr ⟨_, rfl, by rw [nu, if_pos (Or.inr (c2.mpr b2))]; exact fl (by rw [rn, if_neg b1, if_pos b2])⟩
        · have b3 : ¬ (nuW f L p < 0 ∨ hi < nuW f L p) := fun w => w.elim (fun q => b1 (c1.mp q)) (fun q => b2 (c2.mp q))
          have e2 := c3 b2
          have b4 : ¬ stp L c 5 4 = v0 := by rw [← e2]; exact b0
          refine Or.inl ⟨_, nxP f L p, put (stp L c) 4 1 (stp L c 5 4), by rw [nu, if_neg b3], rfl, b0, ?_, hP.to (put_ne (by decide)) (put_ne (by decide)) (put_ne (by decide)), fun l h4 h5 => ?_, ?_, ?_⟩
          · rw [rl, rn, if_neg b1, if_neg b2, if_neg b4]; exact if_neg (by decide : ¬ (1 : Int32) = 0)
          · rw [put_ne h4]; exact sl l h5
          · rw [put_s, sl 4 (by decide), e2]
          · have := nu_ok (f := f) (L := L) (p := p) (lo := 0) (hi := hi) (by rw [nu, if_neg b3])
            exact ⟨this.1, this.2, by omega⟩
  · refine Or.inr ⟨fun w => a1 w.1, Or.inr ⟨_, rfl, ?_⟩⟩
    rw [nuO, if_pos a1]
    refine ⟨(by decide : ¬ (1 : Int32) = 0), _, ?_, f3, f4.trans e52⟩
    rw [rl, rnF, e51, if_pos a1, if_pos rfl]