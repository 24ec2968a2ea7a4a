/-! one word, one number of a LINE, alike -/
/-- where the class stands: the tape as f, its place p -/
def CP (L : Nat) (f : Nat → Int32) (p : Nat) (c : CT) : Prop := c 1 1 = nI L ∧ L ≤ 1600 ∧ p ≤ L ∧ c 5 3 = nI p ∧ ∀ i, i ≤ 1600 → byF c i = f i
theorem skN_c {f f' : Nat → Int32} : ∀ k p, (∀ i, i < p + k → f i = f' i) → skN f k p = skN f' k p
  | 0, _, _ => rfl
  | k + 1, p, h => by rw [skN, skN, h p (by omega), skN_c k (p + 1) (fun i hi => h i (by omega))]
theorem wdN_c {f f' : Nat → Int32} : ∀ k p, (∀ i, i < p + k → f i = f' i) → wdN f k p = wdN f' k p
  | 0, _, _ => rfl
  | k + 1, p, h => by rw [wdN, wdN, h p (by omega), wdN_c k (p + 1) (fun i hi => h i (by omega))]
theorem dgN_c {f f' : Nat → Int32} : ∀ k p, (∀ i, i < p + k → f i = f' i) → dgN f k p = dgN f' k p
  | 0, _, _ => rfl
  | k + 1, p, h => by rw [dgN, dgN, h p (by omega), dgN_c k (p + 1) (fun i hi => h i (by omega))]
theorem vlN_c {f f' : Nat → Int32} {cap : Int32} : ∀ k p v, (∀ i, i < p + k → f i = f' i) → vlN f cap k p v = vlN f' cap k p v
  | 0, _, _, _ => rfl
  | k + 1, p, v, h => by rw [vlN, vlN, h p (by omega), vlN_c k (p + 1) _ (fun i hi => h i (by omega))]
theorem chP_c {f f' : Nat → Int32} {j s : Nat} : ∀ n, (∀ i, i < n → f (s + i) = f' (s + i)) → chP f j s n = chP f' j s n
  | 0, _ => rfl
  | n + 1, h => by rw [chP, chP, h n (by omega), chP_c n (fun i hi => h i (by omega))]
/-- only the tape's own bytes count -/
theorem tk_cong {f f' : Nat → Int32} {L p : Nat} (hL : L ≤ 1600) (hp : p ≤ L) (he : f L = -1) (h : ∀ i, i ≤ 1600 → f i = f' i) : tkS f L p = tkS f' L p ∧ tkK f (tkS f L p) = tkK f' (tkS f' L p) ∧ tkE f L (tkS f L p) = tkE f' L (tkS f' L p) ∧ (∀ cap, tkV f cap L (tkS f L p) = tkV f' cap L (tkS f' L p)) ∧ ∀ j, wdB f L p j = wdB f' L p j := by
  have e1 : tkS f L p = tkS f' L p := skN_c _ _ (fun i hi => h i (by omega))
  have hs := tkS_b (f := f) hp
  have ee := tkE_b (f := f) hs.2 he
  have hq := h (tkS f L p) (by omega)
  have e2 : tkK f (tkS f L p) = tkK f' (tkS f' L p) := by rw [← e1, tkK, tkK, hq]
  have e3 : tkE f L (tkS f L p) = tkE f' L (tkS f' L p) := by rw [← e1, tkE, tkE, hq, wdN_c _ _ (fun i hi => h i (by omega)), dgN_c _ _ (fun i hi => h i (by omega))]
  refine ⟨e1, e2, e3, fun cap => ?_, fun j => ?_⟩
  · rw [← e1, tkV, tkV, vlN_c _ _ _ (fun i hi => h i (by omega))]
  · rw [wdB, wdB, ← e2, ← e3, ← e1]
    by_cases z : tkE f L (tkS f L p) = tkS f L p + lenJ j
    · rw [chP_c _ (fun i hi => h _ (by omega))]
    · rw [decide_eq_false z, Bool.false_and, Bool.false_and]
theorem CP.pt {L p : Nat} {f : Nat → Int32} {c : CT} (h : CP L f p c) : PT L c := ⟨h.1, h.2.1, p, h.2.2.2.1, h.2.2.1⟩
theorem byF_to {c y : CT} (e1 : y 1 = c 1) (e2 : y 2 = c 2) : byF y = byF c := by
  funext i
  rw [byF, byF, atF, atF, e1, e2]
theorem CP.to {L p : Nat} {f : Nat → Int32} {c y : CT} (h : CP L f p c) (e1 : y 1 = c 1) (e2 : y 2 = c 2) (e5 : y 5 = c 5) : CP L f p y := by
  unfold CP at *
  rw [e1, e5, byF_to e1 e2]
  exact h
theorem CP.cg {L p : Nat} {f : Nat → Int32} {c : CT} (h : CP L f p c) : tkS (byF c) L p = tkS f L p ∧ tkK (byF c) (tkS (byF c) L p) = tkK f (tkS f L p) ∧ tkE (byF c) L (tkS (byF c) L p) = tkE f L (tkS f L p) ∧ (∀ cap, tkV (byF c) cap L (tkS (byF c) L p) = tkV f cap L (tkS f L p)) ∧ ∀ j, wdB (byF c) L p j = wdB f L p j := tk_cong h.2.1 h.2.2.1 (byF_L h.1 h.2.1) h.2.2.2.2
theorem CP.st {L p : Nat} {f : Nat → Int32} {c : CT} (h : CP L f p c) : CP L f (nxP f L p) (stp L c) ∧ TokAt c (stp L c) L p ∧ (∀ l, l ≠ 5 → stp L c l = c l) ∧ stp L c 5 2 = nI (tkS f L p) ∧ stp L c 5 1 = tkK f (tkS f L p) := by
  obtain ⟨g1, g2, g3, -, -⟩ := h.cg
  obtain ⟨h1, hL, hp, h3, hf⟩ := h
  obtain ⟨T, P, hl, -⟩ := stp_I h1 hL h3 hp
  have hs := tkS_b (f := byF c) hp
  have he := tkE_b (f := byF c) hs.2 (byF_L h1 hL)
  have h53 := T.2.2.1
  have h52 := T.2.1
  have h51 := T.1
  rw [g3] at h53
  rw [g2] at h51
  rw [g3] at he
  rw [g1] at h52
  exact ⟨⟨by rw [hl 1 (by decide)]; exact h1, hL, he.2, h53, by rw [byF_to (hl 1 (by decide)) (hl 2 (by decide))]; exact hf⟩, T, hl, h52, h51⟩
theorem fail_f {y : CT} {k : Int32} : failF y k 3 3 = k ∧ failF y k 3 4 = y 5 2 ∧ ∀ l, l ≠ 3 → failF y k l = y l := ⟨by rw [failF, put_no (by decide), put_at], by rw [failF, put_at], fun l hl => by rw [failF, put_ne hl, put_ne hl]⟩
/-- a word -/
theorem rl_w1 {L p jr jc f0 t0 k : Nat} {f : Nat → Int32} {c : CT} {t : Int32} {xs : List (Option (Nat × Nat))} (h : CP L f p c) (hS : SW jr jc f0 t0) (h60 : t0 < 100) : rlL L t jc (some (f0, t0) :: xs) k c = if wdB f L p jr = true then rlL L t jc xs k (stp L c) else (false, failF (stp L c) 1) := by
  obtain ⟨-, T, -⟩ := h.st
  have e := is_eq T h.1 h.2.1 h.2.2.1 hS h60
  rw [h.cg.2.2.2.2] at e
  rw [rlL]
  by_cases w : wdB f L p jr = true
  · rw [if_pos w, if_neg (e.mpr w)]
  · rw [if_neg w, if_pos (Decidable.not_not.mp (fun z => w (e.mp z)))]
/-- a number: what is read is the same, below 99999 -/
theorem nu_c {f : Nat → Int32} {L p : Nat} {v lo hi : Int32} (hv : v = tkV f 1000000 L (tkS f L p)) (hlo : lo.toInt ≤ 99999) (hhi : hi.toInt < 99999) : (nuW f L p < lo ↔ v < lo) ∧ (hi < nuW f L p ↔ hi < v) ∧ (¬ hi < v → nuW f L p = v) := by
  obtain ⟨a, ha, e1, e2⟩ := tkV_N (f := f) (L := L) (q := tkS f L p)
  rw [hv, nuW, e1, e2]
  refine ⟨?_, ?_, ?_⟩
  · rw [Int32.lt_iff_toInt_lt, Int32.lt_iff_toInt_lt, nI_toInt (by omega), nI_toInt (by omega)]; omega
  · rw [Int32.lt_iff_toInt_lt, Int32.lt_iff_toInt_lt, nI_toInt (by omega), nI_toInt (by omega)]; omega
  · intro h
    rw [Int32.lt_iff_toInt_lt, nI_toInt (by omega)] at h
    congr 1
    omega
theorem rl_n1 {L p k : Nat} {f : Nat → Int32} {c : CT} {t lo hi : Int32} (h : CP L f p c) (el : leastF (stp L c) t (nI k) = lo) (eh : mostF (stp L c) t (nI k) = hi) (hlo : lo.toInt ≤ 99999) (hhi : hi.toInt < 99999) (ht : ¬ (t = 5 ∧ nI k = 1)) : rnF t k (stp L c) = if (nuO f L lo hi p).1 = 0 then (1, put (stp L c) 4 k (nuW f L p)) else (0, failF (stp L c) (nuO f L lo hi p).1) := by
  obtain ⟨-, T, -, -, e51⟩ := h.st
  have e54 := T.2.2.2.1
  rw [h.cg.2.1, h.cg.2.2.2.1] at e54
  rw [rnF, el, eh, e51, nuO]
  by_cases a1 : tkK f (tkS f L p) = 2
  · obtain ⟨c1, c2, c3⟩ := nu_c (f := f) (L := L) (p := p) (e54 a1) hlo hhi
    have a2 : ¬ ¬ tkK f (tkS f L p) = 2 := fun w => w a1
    simp only [if_neg a2]
    by_cases b1 : stp L c 5 4 < lo
    · rw [if_pos b1, if_pos (Or.inl (c1.mpr b1)), if_neg (by decide : ¬ (2 : Int32) = 0)]
    · rw [if_neg b1]
      by_cases b2 : hi < stp L c 5 4
      · rw [if_pos b2, if_pos (Or.inr (c2.mpr b2)), if_neg (by decide : ¬ (2 : Int32) = 0)]
      · have b3 : ¬ (nuW f L p < lo ∨ hi < nuW f L p) := fun w => w.elim (fun q => b1 (c1.mp q)) (fun q => b2 (c2.mp q))
        have b4 : ¬ (t = 5 ∧ nI k = 1 ∧ stp L c 5 4 = stp L c 4 0) := fun w => ht ⟨w.1, w.2.1⟩
        rw [if_neg b2]
        simp only [if_neg b3]
        rw [if_neg b4, if_pos trivial, c3 b2]
  · simp only [if_pos a1]
    rw [if_neg (by decide : ¬ (1 : Int32) = 0)]