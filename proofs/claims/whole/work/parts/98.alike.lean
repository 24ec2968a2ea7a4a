/-! words and numbers, alike -/
def SW (jr jc f0 t0 : Nat) : Prop := t0 = f0 + lenJ jr ∧ ∀ i, i < lenJ jr → chJ jr i = chJ jc (f0 + i)
theorem chP_all {f : Nat → Int32} {j s : Nat} : ∀ n, chP f j s n = true ↔ ∀ k, k < n → f (s + k) = chJ j k
  | 0 => ⟨fun _ k h => absurd h (by omega), fun _ => rfl⟩
  | n + 1 => by
    rw [chP, Bool.and_eq_true, chP_all n, decide_eq_true_eq]
    constructor
    · rintro ⟨h1, h2⟩ k hk
      by_cases e : k = n
      · subst e; exact h2
      · exact h1 k (by omega)
    · intro h
      exact ⟨fun k hk => h k (by omega), h n (by omega)⟩
theorem iwF_all {c : CT} {j f : Nat} : ∀ k i, ¬ iwF c j f k i = 0 ↔ ∀ a, a < k → chJ j (i + a) = atF c (c 5 2 + nI (i + a) - nI f)
  | 0, i => ⟨fun _ a h => absurd h (by omega), fun _ => by rw [iwF]; decide⟩
  | k + 1, i => by
    rw [iwF]
    by_cases h : chJ j i = atF c (c 5 2 + nI i - nI f)
    · rw [if_pos h, iwF_all k (i + 1)]
      constructor
      · intro q a ha
        by_cases e : a = 0
        · subst e; exact h
        · have := q (a - 1) (by omega)
          rw [show i + 1 + (a - 1) = i + a by omega] at this
          exact this
      · intro q a ha
        have := q (a + 1) (by omega)
        rw [show i + (a + 1) = i + 1 + a by omega] at this
        exact this
    · rw [if_neg h]
      exact ⟨fun z => absurd rfl z, fun q => absurd (q 0 (by omega)) h⟩
theorem is_eq {c y : CT} {L p jr jc f0 t0 : Nat} (T : TokAt c y L p) (h1 : c 1 1 = nI L) (hL : L ≤ 1600) (hp : p ≤ L) (hS : SW jr jc f0 t0) (h60 : t0 < 100) : ¬ isWF y jc f0 t0 = 0 ↔ wdB (byF c) L p jr = true := by
  obtain ⟨k1, k2, k3, k4, kl⟩ := T
  have hs := tkS_b (f := byF c) hp
  have he := tkE_b (f := byF c) hs.2 (byF_L h1 hL)
  obtain ⟨e0, hch⟩ := hS
  have hat : ∀ i, atF y (nI i) = byF c i := fun i => by rw [byF, atF, atF, kl 1 (by decide), kl 2 (by decide)]
  rw [wdB, isWF, k1]
  generalize tkS (byF c) L p = s at k2 k3 hs he ⊢
  generalize tkE (byF c) L s = e at k3 he ⊢
  by_cases a1 : tkK (byF c) s = 1
  · rw [if_pos a1, decide_eq_true a1, Bool.true_and, k3, k2, nI_subN he.1, nI_subN (show f0 ≤ t0 by omega)]
    by_cases a2 : e = s + lenJ jr
    · rw [if_pos (congrArg nI (show e - s = t0 - f0 by omega)), decide_eq_true a2, Bool.true_and, iwF_all, chP_all, k2]
      have key : ∀ a, a < lenJ jr → (chJ jc (f0 + a) = atF y (nI s + nI (f0 + a) - nI f0) ↔ byF c (s + a) = chJ jr a) := fun a ha => by
        rw [nI_add, nI_subN (by omega), show s + (f0 + a) - f0 = s + a by omega, hat, hch a ha]
        exact eq_comm
      constructor
      · intro h a ha; exact (key a ha).mp (h a (by omega))
      · intro h a ha; exact (key a (by omega)).mpr (h a (by omega))
    · rw [if_neg (fun w => a2 (by have := (nI_eq (by omega) (by omega)).mp w; omega)), decide_eq_false a2, Bool.false_and]
      exact ⟨fun z => absurd rfl z, fun z => Bool.noConfusion z⟩
  · rw [if_neg a1, decide_eq_false a1, Bool.false_and]
    exact ⟨fun z => absurd rfl z, fun z => Bool.noConfusion z⟩
theorem mn_nI {c x : Nat} (hc : c < 2 ^ 31) (hx : x < 2 ^ 31) : mn (nI c) (nI x) = nI (min x c) := by
  unfold mn
  by_cases h : x < c
  · rw [if_pos (nI_lt h hc), Nat.min_eq_left (by omega)]
  · rw [if_neg (nI_nlt (by omega) hx), Nat.min_eq_right (by omega)]
theorem dg_N {v : Int32} (h : ¬ (v < 48 ∨ 57 < v)) : ∃ d, 48 ≤ d ∧ d ≤ 57 ∧ v = nI d := by
  have h1 : ¬ v.toInt < 48 := fun z => h (Or.inl (Int32.lt_iff_toInt_lt.mpr z))
  have h2 : ¬ 57 < v.toInt := fun z => h (Or.inr (Int32.lt_iff_toInt_lt.mpr z))
  refine ⟨v.toInt.toNat, by omega, by omega, Int32.toInt_inj.mp ?_⟩
  rw [nI_toInt (by omega)]
  omega
theorem vl_N {f : Nat → Int32} : ∀ k p a, a ≤ 1000000 → ∃ a2, a2 ≤ 1000000 ∧ vlN f 1000000 k p (nI a) = nI a2 ∧ vlN f 99999 k p (nI (min a 99999)) = nI (min a2 99999)
  | 0, p, a, h => ⟨a, h, rfl, rfl⟩
  | k + 1, p, a, h => by
    rw [vlN, vlN]
    by_cases hd : f p < 48 ∨ 57 < f p
    · rw [if_pos hd, if_pos hd]; exact ⟨a, h, rfl, rfl⟩
    · rw [if_neg hd, if_neg hd]
      obtain ⟨d, d1, d2, e⟩ := dg_N hd
      have st : ∀ x, x ≤ 1000000 → nI x * 10 + f p - 48 = nI (x * 10 + d - 48) := fun x hx => by
        rw [e, show (10 : Int32) = nI 10 from rfl, show (48 : Int32) = nI 48 from rfl, pk_mul, nI_add, nI_subN (by omega)]
      rw [st a h, st (min a 99999) (by omega), show (1000000 : Int32) = nI 1000000 from rfl, show (99999 : Int32) = nI 99999 from rfl, mn_nI (by decide) (by omega), mn_nI (by decide) (by omega)]
      obtain ⟨a2, q1, q2, q3⟩ := vl_N k (p + 1) (min (a * 10 + d - 48) 1000000) (by omega)
      refine ⟨a2, q1, q2, ?_⟩
      rw [← q3]
      congr 2
      omega
theorem tkV_N {f : Nat → Int32} {L q : Nat} : ∃ a, a ≤ 1000000 ∧ tkV f 1000000 L q = nI a ∧ tkV f 99999 L q = nI (min a 99999) := vl_N (L - q) q 0 (by decide)