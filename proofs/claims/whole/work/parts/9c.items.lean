/-! one number, and a word with its number, of a LINE -/
theorem nuO_2 {f : Nat → Int32} {L p : Nat} {lo hi : Int32} : ((nuO f L lo hi p).1 = 0 → (nuO f L lo hi p).2 = nxP f L p) ∧ (¬ (nuO f L lo hi p).1 = 0 → (nuO f L lo hi p).2 = tkS f L p) := by
  unfold nuO
  split
  · exact ⟨fun z => absurd z (by decide : ¬ (1 : Int32) = 0), fun _ => rfl⟩
  · split
    · exact ⟨fun z => absurd z (by decide : ¬ (2 : Int32) = 0), fun _ => rfl⟩
    · exact ⟨fun _ => rfl, fun z => absurd rfl z⟩
theorem rl_nu {L p k jc : Nat} {f : Nat → Int32} {c : CT} {t lo hi : Int32} {xs : List (Option (Nat × Nat))} (h : CP L f p c) (el : leastF (stp L c) t (nI k) = lo) (eh : mostF (stp L c) t (nI k) = hi) (hlo : lo.toInt ≤ 99999) (hhi : hi.toInt < 99999) (ht : ¬ (t = 5 ∧ nI k = 1)) :
    ((nuO f L lo hi p).1 = 0 → rlL L t jc (none :: xs) k c = rlL L t jc xs (k + 1) (put (stp L c) 4 k (nuW f L p)) ∧ CP L f (nuO f L lo hi p).2 (put (stp L c) 4 k (nuW f L p))) ∧
    (¬ (nuO f L lo hi p).1 = 0 → ∃ y, rlL L t jc (none :: xs) k c = (false, y) ∧ y 3 3 = (nuO f L lo hi p).1 ∧ y 3 4 = nI (nuO f L lo hi p).2) := by
  obtain ⟨hP, -, -, e52, -⟩ := h.st
  have e := rl_n1 h el eh hlo hhi ht
  obtain ⟨n1, n2⟩ := nuO_2 (f := f) (L := L) (p := p) (lo := lo) (hi := hi)
  rw [rlL, e]
  constructor
  · intro z
    rw [n1 z, if_pos z]
    exact ⟨if_neg (by decide : ¬ (1 : Int32) = 0), hP.to (put_ne (by decide)) (put_ne (by decide)) (put_ne (by decide))⟩
  · intro z
    rw [n2 z, if_neg z]
    obtain ⟨q1, q2, -⟩ := fail_f (y := stp L c) (k := (nuO f L lo hi p).1)
    exact ⟨_, if_pos rfl, q1, q2.trans e52⟩
theorem rl_wd {L p k jr jc f0 t0 : Nat} {f : Nat → Int32} {c : CT} {t : Int32} {xs : List (Option (Nat × Nat))} (h : CP L f p c) (hS : SW jr jc f0 t0) (h60 : t0 < 100) :
    ((wdO f L jr p).1 = 0 → rlL L t jc (some (f0, t0) :: xs) k c = rlL L t jc xs k (stp L c) ∧ CP L f (wdO f L jr p).2 (stp L c)) ∧
    (¬ (wdO f L jr p).1 = 0 → ∃ y, rlL L t jc (some (f0, t0) :: xs) k c = (false, y) ∧ y 3 3 = (wdO f L jr p).1 ∧ y 3 4 = nI (wdO f L jr p).2) := by
  obtain ⟨hP, -, -, e52, -⟩ := h.st
  rw [rl_w1 h hS h60]
  unfold wdO
  by_cases w : wdB f L p jr = true
  · rw [if_pos w, if_pos w]
    exact ⟨fun _ => ⟨rfl, hP⟩, fun z => absurd rfl z⟩
  · rw [if_neg w, if_neg w]
    obtain ⟨q1, q2, -⟩ := fail_f (y := stp L c) (k := 1)
    exact ⟨fun z => absurd z (by decide : ¬ (1 : Int32) = 0), fun _ => ⟨_, rfl, q1, q2.trans e52⟩⟩