/-! WHAT THE YEAR HANGS ON: the PLAIN (its TAKERS apart), the TAKERS of the YEAR, and what it has done so far (but not the note of waters) -/
def EqP (c c' : CT) : Prop := (∀ l, 6 ≤ l → l ≤ 15 → l ≠ 12 → c' l = c l) ∧ ∀ j, j % 4 ≠ 3 → c' 12 j = c 12 j
def EqY (c c' : CT) : Prop := EqP c c' ∧ (∀ l, 29 ≤ l → l ≤ 41 → l ≠ 31 → c' l = c l) ∧ (c' 28 2 = c 28 2 ∧ c' 28 3 = c 28 3 ∧ c' 28 16 = c 28 16 ∧ c' 28 17 = c 28 17 ∧ c' 28 18 = c 28 18 ∧ c' 28 19 = c 28 19)
theorem EqP.rf {c : CT} : EqP c c := ⟨fun _ _ _ _ => rfl, fun _ _ => rfl⟩
theorem EqP.of_same {c c' : CT} (h : ∀ l, l ≤ 15 → c' l = c l) : EqP c c' := ⟨fun l _ h2 _ => h l h2, fun j _ => by rw [h 12 (by decide)]⟩
theorem EqP.tr {a b c : CT} (h : EqP a b) (h2 : EqP b c) : EqP a c := ⟨fun l x y z => (h2.1 l x y z).trans (h.1 l x y z), fun j hj => (h2.2 j hj).trans (h.2 j hj)⟩
theorem EqP.sy {a b : CT} (h : EqP a b) : EqP b a := ⟨fun l x y z => (h.1 l x y z).symm, fun j hj => (h.2 j hj).symm⟩
theorem EqP.put {c c' : CT} {k i : Nat} {v v' : Int32} (h : EqP c c') (hk : 15 < k) : EqP (put c k i v) (put c' k i v') :=
  ⟨fun l a b z => by rw [put_ne (by omega), put_ne (by omega)]; exact h.1 l a b z, fun j hj => by rw [put_ne (by omega), put_ne (by omega)]; exact h.2 j hj⟩
theorem put_cong {c c' : CT} {k l i : Nat} {v : Int32} (h : c' l = c l) : (_root_.Jvm.Pilot.@@N@@.put c' k i v) l = (_root_.Jvm.Pilot.@@N@@.put c k i v) l := by
  simp only [_root_.Jvm.Pilot.@@N@@.put]
  by_cases e : l = k
  · subst e; simp [h]
  · simp [e, h]
theorem put_cong2 {c c' : CT} {k l i j : Nat} {v : Int32} (h : c' l j = c l j) : (_root_.Jvm.Pilot.@@N@@.put c' k i v) l j = (_root_.Jvm.Pilot.@@N@@.put c k i v) l j := by
  simp only [_root_.Jvm.Pilot.@@N@@.put]
  by_cases e : l = k
  · subst e
    by_cases f : j = i <;> simp [f, h]
  · simp [e, h]
theorem EqY.put {c c' : CT} {k i : Nat} {v : Int32} (h : EqY c c') (hk : 15 < k) : EqY (put c k i v) (put c' k i v) :=
  ⟨h.1.put hk, fun l a b z => put_cong (h.2.1 l a b z), put_cong2 h.2.2.1, put_cong2 h.2.2.2.1, put_cong2 h.2.2.2.2.1, put_cong2 h.2.2.2.2.2.1, put_cong2 h.2.2.2.2.2.2.1, put_cong2 h.2.2.2.2.2.2.2⟩
theorem EqY.roomF {c c' : CT} (h : EqY c c') (v : Nat) : roomF c' v = roomF c v := by
  unfold Jvm.Pilot.@@N@@.roomF
  rw [h.1.1 8 (by decide) (by decide) (by decide), h.2.1 30 (by decide) (by decide) (by decide)]
theorem EqY.moreF {c c' : CT} (h : EqY c c') (x : Int32) : moreF c' x = moreF c x := by
  unfold Jvm.Pilot.@@N@@.moreF
  rw [h.2.2.1]
theorem EqY.noteF {c c' : CT} (h : EqY c c') (w : Int32) : EqY (noteF w c) (noteF w c') := by
  unfold Jvm.Pilot.@@N@@.noteF
  rw [h.2.2.2.2.2.2.2]
  split
  · exact h.put (by decide)
  · exact h
theorem EqY.lab {c c' : CT} (h : EqY c c') {l : Nat} (hl : (6 ≤ l ∧ l ≤ 15 ∧ l ≠ 12) ∨ (29 ≤ l ∧ l ≤ 41 ∧ l ≠ 31)) : c' l = c l := by
  rcases hl with ⟨a, b, z⟩ | ⟨a, b, z⟩
  · exact h.1.1 l a b z
  · exact h.2.1 l a b z
theorem EqY.rd {c c' : CT} (h : EqY c c') {l : Nat} (j : Nat) (hl : (6 ≤ l ∧ l ≤ 15 ∧ l ≠ 12) ∨ (29 ≤ l ∧ l ≤ 41 ∧ l ≠ 31)) : c' l j = c l j := by rw [h.lab hl]
theorem takeS_Y {w : Int32} {i : Nat} {c c' : CT} (h : EqY c c') : EqY (takeS w i c) (takeS w i c') := by
  unfold takeS
  rw [h.rd i (l := 29) (by decide), h.1.2 (4 * i + 0) (by omega), h.1.2 (4 * i + 1) (by omega), h.roomF]
  split
  · exact h
  · split
    · have h1 := h.put (k := 32) (i := i) (v := mn (c 12 (4 * i + 1)) (roomF c (tcl (c 29 i)))) (by decide)
      dsimp only
      rw [h1.rd i (l := 32) (by decide), h1.moreF]
      have h2 := h1.put (k := 33) (i := i) (v := moreF (put c 32 i (mn (c 12 (4 * i + 1)) (roomF c (tcl (c 29 i))))) (put c 32 i (mn (c 12 (4 * i + 1)) (roomF c (tcl (c 29 i)))) 32 i)) (by decide)
      rw [h2.rd _ (l := 30) (by decide), h2.rd i (l := 32) (by decide)]
      exact h2.put (by decide)
    · exact h
theorem lendS_Y {w : Int32} {i : Nat} {c c' : CT} (h : EqY c c') : EqY (lendS w i c) (lendS w i c') := by
  unfold lendS
  rw [h.lab (l := 14) (by decide), h.2.2.2.1, h.lab (l := 30) (by decide), h.roomF]
  split
  · split
    · exact h
    · dsimp only
      generalize mn (mn (c 14 (5 * i + 2)) (c 30 (tcl (c 14 (5 * i + 0))))) (roomF c (tcl (c 14 (5 * i + 1)))) = t
      have h1 := h.put (k := 35) (i := i) (v := t) (by decide)
      rw [h1.rd i (l := 35) (by decide), h1.moreF]
      generalize put c 35 i t = d at h1 ⊢
      generalize put c' 35 i t = d' at h1 ⊢
      have h2 := h1.put (k := 36) (i := i) (v := moreF d (d 35 i)) (by decide)
      generalize put d 36 i (moreF d (d 35 i)) = e at h2 ⊢
      generalize put d' 36 i (moreF d (d 35 i)) = e' at h2 ⊢
      rw [h2.rd _ (l := 30) (by decide), h2.rd i (l := 35) (by decide)]
      have h3 := h2.put (k := 30) (i := tcl (c 14 (5 * i + 0))) (v := e 30 (tcl (c 14 (5 * i + 0))) - e 35 i) (by decide)
      generalize put e 30 (tcl (c 14 (5 * i + 0))) (e 30 (tcl (c 14 (5 * i + 0))) - e 35 i) = f at h3 ⊢
      generalize put e' 30 (tcl (c 14 (5 * i + 0))) (e 30 (tcl (c 14 (5 * i + 0))) - e 35 i) = f' at h3 ⊢
      rw [h3.rd _ (l := 30) (by decide), h3.rd i (l := 35) (by decide)]
      exact h3.put (by decide)
  · exact h
theorem repayS_Y {w : Int32} {i : Nat} {c c' : CT} (h : EqY c c') : EqY (repayS w i c) (repayS w i c') := by
  unfold repayS
  rw [h.lab (l := 14) (by decide), h.lab (l := 36) (by decide), h.lab (l := 30) (by decide), h.roomF]
  split
  · dsimp only
    generalize mn (mn (c 36 i) (c 30 (tcl (c 14 (5 * i + 1))))) (roomF c (tcl (c 14 (5 * i + 0)))) = t
    have h1 := h.put (k := 37) (i := i) (v := t) (by decide)
    generalize put c 37 i t = d at h1 ⊢
    generalize put c' 37 i t = d' at h1 ⊢
    rw [h1.rd _ (l := 30) (by decide), h1.rd i (l := 37) (by decide)]
    generalize d 30 (tcl (c 14 (5 * i + 1))) - d 37 i = u
    have h2 := h1.put (k := 30) (i := tcl (c 14 (5 * i + 1))) (v := u) (by decide)
    generalize put d 30 (tcl (c 14 (5 * i + 1))) u = e at h2 ⊢
    generalize put d' 30 (tcl (c 14 (5 * i + 1))) u = e' at h2 ⊢
    rw [h2.rd _ (l := 30) (by decide), h2.rd i (l := 37) (by decide)]
    generalize e 30 (tcl (c 14 (5 * i + 0))) + e 37 i = u2
    have h3 := h2.put (k := 30) (i := tcl (c 14 (5 * i + 0))) (v := u2) (by decide)
    generalize put e 30 (tcl (c 14 (5 * i + 0))) u2 = f at h3 ⊢
    generalize put e' 30 (tcl (c 14 (5 * i + 0))) u2 = f' at h3 ⊢
    rw [h3.rd i (l := 36) (by decide), h3.rd i (l := 37) (by decide)]
    split
    · exact h3
    · exact h3.noteF w
  · exact h
theorem giveS_Y {w : Int32} {i : Nat} {c c' : CT} (h : EqY c c') : EqY (giveS w i c) (giveS w i c') := by
  unfold giveS
  rw [h.lab (l := 29) (by decide), h.lab (l := 33) (by decide), h.lab (l := 30) (by decide)]
  split
  · exact h
  · dsimp only
    generalize mn (c 33 i) (c 30 (tcl (c 29 i))) = t
    have h1 := h.put (k := 34) (i := i) (v := t) (by decide)
    generalize put c 34 i t = d at h1 ⊢
    generalize put c' 34 i t = d' at h1 ⊢
    rw [h1.rd _ (l := 30) (by decide), h1.rd i (l := 34) (by decide)]
    generalize d 30 (tcl (c 29 i)) - d 34 i = u
    have h2 := h1.put (k := 30) (i := tcl (c 29 i)) (v := u) (by decide)
    generalize put d 30 (tcl (c 29 i)) u = e at h2 ⊢
    generalize put d' 30 (tcl (c 29 i)) u = e' at h2 ⊢
    rw [h2.rd i (l := 33) (by decide), h2.rd i (l := 34) (by decide)]
    split
    · exact h2
    · exact h2.noteF w
theorem dryF_Y {w : Int32} {i v : Nat} {c c' : CT} (h : EqY c c') : EqY (dryF w i v c) (dryF w i v c') := by
  unfold dryF
  dsimp only
  rw [h.lab (l := 39) (by decide)]
  have h1 : EqY (if c 39 i = 0 then put c 40 i w else c) (if c 39 i = 0 then put c' 40 i w else c') := by
    split
    · exact h.put (by decide)
    · exact h
  generalize (if c 39 i = 0 then put c 40 i w else c) = d at h1 ⊢
  generalize (if c 39 i = 0 then put c' 40 i w else c') = d' at h1 ⊢
  rw [h1.rd i (l := 39) (by decide)]
  have h2 := h1.put (k := 39) (i := i) (v := d 39 i + 1) (by decide)
  generalize put d 39 i (d 39 i + 1) = e at h2 ⊢
  generalize put d' 39 i (d 39 i + 1) = e' at h2 ⊢
  exact (h2.put (by decide)).noteF w
theorem drinkS_Y {w : Int32} {i : Nat} {c c' : CT} (h : EqY c c') : EqY (drinkS w i c) (drinkS w i c') := by
  unfold drinkS
  rw [h.lab (l := 10) (by decide), h.lab (l := 30) (by decide)]
  split
  · exact h
  · split
    · exact h
    · split
      · exact dryF_Y h
      · dsimp only
        generalize c 30 (tcl (c 10 (5 * i + 0))) - c 10 (5 * i + 1) = t
        have h1 := h.put (k := 30) (i := tcl (c 10 (5 * i + 0))) (v := t) (by decide)
        generalize put c 30 (tcl (c 10 (5 * i + 0))) t = d at h1 ⊢
        generalize put c' 30 (tcl (c 10 (5 * i + 0))) t = d' at h1 ⊢
        rw [h1.2.2.2.2.2.2.1]
        have h2 := h1.put (k := 28) (i := 18) (v := d 28 18 + c 10 (5 * i + 1)) (by decide)
        generalize put d 28 18 (d 28 18 + c 10 (5 * i + 1)) = e at h2 ⊢
        generalize put d' 28 18 (d 28 18 + c 10 (5 * i + 1)) = e' at h2 ⊢
        rw [h2.rd i (l := 38) (by decide), h2.rd _ (l := 10) (by decide)]
        exact h2.put (by decide)
theorem skyS_Y {s : Int32} {i : Nat} {c c' : CT} (h : EqY c c') : EqY (skyS s i c) (skyS s i c') := by
  unfold skyS
  dsimp only
  rw [h.lab (l := 30) (by decide), h.lab (l := 8) (by decide)]
  generalize mn (c 30 i) (c 8 (5 * i + 2) * s / 100) = t
  have h1 := h.put (k := 30) (i := i) (v := c 30 i - t) (by decide)
  rw [h1.2.2.2.2.1]
  exact h1.put (by decide)
theorem seepS_Y {N i : Nat} {c c' : CT} (h : EqY c c') : EqY (seepS N i c) (seepS N i c') := by
  unfold seepS
  dsimp only
  rw [h.lab (l := 30) (by decide), h.lab (l := 8) (by decide), h.roomF]
  generalize mn (c 30 i) (c 8 (5 * i + 3)) = t
  have h1 := h.put (k := 30) (i := i) (v := c 30 i - t) (by decide)
  generalize put c 30 i (c 30 i - t) = d at h1 ⊢
  generalize put c' 30 i (c 30 i - t) = d' at h1 ⊢
  split
  · rw [h1.rd _ (l := 30) (by decide)]
    generalize d 30 (i + 1) + mn t (roomF c (i + 1)) = u
    have h2 := h1.put (k := 30) (i := i + 1) (v := u) (by decide)
    rw [h2.2.2.2.2.2.1]
    exact h2.put (by decide)
  · rw [h1.2.2.2.2.2.1]
    exact h1.put (by decide)
theorem wbS_Y {w i : Nat} {c c' : CT} (h : EqY c c') : EqY (wbS w i c) (wbS w i c') := by
  unfold wbS
  rw [h.lab (l := 30) (by decide)]
  exact h.put (by decide)
theorem forR_Y {f : Nat → CT → CT} (hf : ∀ i c c', EqY c c' → EqY (f i c) (f i c')) : ∀ k i c c', EqY c c' → EqY (forR f i k c) (forR f i k c') := by
  intro k
  induction k with
  | zero => intro i c c' h; exact h
  | succ k ih => intro i c c' h; exact ih (i + 1) _ _ (hf i c c' h)
theorem seepR_Y {N : Nat} : ∀ k c c', EqY c c' → EqY (seepR N k c) (seepR N k c') := by
  intro k
  induction k with
  | zero => intro c c' h; exact h
  | succ k ih => intro c c' h; exact ih _ _ (seepS_Y h)
theorem passF_Y {w : Nat} {c c' : CT} (h : EqY c c') : EqY (passF w c) (passF w c') := by
  have h1 : EqY (takeA (nI w) c) (takeA (nI w) c') := by
    unfold takeA; rw [h.rd 2 (l := 11) (by decide)]; exact forR_Y (f := takeS (nI w)) (fun _ _ _ h => takeS_Y h) _ _ _ _ h
  have h2 : EqY (lendA (nI w) (takeA (nI w) c)) (lendA (nI w) (takeA (nI w) c')) := by
    unfold lendA; rw [h1.rd 2 (l := 13) (by decide)]; exact forR_Y (f := lendS (nI w)) (fun _ _ _ h => lendS_Y h) _ _ _ _ h1
  have h3 : EqY (repayA (nI w) (lendA (nI w) (takeA (nI w) c))) (repayA (nI w) (lendA (nI w) (takeA (nI w) c'))) := by
    unfold repayA; rw [h2.rd 2 (l := 13) (by decide)]; exact forR_Y (f := repayS (nI w)) (fun _ _ _ h => repayS_Y h) _ _ _ _ h2
  unfold passF
  dsimp only
  generalize repayA (nI w) (lendA (nI w) (takeA (nI w) c)) = d at h3 ⊢
  generalize repayA (nI w) (lendA (nI w) (takeA (nI w) c')) = d' at h3 ⊢
  rw [h3.rd 8 (l := 6) (by decide)]
  have h4 : EqY (if nI w = d 6 8 then giveA (nI w) d else d) (if nI w = d 6 8 then giveA (nI w) d' else d') := by
    split
    · unfold giveA; rw [h3.rd 2 (l := 11) (by decide)]; exact forR_Y (f := giveS (nI w)) (fun _ _ _ h => giveS_Y h) _ _ _ _ h3
    · exact h3
  generalize (if nI w = d 6 8 then giveA (nI w) d else d) = e at h4 ⊢
  generalize (if nI w = d 6 8 then giveA (nI w) d' else d') = e' at h4 ⊢
  have h5 : EqY (drinkA (nI w) e) (drinkA (nI w) e') := by
    unfold drinkA; rw [h4.rd 2 (l := 9) (by decide)]; exact forR_Y (f := drinkS (nI w)) (fun _ _ _ h => drinkS_Y h) _ _ _ _ h4
  have h6 : EqY (skyA w (drinkA (nI w) e)) (skyA w (drinkA (nI w) e')) := by
    unfold skyA; rw [h5.rd 2 (l := 7) (by decide), h5.rd w (l := 15) (by decide)]; exact forR_Y (f := skyS (drinkA (nI w) e 15 w)) (fun _ _ _ h => skyS_Y h) _ _ _ _ h5
  have h7 : EqY (seepA (skyA w (drinkA (nI w) e))) (seepA (skyA w (drinkA (nI w) e'))) := by
    unfold seepA; rw [h6.rd 2 (l := 7) (by decide)]; exact seepR_Y _ _ _ h6
  unfold wbA
  rw [h7.rd 2 (l := 7) (by decide)]
  exact forR_Y (f := wbS w) (fun _ _ _ h => wbS_Y h) _ _ _ _ h7
theorem runF_Y {c c' : CT} (h : EqY c c') : EqY (runF c) (runF c') := by
  unfold runF
  rw [h.rd 6 (l := 6) (by decide)]
  exact forR_Y (f := passF) (fun _ _ _ h => passF_Y h) _ _ _ _ h
