/-! THE NOTE OF WATERS: what a YEAR notes hangs on no note before it -/
def same31 (c c' : CT) : Prop := c' 31 = c 31
theorem same31.rf {c : CT} : same31 c c := rfl
theorem same31.tr {a b c : CT} (h : same31 a b) (h2 : same31 b c) : same31 a c := Eq.trans h2 h
theorem same31.put {c : CT} {k i : Nat} {v : Int32} (hk : 31 ≠ k) : same31 c (put c k i v) := put_ne hk
theorem same31.put2 {a c : CT} {k i : Nat} {v : Int32} (h : same31 a c) (hk : 31 ≠ k) : same31 a (_root_.Jvm.Pilot.@@N@@.put c k i v) := h.tr (same31.put hk)
theorem noteF_31 {w : Int32} {c : CT} : same31 c (noteF w c) := by
  unfold noteF; split
  · exact same31.put (by decide)
  · exact same31.rf
theorem takeS_31 {w : Int32} {i : Nat} {c : CT} : same31 c (takeS w i c) := by
  unfold takeS; split
  · exact same31.rf
  · split
    · exact ((same31.put (by decide)).put2 (by decide)).put2 (by decide)
    · exact same31.rf
theorem lendS_31 {w : Int32} {i : Nat} {c : CT} : same31 c (lendS w i c) := by
  unfold lendS; split
  · split
    · exact same31.rf
    · exact (((same31.put (by decide)).put2 (by decide)).put2 (by decide)).put2 (by decide)
  · exact same31.rf
theorem repayS_31 {w : Int32} {i : Nat} {c : CT} : same31 c (repayS w i c) := by
  unfold repayS; split
  · dsimp only
    split
    · exact ((same31.put (by decide)).put2 (by decide)).put2 (by decide)
    · exact (((same31.put (by decide)).put2 (by decide)).put2 (by decide)).tr noteF_31
  · exact same31.rf
theorem giveS_31 {w : Int32} {i : Nat} {c : CT} : same31 c (giveS w i c) := by
  unfold giveS; split
  · exact same31.rf
  · dsimp only
    split
    · exact (same31.put (by decide)).put2 (by decide)
    · exact ((same31.put (by decide)).put2 (by decide)).tr noteF_31
theorem dryF_31 {w : Int32} {i v : Nat} {c : CT} : same31 c (dryF w i v c) := by
  unfold dryF; dsimp only
  refine same31.tr ?_ noteF_31
  refine same31.put2 (same31.put2 ?_ (by decide)) (by decide)
  split
  · exact same31.put (by decide)
  · exact same31.rf
theorem drinkS_31 {w : Int32} {i : Nat} {c : CT} : same31 c (drinkS w i c) := by
  unfold drinkS; split
  · exact same31.rf
  · split
    · exact same31.rf
    · split
      · exact dryF_31
      · exact ((same31.put (by decide)).put2 (by decide)).put2 (by decide)
theorem skyS_31 {s : Int32} {i : Nat} {c : CT} : same31 c (skyS s i c) := (same31.put (by decide)).put2 (by decide)
theorem seepS_31 {N i : Nat} {c : CT} : same31 c (seepS N i c) := by
  unfold seepS; dsimp only; split
  · exact ((same31.put (by decide)).put2 (by decide)).put2 (by decide)
  · exact (same31.put (by decide)).put2 (by decide)
theorem forR_31 {f : Nat → CT → CT} (h : ∀ i c, same31 c (f i c)) {i k : Nat} {c : CT} : same31 c (forR f i k c) := forR_keep (fun z => same31 c z) (fun i z hz => hz.tr (h i z)) k i c same31.rf
theorem seepR_31 {N : Nat} : ∀ {k : Nat} {c : CT}, same31 c (seepR N k c)
  | 0, _ => same31.rf
  | k + 1, c => (seepS_31 (N := N) (i := k) (c := c)).tr seepR_31
/-- a week, without the note of it -/
def preF (w : Nat) (c : CT) : CT :=
  let c3 := repayA (nI w) (lendA (nI w) (takeA (nI w) c))
  let c4 := if nI w = c3 6 8 then giveA (nI w) c3 else c3
  seepA (skyA w (drinkA (nI w) c4))
theorem passF_pre {w : Nat} {c : CT} : passF w c = wbA w (preF w c) := rfl
theorem preF_31 {w : Nat} {c : CT} : same31 c (preF w c) := by
  unfold preF; dsimp only
  have h1 : same31 c (repayA (nI w) (lendA (nI w) (takeA (nI w) c))) := ((forR_31 (fun _ _ => takeS_31)).tr (forR_31 (fun _ _ => lendS_31))).tr (forR_31 (fun _ _ => repayS_31))
  generalize repayA (nI w) (lendA (nI w) (takeA (nI w) c)) = c3 at h1 ⊢
  have h2 : same31 c (if nI w = c3 6 8 then giveA (nI w) c3 else c3) := by
    split
    · exact h1.tr (forR_31 (fun _ _ => giveS_31))
    · exact h1
  generalize (if nI w = c3 6 8 then giveA (nI w) c3 else c3) = c4 at h2 ⊢
  exact ((h2.tr (forR_31 (fun _ _ => drinkS_31))).tr (forR_31 (fun _ _ => skyS_31))).tr seepR_31
theorem preF_P {w : Nat} {c : CT} : sameP c (preF w c) := by
  unfold preF; dsimp only
  have h1 : sameP c (repayA (nI w) (lendA (nI w) (takeA (nI w) c))) := (takeA_P.tr lendA_P).tr repayA_P
  generalize repayA (nI w) (lendA (nI w) (takeA (nI w) c)) = c3 at h1 ⊢
  have h2 : sameP c (if nI w = c3 6 8 then giveA (nI w) c3 else c3) := by
    split
    · exact h1.tr giveA_P
    · exact h1
  generalize (if nI w = c3 6 8 then giveA (nI w) c3 else c3) = c4 at h2 ⊢
  exact ((h2.tr drinkA_P).tr skyA_P).tr seepA_P
theorem wb_inv {w : Nat} (hw : w < 30) (c : CT) : ∀ k, (forR (wbS w) 0 k c) 30 = c 30 ∧ ∀ v w', w' < 30 → (forR (wbS w) 0 k c) 31 (v * 30 + w') = if w' = w ∧ v < k then c 30 v else c 31 (v * 30 + w') := by
  intro k
  have h := forR_inv (f := wbS w) (fun i z => z 30 = c 30 ∧ ∀ v w', w' < 30 → z 31 (v * 30 + w') = if w' = w ∧ v < i then c 30 v else c 31 (v * 30 + w')) k (fun i z _ hz => by
    refine ⟨by rw [wbS, put_ne (by decide)]; exact hz.1, fun v w' hw' => ?_⟩
    rw [wbS]
    by_cases e : v * 30 + w' = i * 30 + w
    · have e1 : v = i := by omega
      have e2 : w' = w := by omega
      rw [e, put_at, if_pos ⟨e2, by omega⟩, hz.1, e1]
    · rw [put_no e, hz.2 v w' hw']
      by_cases e2 : w' = w ∧ v < i
      · rw [if_pos e2, if_pos ⟨e2.1, by omega⟩]
      · rw [if_neg e2, if_neg (fun z => e2 ⟨z.1, by
          have : v ≠ i := fun q => e (by rw [q, z.1])
          omega⟩)]) k 0 c (by omega) ⟨rfl, fun v w' _ => by rw [if_neg (fun z => Nat.not_lt_zero v z.2)]⟩
  rw [Nat.zero_add] at h
  exact h
theorem runR_31 {nv : Nat} : ∀ (k i : Nat) (c c' : CT), tcl (c 7 2) = nv → EqY c c' → (∀ v w, v < nv → w < i → c' 31 (v * 30 + w) = c 31 (v * 30 + w)) → i + k ≤ 30 → ∀ v w, v < nv → w < i + k → (forR passF i k c') 31 (v * 30 + w) = (forR passF i k c) 31 (v * 30 + w) := by
  intro k
  induction k with
  | zero => intro i c c' _ _ h _ v w hv hw; exact h v w hv hw
  | succ k ih =>
    intro i c c' hn hY h hi v w hv hw
    have hn' : tcl (c' 7 2) = nv := by rw [hY.lab (l := 7) (by decide)]; exact hn
    have hYp := passF_Y (w := i) hY
    have p7 : tcl (preF i c 7 2) = nv := by rw [preF_P 7 (by decide)]; exact hn
    have p7' : tcl (preF i c' 7 2) = nv := by rw [preF_P 7 (by decide)]; exact hn'
    have b1 := wb_inv (w := i) (by omega) (preF i c) nv
    have b2 := wb_inv (w := i) (by omega) (preF i c') nv
    have q1 : passF i c = forR (wbS i) 0 nv (preF i c) := by rw [passF_pre, wbA, p7]
    have q2 : passF i c' = forR (wbS i) 0 nv (preF i c') := by rw [passF_pre, wbA, p7']
    have e30 : preF i c' 30 = preF i c 30 := by rw [← b1.1, ← b2.1, ← q1, ← q2]; exact hYp.lab (by decide)
    refine ih (i + 1) (passF i c) (passF i c') (by rw [passF_P 7 (by decide)]; exact hn) hYp (fun v w hv hw => ?_) (by omega) v w hv (by omega)
    rw [q1, q2, b1.2 v w (by omega), b2.2 v w (by omega), e30, preF_31, preF_31]
    by_cases e : w = i ∧ v < nv
    · rw [if_pos e, if_pos e]
    · rw [if_neg e, if_neg e, h v w hv (by
        have : w ≠ i := fun q => e ⟨q, hv⟩
        omega)]
theorem runF_31 {c c' : CT} {nv nc nf nl wk : Nat} (hI : IX c nv nc nf nl wk) (hY : EqY c c') {v w : Nat} (hv : v < nv) (hw : w < wk) : runF c' 31 (v * 30 + w) = runF c 31 (v * 30 + w) := by
  have e := hI.nvf
  rw [runF, runF, hY.lab (l := 6) (by decide), e.2.2.2.2]
  exact runR_31 wk 0 c c' e.1 hY (fun _ _ _ h => absurd h (Nat.not_lt_zero _)) (by have := hI.2.2.2.2.2.2.2.2.2.1; omega) v w hv (by omega)
