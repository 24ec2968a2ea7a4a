/-! the WEEKS and the whole YEAR, side by side -/
theorem forR_sim {α β : Type} {f : Nat → α → α} {g : Nat → β → β} (R : Nat → α → β → Prop) (N : Nat) (hs : ∀ i y m, i < N → R i y m → R (i + 1) (f i y) (g i m)) : ∀ k i y m, i + k ≤ N → R i y m → R (i + k) (forR f i k y) (forR g i k m) := by
  intro k
  induction k with
  | zero => intro i y m _ h; exact h
  | succ k ih =>
    intro i y m hk h
    have := ih (i + 1) (f i y) (g i m) (by omega) (hs i y m (by omega) h)
    rw [show i + (k + 1) = i + 1 + k by omega]
    exact this
theorem takeS_l {w : Int32} {i l : Nat} {y : CT} (h : l ≠ 30 ∧ l ≠ 32 ∧ l ≠ 33) : takeS w i y l = y l := by
  unfold takeS; split
  · rfl
  · split
    · dsimp only; rw [put_ne h.1, put_ne h.2.2, put_ne h.2.1]
    · rfl
theorem lendS_l {w : Int32} {i l : Nat} {y : CT} (h : l ≠ 30 ∧ l ≠ 35 ∧ l ≠ 36) : lendS w i y l = y l := by
  unfold lendS; split
  · split
    · rfl
    · dsimp only; rw [put_ne h.1, put_ne h.1, put_ne h.2.2, put_ne h.2.1]
  · rfl
theorem repayS_l {w : Int32} {i l : Nat} {y : CT} (h : l ≠ 30 ∧ l ≠ 37 ∧ l ≠ 28) : repayS w i y l = y l := by
  unfold repayS; split
  · dsimp only; split
    · rw [put_ne h.1, put_ne h.1, put_ne h.2.1]
    · rw [noteF_ne h.2.2, put_ne h.1, put_ne h.1, put_ne h.2.1]
  · rfl
theorem giveS_l {w : Int32} {i l : Nat} {y : CT} (h : l ≠ 30 ∧ l ≠ 34 ∧ l ≠ 28) : giveS w i y l = y l := by
  unfold giveS; split
  · rfl
  · dsimp only; split
    · rw [put_ne h.1, put_ne h.2.1]
    · rw [noteF_ne h.2.2, put_ne h.1, put_ne h.2.1]
theorem drinkS_l {w : Int32} {i l : Nat} {y : CT} (h : l ≠ 30 ∧ l ≠ 28 ∧ l ≠ 38 ∧ l ≠ 39 ∧ l ≠ 40 ∧ l ≠ 41) : drinkS w i y l = y l := by
  unfold drinkS; split
  · rfl
  · split
    · rfl
    · split
      · unfold dryF; try dsimp only
        rw [noteF_ne h.2.1, put_ne h.2.2.2.2.2, put_ne h.2.2.2.1]
        split
        · exact put_ne h.2.2.2.2.1
        · rfl
      · dsimp only; rw [put_ne h.2.2.1, put_ne h.2.1, put_ne h.1]
theorem skyS_l {s : Int32} {i l : Nat} {y : CT} (h : l ≠ 30 ∧ l ≠ 28) : skyS s i y l = y l := by unfold skyS; rw [put_ne h.2, put_ne h.1]
theorem seepS_l {N i l : Nat} {y : CT} (h : l ≠ 30 ∧ l ≠ 28) : seepS N i y l = y l := by
  unfold seepS; dsimp only; split
  · rw [put_ne h.2, put_ne h.1, put_ne h.1]
  · rw [put_ne h.2, put_ne h.1]
/-- what holds of a YEAR as WEEK w begins -/
def DY (nv nc nf nl wk w : Nat) (y : CT) : Prop := (IX y nv nc nf nl wk ∧ TX y nv nf ∧ PRC nv nc nf nl wk y) ∧ YW nv y ∧ YF nf y ∧ YL nl y ∧ YC nc w 0 y ∧ YD nv nc w 0 y ∧ FZ nf w 0 y ∧ LZ nl w 0 y ∧ YZ nv nc nf nl y
def BY (nv nc nf nl wk : Nat) (y : CT) : Prop := IX y nv nc nf nl wk ∧ TX y nv nf ∧ PRC nv nc nf nl wk y
theorem BY.P {nv nc nf nl wk : Nat} {y y' : CT} (h : BY nv nc nf nl wk y) (e : sameP y y') : BY nv nc nf nl wk y' := ⟨h.1.P e, h.2.1.P e, h.2.2.P e⟩
theorem IM.nvm {m : CT} {nv nc nf nl wk : Nat} (h : IM m nv nc nf nl wk) : tcl (m 1 0) = nv ∧ tcl (m 1 2) = nf ∧ tcl (m 1 1) = nc ∧ tcl (m 1 3) = nl ∧ tcl (m 1 5) = wk := by
  obtain ⟨hv, hv6, hc, hc8, hf, hf3, hl, hl8, hw, hw30, -, -⟩ := h
  rw [hv, hf, hc, hl, hw]
  exact ⟨tcl_nI (by omega), tcl_nI (by omega), tcl_nI (by omega), tcl_nI (by omega), tcl_nI (by omega)⟩
theorem take_ph {nv nc nf nl wk fl w : Nat} {y m : CT} (hM : IM m nv nc nf nl wk) (hmo : 0 ≤ (m 1 6).toInt ∧ (m 1 6).toInt ≤ 100) (hw : w < 30) (h : SimY nv nc nf nl fl w y m) (hB : BY nv nc nf nl wk y) (hW : YW nv y) (hF : YF nf y) (hZ : FZ nf w 0 y) (hYZ : YZ nv nc nf nl y) : (SimY nv nc nf nl fl w (takeA (nI w) y) (takeB fl (nI w) m) ∧ BY nv nc nf nl wk (takeA (nI w) y) ∧ (∀ l, l ≠ 30 ∧ l ≠ 32 ∧ l ≠ 33 → takeA (nI w) y l = y l) ∧ sameM m (takeB fl (nI w) m)) ∧ YW nv (takeA (nI w) y) ∧ YF nf (takeA (nI w) y) ∧ FZ nf w nf (takeA (nI w) y) ∧ YZ nv nc nf nl (takeA (nI w) y) := by
  have R := forR_sim (f := takeS (nI w)) (g := takeM fl (nI w)) (fun i y' m' => (SimY nv nc nf nl fl w y' m' ∧ BY nv nc nf nl wk y' ∧ (∀ l, l ≠ 30 ∧ l ≠ 32 ∧ l ≠ 33 → y' l = y l) ∧ sameM m m') ∧ YW nv y' ∧ YF nf y' ∧ FZ nf w i y' ∧ YZ nv nc nf nl y') nf (fun i y' m' hi hh => by
    obtain ⟨⟨h, hB, hl, hs⟩, hW, hF, hZ, hYZ⟩ := hh
    have hp : 0 ≤ (y' 28 2).toInt ∧ (y' 28 2).toInt ≤ 100 := by rw [h.s8, hs.w]; exact hmo
    have q := takeS_Y9 hB.2.2 hB.2.1 hp hW hF hZ hYZ hi hw
    exact ⟨⟨take_sim h hB.2.1 hi, hB.P takeS_P, fun l hl1 => (takeS_l hl1).trans (hl l hl1), hs.tr takeM_s⟩, q⟩) nf 0 y m (by omega) ⟨⟨h, hB, fun _ _ => rfl, sameM.rf⟩, hW, hF, hZ, hYZ⟩
  try rw [Nat.zero_add] at R
  unfold takeA takeB
  rw [hB.1.nvf.2.1, hM.nvm.2.1]
  exact R
theorem lend_ph {nv nc nf nl wk fl w : Nat} {y m : CT} (hM : IM m nv nc nf nl wk) (hmo : 0 ≤ (m 1 6).toInt ∧ (m 1 6).toInt ≤ 100) (hw : w < 30) (h : SimY nv nc nf nl fl w y m) (hB : BY nv nc nf nl wk y) (hW : YW nv y) (hL : YL nl y) (hZ : LZ nl w 0 y) (hYZ : YZ nv nc nf nl y) : (SimY nv nc nf nl fl w (lendA (nI w) y) (lendB (nI w) m) ∧ BY nv nc nf nl wk (lendA (nI w) y) ∧ (∀ l, l ≠ 30 ∧ l ≠ 35 ∧ l ≠ 36 → lendA (nI w) y l = y l) ∧ sameM m (lendB (nI w) m)) ∧ YW nv (lendA (nI w) y) ∧ YL nl (lendA (nI w) y) ∧ LZ nl w 0 (lendA (nI w) y) ∧ YZ nv nc nf nl (lendA (nI w) y) := by
  have R := forR_sim (f := lendS (nI w)) (g := lendM (nI w)) (fun i y' m' => (SimY nv nc nf nl fl w y' m' ∧ BY nv nc nf nl wk y' ∧ (∀ l, l ≠ 30 ∧ l ≠ 35 ∧ l ≠ 36 → y' l = y l) ∧ sameM m m') ∧ YW nv y' ∧ YL nl y' ∧ LZ nl w 0 y' ∧ YZ nv nc nf nl y') nl (fun i y' m' hi hh => by
    obtain ⟨⟨h, hB, hl, hs⟩, hW, hL, hZ, hYZ⟩ := hh
    have hp : 0 ≤ (y' 28 2).toInt ∧ (y' 28 2).toInt ≤ 100 := by rw [h.s8, hs.w]; exact hmo
    have q := lendS_Y9 hB.1 hB.2.2 hp hW hL hZ hYZ hi hw
    exact ⟨⟨lend_sim h (hB.1.2.2.2.2.2.2.2.2.2.2.2 i hi) hi, hB.P lendS_P, fun l hl1 => (lendS_l hl1).trans (hl l hl1), hs.tr lendM_s⟩, q⟩) nl 0 y m (by omega) ⟨⟨h, hB, fun _ _ => rfl, sameM.rf⟩, hW, hL, hZ, hYZ⟩
  try rw [Nat.zero_add] at R
  unfold lendA lendB
  rw [hB.1.nvf.2.2.2.1, hM.nvm.2.2.2.1]
  exact R
theorem repay_ph {nv nc nf nl wk fl w : Nat} {y m : CT} (hM : IM m nv nc nf nl wk) (hmo : 0 ≤ (m 1 6).toInt ∧ (m 1 6).toInt ≤ 100) (hw : w < 30) (h : SimY nv nc nf nl fl w y m) (hB : BY nv nc nf nl wk y) (hW : YW nv y) (hL : YL nl y) (hZ : LZ nl w 0 y) (hYZ : YZ nv nc nf nl y) : (SimY nv nc nf nl fl w (repayA (nI w) y) (repayB (nI w) m) ∧ BY nv nc nf nl wk (repayA (nI w) y) ∧ (∀ l, l ≠ 30 ∧ l ≠ 37 ∧ l ≠ 28 → repayA (nI w) y l = y l) ∧ sameM m (repayB (nI w) m)) ∧ YW nv (repayA (nI w) y) ∧ YL nl (repayA (nI w) y) ∧ LZ nl w nl (repayA (nI w) y) ∧ YZ nv nc nf nl (repayA (nI w) y) := by
  have R := forR_sim (f := repayS (nI w)) (g := repayM (nI w)) (fun i y' m' => (SimY nv nc nf nl fl w y' m' ∧ BY nv nc nf nl wk y' ∧ (∀ l, l ≠ 30 ∧ l ≠ 37 ∧ l ≠ 28 → y' l = y l) ∧ sameM m m') ∧ YW nv y' ∧ YL nl y' ∧ LZ nl w i y' ∧ YZ nv nc nf nl y') nl (fun i y' m' hi hh => by
    obtain ⟨⟨h, hB, hl, hs⟩, hW, hL, hZ, hYZ⟩ := hh
    have hp : 0 ≤ (y' 28 2).toInt ∧ (y' 28 2).toInt ≤ 100 := by rw [h.s8, hs.w]; exact hmo
    have q := repayS_Y9 hB.1 hB.2.2 hW hL hZ hYZ hi hw
    exact ⟨⟨repay_sim h (hB.1.2.2.2.2.2.2.2.2.2.2.2 i hi) hi, hB.P repayS_P, fun l hl1 => (repayS_l hl1).trans (hl l hl1), hs.tr repayM_s⟩, q⟩) nl 0 y m (by omega) ⟨⟨h, hB, fun _ _ => rfl, sameM.rf⟩, hW, hL, hZ, hYZ⟩
  try rw [Nat.zero_add] at R
  unfold repayA repayB
  rw [hB.1.nvf.2.2.2.1, hM.nvm.2.2.2.1]
  exact R
theorem give_ph {nv nc nf nl wk fl w : Nat} {y m : CT} (hM : IM m nv nc nf nl wk) (hmo : 0 ≤ (m 1 6).toInt ∧ (m 1 6).toInt ≤ 100) (hw : w < 30) (h : SimY nv nc nf nl fl w y m) (hB : BY nv nc nf nl wk y) (hW : YW nv y) (hF : YF nf y) (hZ : FZ nf w nf y) (hYZ : YZ nv nc nf nl y) : (SimY nv nc nf nl fl w (giveA (nI w) y) (giveB fl (nI w) m) ∧ BY nv nc nf nl wk (giveA (nI w) y) ∧ (∀ l, l ≠ 30 ∧ l ≠ 34 ∧ l ≠ 28 → giveA (nI w) y l = y l) ∧ sameM m (giveB fl (nI w) m)) ∧ YW nv (giveA (nI w) y) ∧ YF nf (giveA (nI w) y) ∧ FZ nf w nf (giveA (nI w) y) ∧ YZ nv nc nf nl (giveA (nI w) y) := by
  have R := forR_sim (f := giveS (nI w)) (g := giveM fl (nI w)) (fun i y' m' => (SimY nv nc nf nl fl w y' m' ∧ BY nv nc nf nl wk y' ∧ (∀ l, l ≠ 30 ∧ l ≠ 34 ∧ l ≠ 28 → y' l = y l) ∧ sameM m m') ∧ YW nv y' ∧ YF nf y' ∧ FZ nf w nf y' ∧ YZ nv nc nf nl y') nf (fun i y' m' hi hh => by
    obtain ⟨⟨h, hB, hl, hs⟩, hW, hF, hZ, hYZ⟩ := hh
    have hp : 0 ≤ (y' 28 2).toInt ∧ (y' 28 2).toInt ≤ 100 := by rw [h.s8, hs.w]; exact hmo
    have q := giveS_Y9 hB.2.2 hB.2.1 hW hF hZ hYZ hi hw
    exact ⟨⟨give_sim h hB.2.1 hi (fun z zz => by
      have h2 := hZ i hi (Or.inl (by rw [Int32.lt_iff_toInt_lt, nI_toInt (by omega)] at zz; exact zz))
      have h3 := (hW _ (vp_tcl (hB.2.1 i hi z))).1
      exact ⟨h2.1, h2.2, fun z => by rw [Int32.lt_iff_toInt_lt, T0] at z; omega⟩), hB.P giveS_P, fun l hl1 => (giveS_l hl1).trans (hl l hl1), hs.tr giveM_s⟩, q⟩) nf 0 y m (by omega) ⟨⟨h, hB, fun _ _ => rfl, sameM.rf⟩, hW, hF, hZ, hYZ⟩
  try rw [Nat.zero_add] at R
  unfold giveA giveB
  rw [hB.1.nvf.2.1, hM.nvm.2.1]
  exact R
theorem drink_ph {nv nc nf nl wk fl w : Nat} {y m : CT} (hM : IM m nv nc nf nl wk) (hmo : 0 ≤ (m 1 6).toInt ∧ (m 1 6).toInt ≤ 100) (hw : w < 30) (h : SimY nv nc nf nl fl w y m) (hB : BY nv nc nf nl wk y) (hW : YW nv y) (hC : YC nc w 0 y) (hD : YD nv nc w 0 y) (hYZ : YZ nv nc nf nl y) : (SimY nv nc nf nl fl w (drinkA (nI w) y) (drinkB (nI w) m) ∧ BY nv nc nf nl wk (drinkA (nI w) y) ∧ (∀ l, l ≠ 30 ∧ l ≠ 28 ∧ l ≠ 38 ∧ l ≠ 39 ∧ l ≠ 40 ∧ l ≠ 41 → drinkA (nI w) y l = y l) ∧ sameM m (drinkB (nI w) m)) ∧ YW nv (drinkA (nI w) y) ∧ YC nc w nc (drinkA (nI w) y) ∧ YD nv nc w nc (drinkA (nI w) y) ∧ YZ nv nc nf nl (drinkA (nI w) y) := by
  have R := forR_sim (f := drinkS (nI w)) (g := drinkM (nI w)) (fun i y' m' => (SimY nv nc nf nl fl w y' m' ∧ BY nv nc nf nl wk y' ∧ (∀ l, l ≠ 30 ∧ l ≠ 28 ∧ l ≠ 38 ∧ l ≠ 39 ∧ l ≠ 40 ∧ l ≠ 41 → y' l = y l) ∧ sameM m m') ∧ YW nv y' ∧ YC nc w i y' ∧ YD nv nc w i y' ∧ YZ nv nc nf nl y') nc (fun i y' m' hi hh => by
    obtain ⟨⟨h, hB, hl, hs⟩, hW, hC, hD, hYZ⟩ := hh
    have hp : 0 ≤ (y' 28 2).toInt ∧ (y' 28 2).toInt ≤ 100 := by rw [h.s8, hs.w]; exact hmo
    have q := drinkS_Y9 hB.1 hB.2.2 hW hC hD hYZ hi hw
    exact ⟨⟨drink_sim h (hB.1.2.2.2.2.2.2.2.2.2.2.1 i hi) (hC i hi).2.2.2.2 hi, hB.P drinkS_P, fun l hl1 => (drinkS_l hl1).trans (hl l hl1), hs.tr drinkM_s⟩, q⟩) nc 0 y m (by omega) ⟨⟨h, hB, fun _ _ => rfl, sameM.rf⟩, hW, hC, hD, hYZ⟩
  try rw [Nat.zero_add] at R
  unfold drinkA drinkB
  rw [hB.1.nvf.2.2.1, hM.nvm.2.2.1]
  exact R
theorem sky_ph {nv nc nf nl wk fl w : Nat} {y m : CT} (hM : IM m nv nc nf nl wk) (hmo : 0 ≤ (m 1 6).toInt ∧ (m 1 6).toInt ≤ 100) (hw : w < 30) (h : SimY nv nc nf nl fl w y m) (hB : BY nv nc nf nl wk y) (hW : YW nv y) (hYZ : YZ nv nc nf nl y) : (SimY nv nc nf nl fl w (skyA w y) (skyB w m) ∧ BY nv nc nf nl wk (skyA w y) ∧ (∀ l, l ≠ 30 ∧ l ≠ 28 → skyA w y l = y l) ∧ sameM m (skyB w m)) ∧ YW nv (skyA w y) ∧ YZ nv nc nf nl (skyA w y) := by
  have R := forR_sim (f := skyS (y 15 w)) (g := skyM (m 1 (78 + w))) (fun i y' m' => (SimY nv nc nf nl fl w y' m' ∧ BY nv nc nf nl wk y' ∧ (∀ l, l ≠ 30 ∧ l ≠ 28 → y' l = y l) ∧ sameM m m') ∧ YW nv y' ∧ YZ nv nc nf nl y') nv (fun i y' m' hi hh => by
    obtain ⟨⟨h, hB, hl, hs⟩, hW, hYZ⟩ := hh
    have e1 : y 15 w = y' 15 w := congrFun (hl 15 (by decide)).symm w
    have e2 : m 1 (78 + w) = m' 1 (78 + w) := congrFun hs.w.symm _
    rw [e1, e2]
    have q := skyS_Y9 hB.2.2 hW hYZ hi hw
    exact ⟨⟨sky_sim h hw hi, hB.P skyS_P, fun l hl1 => (skyS_l hl1).trans (hl l hl1), hs.tr skyM_s⟩, q⟩) nv 0 y m (by omega) ⟨⟨h, hB, fun _ _ => rfl, sameM.rf⟩, hW, hYZ⟩
  try rw [Nat.zero_add] at R
  unfold skyA skyB
  rw [hB.1.nvf.1, hM.nvm.1]
  exact R
theorem seep_ph {nv nc nf nl wk fl w : Nat} {y m : CT} (hM : IM m nv nc nf nl wk) (hmo : 0 ≤ (m 1 6).toInt ∧ (m 1 6).toInt ≤ 100) (hw : w < 30) (h : SimY nv nc nf nl fl w y m) (hB : BY nv nc nf nl wk y) (hW : YW nv y) (hYZ : YZ nv nc nf nl y) : (SimY nv nc nf nl fl w (seepA y) (seepB m) ∧ BY nv nc nf nl wk (seepA y) ∧ (∀ l, l ≠ 30 ∧ l ≠ 28 → seepA y l = y l) ∧ sameM m (seepB m)) ∧ YW nv (seepA y) ∧ YZ nv nc nf nl (seepA y) := by
  have R : ∀ (k : Nat) (y' m' : CT), k ≤ nv → (SimY nv nc nf nl fl w y' m' ∧ BY nv nc nf nl wk y' ∧ (∀ l, l ≠ 30 ∧ l ≠ 28 → y' l = y l) ∧ sameM m m') ∧ YW nv y' ∧ YZ nv nc nf nl y' → (SimY nv nc nf nl fl w (seepR nv k y') (seepQ nv k m') ∧ BY nv nc nf nl wk (seepR nv k y') ∧ (∀ l, l ≠ 30 ∧ l ≠ 28 → seepR nv k y' l = y l) ∧ sameM m (seepQ nv k m')) ∧ YW nv (seepR nv k y') ∧ YZ nv nc nf nl (seepR nv k y') := by
    intro k
    induction k with
    | zero => intro y' m' _ hh; exact hh
    | succ k ih =>
      intro y' m' hk hh
      obtain ⟨⟨h, hB, hl, hs⟩, hW, hYZ⟩ := hh
      have q := seepS_Y9 hB.2.2 hW hYZ (show k < nv by omega)
      exact ih _ _ (by omega) ⟨⟨seep_sim h (by omega) q.2, hB.P seepS_P, fun l hl1 => (seepS_l hl1).trans (hl l hl1), hs.tr seepM_s⟩, q.1⟩
  unfold seepA seepB
  rw [hB.1.nvf.1, hM.nvm.1]
  exact R nv y m (Nat.le_refl _) ⟨⟨h, hB, fun _ _ => rfl, sameM.rf⟩, hW, hYZ⟩
theorem wb_ph {nv nc nf nl wk fl w : Nat} {y m : CT} (hM : IM m nv nc nf nl wk) (hmo : 0 ≤ (m 1 6).toInt ∧ (m 1 6).toInt ≤ 100) (hw : w < 30) (h : SimY nv nc nf nl fl w y m) (hB : BY nv nc nf nl wk y) : SimY nv nc nf nl fl (w + 1) (wbA w y) (wbB w m) ∧ BY nv nc nf nl wk (wbA w y) ∧ (∀ l, l ≠ 31 → wbA w y l = y l) ∧ sameM m (wbB w m) := by
  have R := forR_sim (f := wbS w) (g := wbM w) (fun i y' m' => (SimY nv nc nf nl fl w y' m' ∧ BY nv nc nf nl wk y' ∧ (∀ l, l ≠ 31 → y' l = y l) ∧ sameM m m') ∧ ∀ v, v < i → y' 31 (v * 30 + w) = m' 8 (30 * v + w)) nv (fun i y' m' hi hh => by
    obtain ⟨⟨h, hB, hl, hs⟩, hx⟩ := hh
    refine ⟨⟨wb_sim h hw hi, hB.P wbS_P, fun l hl1 => (put_ne hl1).trans (hl l hl1), hs.tr wbM_s⟩, fun v hv => ?_⟩
    unfold wbS wbM
    by_cases e : v = i
    · subst e
      rw [put_at, put_at]
      exact h.d1 v hi
    · rw [put_no (by omega), put_no (by omega)]
      exact hx v (by omega)) nv 0 y m (by omega) ⟨⟨h, hB, fun _ _ => rfl, sameM.rf⟩, fun v hv => absurd hv (by omega)⟩
  try rw [Nat.zero_add] at R
  unfold wbA wbB
  rw [hB.1.nvf.1, hM.nvm.1]
  obtain ⟨⟨h1, h2, h3, h4⟩, h5⟩ := R
  refine ⟨?_, h2, h3, h4⟩
  unfold SimY at h1 ⊢
  obtain ⟨a0, a1, a2, a3, a4, a5, a6, a7, a8, a9, a10, a11, a12, a13, a14, a15, a16, a17, a18, a19, a20, a21, a22, a23⟩ := h1
  exact ⟨a0, a1, a2, a3, a4, a5, a6, a7, a8, a9, a10, a11, a12, a13, a14, a15, a16, a17, a18, a19, a20, a21, a22, fun v hv u hu => by
    by_cases e : u = w
    · subst e; exact h5 v hv
    · exact a23 v hv u (by omega)⟩
theorem week_sim {nv nc nf nl wk fl w : Nat} {y m : CT} (hM : IM m nv nc nf nl wk) (hmo : 0 ≤ (m 1 6).toInt ∧ (m 1 6).toInt ≤ 100) (hw : w < 30) (hy : 0 < wk) (h : SimY nv nc nf nl fl w y m) (hD : DY nv nc nf nl wk w y) : SimY nv nc nf nl fl (w + 1) (passF w y) (weekM fl w m) ∧ DY nv nc nf nl wk (w + 1) (passF w y) := by
  obtain ⟨hB, hW, hF, hL, hC, hDD, hZ, hLZ, hYZ⟩ := hD
  unfold passF weekM
  dsimp only
  obtain ⟨⟨s1, b1, l1, m1⟩, W1, F1, Z1, Y1⟩ := take_ph hM hmo hw h hB hW hF hZ hYZ
  have hL1 : YL nl (takeA (nI w) y) := hL.to (l1 36 (by decide)) (l1 37 (by decide))
  have hLZ1 : LZ nl w 0 (takeA (nI w) y) := hLZ.to (l1 37 (by decide)) (l1 14 (by decide))
  have hC1 : YC nc w 0 (takeA (nI w) y) := hC.to (l1 38 (by decide)) (l1 39 (by decide)) (l1 40 (by decide))
  have hD1 : YD nv nc w 0 (takeA (nI w) y) := hDD.to (l1 41 (by decide)) (l1 39 (by decide)) (l1 10 (by decide))
  generalize takeA (nI w) y = y1 at s1 b1 l1 W1 F1 Z1 Y1 hL1 hLZ1 hC1 hD1 ⊢
  have M1 := m1.IM hM
  have mo1 : 0 ≤ (takeB fl (nI w) m 1 6).toInt ∧ (takeB fl (nI w) m 1 6).toInt ≤ 100 := by rw [m1.w]; exact hmo
  have bk1 : takeB fl (nI w) m 1 = m 1 := m1.w
  generalize takeB fl (nI w) m = n1 at s1 M1 mo1 bk1 ⊢
  obtain ⟨⟨s2, b2, l2, m2⟩, W2, L2, LZ2, Y2⟩ := lend_ph M1 mo1 hw s1 b1 W1 hL1 hLZ1 Y1
  have F2 : YF nf (lendA (nI w) y1) := F1.to (l2 33 (by decide)) (l2 34 (by decide))
  have Z2 : FZ nf w nf (lendA (nI w) y1) := Z1.to (l2 33 (by decide)) (l2 34 (by decide)) (l2 12 (by decide))
  have C2 : YC nc w 0 (lendA (nI w) y1) := hC1.to (l2 38 (by decide)) (l2 39 (by decide)) (l2 40 (by decide))
  have D2 : YD nv nc w 0 (lendA (nI w) y1) := hD1.to (l2 41 (by decide)) (l2 39 (by decide)) (l2 10 (by decide))
  generalize lendA (nI w) y1 = y2 at s2 b2 l2 W2 L2 LZ2 Y2 F2 Z2 C2 D2 ⊢
  have M2 := m2.IM M1
  have mo2 : 0 ≤ (lendB (nI w) n1 1 6).toInt ∧ (lendB (nI w) n1 1 6).toInt ≤ 100 := by rw [m2.w]; exact mo1
  generalize lendB (nI w) n1 = n2 at s2 M2 mo2 ⊢
  obtain ⟨⟨s3, b3, l3, m3⟩, W3, L3, LZ3, Y3⟩ := repay_ph M2 mo2 hw s2 b2 W2 L2 LZ2 Y2
  have F3 : YF nf (repayA (nI w) y2) := F2.to (l3 33 (by decide)) (l3 34 (by decide))
  have Z3 : FZ nf w nf (repayA (nI w) y2) := Z2.to (l3 33 (by decide)) (l3 34 (by decide)) (l3 12 (by decide))
  have C3 : YC nc w 0 (repayA (nI w) y2) := C2.to (l3 38 (by decide)) (l3 39 (by decide)) (l3 40 (by decide))
  have D3 : YD nv nc w 0 (repayA (nI w) y2) := D2.to (l3 41 (by decide)) (l3 39 (by decide)) (l3 10 (by decide))
  have eb : repayA (nI w) y2 6 8 = n2 1 7 := (congrFun (l3 6 (by decide)) 8).trans s2.s6
  generalize repayA (nI w) y2 = y3 at s3 b3 l3 W3 L3 LZ3 Y3 F3 Z3 C3 D3 eb ⊢
  have M3 := m3.IM M2
  have mo3 : 0 ≤ (repayB (nI w) n2 1 6).toInt ∧ (repayB (nI w) n2 1 6).toInt ≤ 100 := by rw [m3.w]; exact mo2
  have X4 : ∃ y4 n4, y4 = (if nI w = y3 6 8 then giveA (nI w) y3 else y3) ∧ n4 = dueB fl (nI w) n2 ∧ SimY nv nc nf nl fl w y4 n4 ∧ BY nv nc nf nl wk y4 ∧ IM n4 nv nc nf nl wk ∧ (0 ≤ (n4 1 6).toInt ∧ (n4 1 6).toInt ≤ 100) ∧ YW nv y4 ∧ YF nf y4 ∧ YL nl y4 ∧ FZ nf w nf y4 ∧ LZ nl w nl y4 ∧ YC nc w 0 y4 ∧ YD nv nc w 0 y4 ∧ YZ nv nc nf nl y4 := by
    refine ⟨_, _, rfl, rfl, ?_⟩
    unfold dueB
    rw [eb]
    by_cases e : nI w = n2 1 7
    · rw [if_pos e, if_pos e]
      obtain ⟨⟨s4, b4, l4, m4⟩, W4, F4, Z4, Y4⟩ := give_ph M3 mo3 hw s3 b3 W3 F3 Z3 Y3
      exact ⟨s4, b4, m4.IM M3, by rw [m4.w]; exact mo3, W4, F4, L3.to (l4 36 (by decide)) (l4 37 (by decide)), Z4, LZ3.to (l4 37 (by decide)) (l4 14 (by decide)), C3.to (l4 38 (by decide)) (l4 39 (by decide)) (l4 40 (by decide)), D3.to (l4 41 (by decide)) (l4 39 (by decide)) (l4 10 (by decide)), Y4⟩
    · rw [if_neg e, if_neg e]
      exact ⟨s3, b3, M3, mo3, W3, F3, L3, Z3, LZ3, C3, D3, Y3⟩
  obtain ⟨y4, n4, ey4, en4, s4, b4, M4, mo4, W4, F4, L4, Z4, LZ4, C4, D4, Y4⟩ := X4
  rw [← ey4, ← en4]
  obtain ⟨⟨s5, b5, l5, m5⟩, W5, C5, D5, Y5⟩ := drink_ph M4 mo4 hw s4 b4 W4 C4 D4 Y4
  have F5 : YF nf (drinkA (nI w) y4) := F4.to (l5 33 (by decide)) (l5 34 (by decide))
  have Z5 : FZ nf w nf (drinkA (nI w) y4) := Z4.to (l5 33 (by decide)) (l5 34 (by decide)) (l5 12 (by decide))
  have L5 : YL nl (drinkA (nI w) y4) := L4.to (l5 36 (by decide)) (l5 37 (by decide))
  have LZ5 : LZ nl w nl (drinkA (nI w) y4) := LZ4.to (l5 37 (by decide)) (l5 14 (by decide))
  generalize drinkA (nI w) y4 = y5 at s5 b5 l5 W5 C5 D5 Y5 F5 Z5 L5 LZ5 ⊢
  have M5 := m5.IM M4
  have mo5 : 0 ≤ (drinkB (nI w) n4 1 6).toInt ∧ (drinkB (nI w) n4 1 6).toInt ≤ 100 := by rw [m5.w]; exact mo4
  generalize drinkB (nI w) n4 = n5 at s5 M5 mo5 ⊢
  obtain ⟨⟨s6, b6, l6, m6⟩, W6, Y6⟩ := sky_ph M5 mo5 hw s5 b5 W5 Y5
  have M6 := m6.IM M5
  have mo6 : 0 ≤ (skyB w n5 1 6).toInt ∧ (skyB w n5 1 6).toInt ≤ 100 := by rw [m6.w]; exact mo5
  obtain ⟨⟨s7, b7, l7, m7⟩, W7, Y7⟩ := seep_ph M6 mo6 hw s6 b6 W6 Y6
  have M7 := m7.IM M6
  have mo7 : 0 ≤ (seepB (skyB w n5) 1 6).toInt ∧ (seepB (skyB w n5) 1 6).toInt ≤ 100 := by rw [m7.w]; exact mo6
  have K : ∀ l, l ≠ 30 ∧ l ≠ 28 → seepA (skyA w y5) l = y5 l := fun l hl => (l7 l hl).trans (l6 l hl)
  obtain ⟨s8, b8, l8, m8⟩ := wb_ph M7 mo7 hw s7 b7
  have K8 : ∀ l, l ≠ 30 ∧ l ≠ 28 ∧ l ≠ 31 → wbA w (seepA (skyA w y5)) l = y5 l := fun l hl => (l8 l hl.2.2).trans (K l ⟨hl.1, hl.2.1⟩)
  refine ⟨s8, b8, W7.to (l8 30 (by decide)) (l8 8 (by decide)), F5.to (K8 33 (by decide)) (K8 34 (by decide)), L5.to (K8 36 (by decide)) (K8 37 (by decide)), ?_, ?_, ?_, ?_, Y7.to (l8 30 (by decide)) (l8 32 (by decide)) (l8 33 (by decide)) (l8 34 (by decide)) (l8 35 (by decide)) (l8 36 (by decide)) (l8 37 (by decide)) (l8 38 (by decide))⟩
  · refine YC.to (y := y5) (fun j hj => ?_) (K8 38 (by decide)) (K8 39 (by decide)) (K8 40 (by decide))
    have := C5 j hj
    rw [if_pos hj] at this
    exact this
  · refine YD.to (y := y5) (fun v hv => ?_) (K8 41 (by decide)) (K8 39 (by decide)) (K8 10 (by decide))
    have := D5 v hv
    have hc8 := b5.1.2.2.2.1
    exact ⟨this.1, by omega, this.2.2⟩
  · refine FZ.to (y := y5) (fun j hj z => Z5 j hj (Or.inl ?_)) (K8 33 (by decide)) (K8 34 (by decide)) (K8 12 (by decide))
    rcases z with z | z <;> omega
  · refine LZ.to (y := y5) (fun j hj z => LZ5 j hj (Or.inl ?_)) (K8 37 (by decide)) (K8 14 (by decide))
    rcases z with z | z <;> omega
theorem run_sim {nv nc nf nl wk fl : Nat} {y m : CT} (hM : IM (begM fl m) nv nc nf nl wk) (hmo : 0 ≤ (m 1 6).toInt ∧ (m 1 6).toInt ≤ 100) (hb : begM fl m 1 = m 1) (h : SimY nv nc nf nl fl 0 y (begM fl m)) (hD : DY nv nc nf nl wk 0 y) : SimY nv nc nf nl fl wk (runF y) (runM fl m) ∧ DY nv nc nf nl wk wk (runF y) := by
  have R := forR_sim (f := passF) (g := weekM fl) (fun i y' m' => (SimY nv nc nf nl fl i y' m' ∧ DY nv nc nf nl wk i y') ∧ sameM (begM fl m) m') wk (fun i y' m' hi hh => by
    obtain ⟨⟨h, hD⟩, hs⟩ := hh
    have hw30 := hD.1.1.2.2.2.2.2.2.2.2.2.1
    exact ⟨week_sim (hs.IM hM) (by rw [hs.w, hb]; exact hmo) (by omega) (by omega) h hD, hs.tr weekM_s⟩) wk 0 y (begM fl m) (by omega) ⟨⟨h, hD⟩, sameM.rf⟩
  try rw [Nat.zero_add] at R
  unfold runF runM
  rw [hD.1.1.nvf.2.2.2.2, show tcl (m 1 5) = wk by rw [← hb]; exact hM.nvm.2.2.2.2]
  exact R.1