/-! a YEAR begins alike; what the two sides hold between calls -/
def ZY (y : CT) : Prop := (∀ i, y 32 i = 0) ∧ (∀ i, y 33 i = 0) ∧ (∀ i, y 34 i = 0) ∧ (∀ i, y 35 i = 0) ∧ (∀ i, y 36 i = 0) ∧ (∀ i, y 37 i = 0) ∧ (∀ i, y 38 i = 0) ∧ (∀ i, y 39 i = 0) ∧ (∀ i, y 40 i = -1) ∧ (∀ i, y 41 i = 0) ∧ y 28 16 = 0 ∧ y 28 17 = 0 ∧ y 28 18 = 0 ∧ y 28 19 = -1
/-- class and reference tell the same PLAIN (the first water aside) -/
def SPm (nv nc nf nl : Nat) (y m : CT) : Prop := (∀ v, v < nv → ∀ k, (k < 5 ∧ k ≠ 1) → y 8 (5 * v + k) = m 1 (8 + 5 * v + k)) ∧ (∀ i, i < nc → ∀ k, k < 5 → y 10 (5 * i + k) = m 1 (38 + 5 * i + k)) ∧ (∀ i, i < nf → ∀ k, k < 3 → y 12 (4 * i + k) = m 1 (108 + 3 * i + k)) ∧ (∀ i, i < nl → ∀ k, k < 5 → y 14 (5 * i + k) = m 1 (117 + 5 * i + k)) ∧ (∀ w, w < 30 → y 15 w = m 1 (78 + w)) ∧ y 6 8 = m 1 7
theorem SPm.to {nv nc nf nl : Nat} {y y' m m' : CT} (h : SPm nv nc nf nl y m) (e : ∀ l, l ≤ 15 → y' l = y l) (e2 : ∀ j, j < 157 → (∀ v, v < nv → j ≠ 8 + 5 * v + 1) → m' 1 j = m 1 j) (hb : nv ≤ 6 ∧ nc ≤ 8 ∧ nf ≤ 3 ∧ nl ≤ 8) : SPm nv nc nf nl y' m' := by
  obtain ⟨h1, h2, h3, h4, h5, h6⟩ := h
  refine ⟨fun v hv k hk => ?_, fun v hv k hk => ?_, fun v hv k hk => ?_, fun v hv k hk => ?_, fun v hv => ?_, ?_⟩
  · rw [e 8 (by decide), e2 _ (by omega) (fun u hu => by omega)]; exact h1 v hv k hk
  · rw [e 10 (by decide), e2 _ (by omega) (fun u hu => by omega)]; exact h2 v hv k hk
  · rw [e 12 (by decide), e2 _ (by omega) (fun u hu => by omega)]; exact h3 v hv k hk
  · rw [e 14 (by decide), e2 _ (by omega) (fun u hu => by omega)]; exact h4 v hv k hk
  · rw [e 15 (by decide), e2 _ (by omega) (fun u hu => by omega)]; exact h5 v hv
  · rw [e 6 (by decide), e2 _ (by omega) (fun u hu => by omega)]; exact h6
theorem begM_1 {fl : Nat} {m : CT} : begM fl m 1 = m 1 := by unfold begM; simp (decide := true) only [put_ne, st1_ne]
theorem begM_7 {fl : Nat} {m : CT} (v : Nat) : begM fl m 7 v = if v < tcl (m 1 0) then m 1 (8 + 5 * v + 1) else m 7 v := by unfold begM; simp (decide := true) only [put_ne, st1_ne, st1_eq]
theorem begM_9 {fl : Nat} {m : CT} (v : Nat) : begM fl m 9 v = 0 := by unfold begM; simp (decide := true) only [put_ne, st1_ne, st1_eq]
theorem begM_10 {fl : Nat} {m : CT} (v : Nat) : begM fl m 10 v = 0 := by unfold begM; simp (decide := true) only [put_ne, st1_ne, st1_eq]
theorem begM_11 {fl : Nat} {m : CT} (v : Nat) : begM fl m 11 v = if v % 3 = 2 then -1 else 0 := by unfold begM; simp (decide := true) only [put_ne, st1_ne, st1_eq]
theorem begM_0 {fl : Nat} {m : CT} : begM fl m 0 25 = m 0 25 ∧ begM fl m 0 20 = 0 ∧ begM fl m 0 21 = 0 ∧ begM fl m 0 22 = 0 ∧ begM fl m 0 23 = -1 := by
  unfold begM
  refine ⟨?_, ?_, ?_, ?_, ?_⟩ <;> simp [put, st1]
theorem beg_run {nv nc nf nl wk fl : Nat} {y m : CT} (hM : IM m nv nc nf nl wk) (hmo : 0 ≤ (m 1 6).toInt ∧ (m 1 6).toInt ≤ 100) (hB : BY nv nc nf nl wk y) (hS : SPm nv nc nf nl y m) (s7 : ∀ i, i < nf → y 29 i = tnM fl m i) (s8 : y 28 2 = m 1 6) (s9 : y 28 3 = m 0 25) (hw : ∀ v, v < nv → y 30 v = m 1 (8 + 5 * v + 1)) (hW : YW nv y) (hwz : ∀ v, nv ≤ v → y 30 v = 0) (hZ : ZY y) : SimY nv nc nf nl fl wk (runF y) (runM fl m) ∧ DY nv nc nf nl wk wk (runF y) := by
  obtain ⟨z32, z33, z34, z35, z36, z37, z38, z39, z40, z41, z16, z17, z18, z19⟩ := hZ
  have hM2 : IM (begM fl m) nv nc nf nl wk := hM.to begM_1
  have b0 := begM_0 (fl := fl) (m := m)
  refine run_sim hM2 hmo begM_1 ?_ ?_
  · refine ⟨?_, ?_, ?_, ?_, ?_, ?_, ?_, ?_, ?_, ?_, ?_, ?_, ?_, ?_, ?_, ?_, ?_, ?_, ?_, ?_, ?_, ?_, ?_, ?_⟩
    · rw [begM_1]; exact hS.1
    · rw [begM_1]; exact hS.2.1
    · rw [begM_1]; exact hS.2.2.1
    · rw [begM_1]; exact hS.2.2.2.1
    · rw [begM_1]; exact hS.2.2.2.2.1
    · rw [begM_1]; exact hS.2.2.2.2.2
    · intro i hi; rw [show tnM fl (begM fl m) i = tnM fl m i by simp only [tnM, begM_1]]; exact s7 i hi
    · rw [begM_1]; exact s8
    · rw [b0.1]; exact s9
    · intro v hv; rw [begM_7, hM.nvm.1, if_pos hv]; exact hw v hv
    · intro i _; rw [begM_9]; exact z32 i
    · intro i _; rw [begM_9]; exact z33 i
    · intro i _; rw [begM_9]; exact z34 i
    · intro i _; rw [begM_10]; exact z35 i
    · intro i _; rw [begM_10]; exact z36 i
    · intro i _; rw [begM_10]; exact z37 i
    · intro i _; rw [begM_11, if_neg (by omega)]; exact z38 i
    · intro i _; rw [begM_11, if_neg (by omega)]; exact z39 i
    · intro i _; rw [begM_11, if_pos (by omega)]; exact z40 i
    · rw [b0.2.1]; exact z16
    · rw [b0.2.2.1]; exact z17
    · rw [b0.2.2.2.1]; exact z18
    · rw [b0.2.2.2.2]; exact z19
    · intro v _ u hu; exact absurd hu (by omega)
  · refine ⟨hB, hW, fun i _ => ?_, fun i _ => ?_, fun i _ => ?_, fun v _ => ?_, fun i _ _ => ?_, fun i _ _ => ?_, ?_⟩
    · rw [z33, z34]; decide
    · rw [z36, z37]; decide
    · rw [z38, z39, z40, if_neg (Nat.not_lt_zero i)]; decide
    · rw [z41]; exact ⟨by decide, by rw [T0]; omega, ⟨fun _ j _ _ => z39 j, fun _ => rfl⟩⟩
    · rw [z33, z34]; exact ⟨rfl, rfl⟩
    · exact z37 i
    · exact ⟨fun i _ => ⟨z32 i, z33 i, z34 i⟩, fun i _ => ⟨z35 i, z36 i, z37 i⟩, fun i _ => z38 i, hwz⟩
theorem beg_Z {c : CT} : ZY (beginF c) := by
  unfold ZY beginF
  refine ⟨?_, ?_, ?_, ?_, ?_, ?_, ?_, ?_, ?_, ?_, ?_, ?_, ?_, ?_⟩
  all_goals try intro i
  all_goals simp [put, st1]
theorem beg_30 {c : CT} : beginF c 30 = waF c := by unfold beginF; simp (decide := true) only [put_ne, st1_ne, st1_eq]
theorem beg_28 {c : CT} : beginF c 28 2 = c 6 7 ∧ beginF c 28 3 = -1 := by unfold beginF; constructor <;> simp [put, st1]
/-- what class and reference hold alike between two calls: the PLAIN, more, TAKERS -/
def BL (nv nc nf nl wk : Nat) (c m : CT) : Prop := IX c nv nc nf nl wk ∧ KX c nv nf ∧ PRC nv nc nf nl wk c ∧ IM m nv nc nf nl wk ∧ SPm nv nc nf nl c m ∧ (∀ v, v < nv → c 8 (5 * v + 1) = m 1 (8 + 5 * v + 1)) ∧ (∀ i, i < nf → c 12 (4 * i + 3) = m 1 (157 + i)) ∧ c 6 7 = m 1 6 ∧ (0 ≤ (c 6 7).toInt ∧ (c 6 7).toInt ≤ 100) ∧ m 0 25 = -1 ∧ (0 < c 6 5 ↔ 0 < m 1 5) ∧ c 6 5 = m 1 4
theorem BL.ix {nv nc nf nl wk : Nat} {c m : CT} (h : BL nv nc nf nl wk c m) : IX c nv nc nf nl wk := h.1
theorem BL.kx {nv nc nf nl wk : Nat} {c m : CT} (h : BL nv nc nf nl wk c m) : KX c nv nf := h.2.1
theorem BL.pr {nv nc nf nl wk : Nat} {c m : CT} (h : BL nv nc nf nl wk c m) : PRC nv nc nf nl wk c := h.2.2.1
theorem BL.im {nv nc nf nl wk : Nat} {c m : CT} (h : BL nv nc nf nl wk c m) : IM m nv nc nf nl wk := h.2.2.2.1
theorem BL.sp {nv nc nf nl wk : Nat} {c m : CT} (h : BL nv nc nf nl wk c m) : SPm nv nc nf nl c m := h.2.2.2.2.1
theorem BL.wa {nv nc nf nl wk : Nat} {c m : CT} (h : BL nv nc nf nl wk c m) : ∀ v, v < nv → c 8 (5 * v + 1) = m 1 (8 + 5 * v + 1) := h.2.2.2.2.2.1
theorem BL.tk {nv nc nf nl wk : Nat} {c m : CT} (h : BL nv nc nf nl wk c m) : ∀ i, i < nf → c 12 (4 * i + 3) = m 1 (157 + i) := h.2.2.2.2.2.2.1
theorem BL.mo {nv nc nf nl wk : Nat} {c m : CT} (h : BL nv nc nf nl wk c m) : c 6 7 = m 1 6 := h.2.2.2.2.2.2.2.1
theorem BL.mb {nv nc nf nl wk : Nat} {c m : CT} (h : BL nv nc nf nl wk c m) : 0 ≤ (m 1 6).toInt ∧ (m 1 6).toInt ≤ 100 := by rw [← h.mo]; exact h.2.2.2.2.2.2.2.2.1
theorem BL.ln {nv nc nf nl wk : Nat} {c m : CT} (h : BL nv nc nf nl wk c m) : m 0 25 = -1 := h.2.2.2.2.2.2.2.2.2.1
theorem BL.pl {nv nc nf nl wk : Nat} {c m : CT} (h : BL nv nc nf nl wk c m) : 0 < c 6 5 ↔ 0 < m 1 5 := h.2.2.2.2.2.2.2.2.2.2.1
theorem BL.li {nv nc nf nl wk : Nat} {c m : CT} (h : BL nv nc nf nl wk c m) : c 6 5 = m 1 4 := h.2.2.2.2.2.2.2.2.2.2.2
theorem BL.tm {nv nc nf nl wk : Nat} {c m : CT} (h : BL nv nc nf nl wk c m) : TM m nv nf := fun i hi z => by
  rw [← h.tk i hi] at z ⊢
  exact h.kx.in hi h.ix.2.1 z
theorem BL.nb {nv nc nf nl wk : Nat} {c m : CT} (h : BL nv nc nf nl wk c m) : nv ≤ 6 ∧ nc ≤ 8 ∧ nf ≤ 3 ∧ nl ≤ 8 := ⟨h.ix.2.1, h.ix.2.2.2.1, h.ix.2.2.2.2.2.1, h.ix.2.2.2.2.2.2.2.1⟩
theorem waF_W {nv nc nf nl wk : Nat} {c : CT} (hI : IX c nv nc nf nl wk) (hP : PRC nv nc nf nl wk c) : YW nv (beginF c) := by
  intro v hv
  rw [beg_30, beginF_l (by decide), waF, hI.nvf.1, if_pos hv]
  have := hP.1 v hv
  exact this.2.1
/-- the YEAR by TAKERS as they are -/
theorem yr_sim {nv nc nf nl wk : Nat} {c m : CT} (h : BL nv nc nf nl wk c m) : SimY nv nc nf nl 7 wk (yrF c) (runM 7 m) ∧ DY nv nc nf nl wk wk (yrF c) := by
  have hI := h.ix
  have hv := hI.nvf.1
  have hf := hI.nvf.2.1
  have hf3 := h.nb.2.2.1
  refine beg_run h.im h.mb ⟨hI.bg, TX.bg hI h.kx, h.pr.to (fun l hl => beginF_l (by omega))⟩ (h.sp.to (fun l hl => beginF_l (by omega)) (fun _ _ _ => rfl) h.nb) ?_ ?_ ?_ ?_ (waF_W hI h.pr) ?_ beg_Z
  · intro i hi
    have e : (7 : Nat).testBit i = true := by
      have h3 : i < 3 := by omega
      match i, h3 with
      | 0, _ => decide
      | 1, _ => decide
      | 2, _ => decide
    rw [beginF_29, tkF, hf, if_pos hi, tnM, if_pos e]
    exact h.tk i hi
  · rw [beg_28.1]; exact h.mo
  · rw [beg_28.2]; exact h.ln.symm
  · intro v hv1
    rw [beg_30, waF, hv, if_pos hv1]
    exact h.wa v hv1
  · intro v hv1
    rw [beg_30, waF, hv, if_neg (by omega)]
/-- the reference's world with other TAKERS, else as it was -/
def OT (nf : Nat) (m m' : CT) : Prop := (∀ j, j < 157 → m' 1 j = m 1 j) ∧ m' 0 25 = m 0 25
/-- the YEAR by other TAKERS, of which perhaps not all FLOODS come -/
theorem lead_sim {nv nc nf nl wk fl k : Nat} {c m m' : CT} (h : BL nv nc nf nl wk c m) (hO : OT nf m m') (ht : ∀ i, i < nf → leadT c k i = tnM fl m' i) : SimY nv nc nf nl fl wk (runF (leadF c k)) (runM fl m') ∧ DY nv nc nf nl wk wk (runF (leadF c k)) := by
  have hI := h.ix
  have hv := hI.nvf.1
  have hb := h.nb
  have hl : ∀ l, l ≤ 15 → leadF c k l = c l := fun l hl => leadF_l (by omega)
  have e29 : leadF c k 29 = leadT c k := by rw [leadF, st1_eq]
  have eo : ∀ l, l ≠ 29 → leadF c k l = beginF c l := fun l hl => by rw [leadF, st1_ne hl]
  have hM : IM m' nv nc nf nl wk := by
    obtain ⟨hv, hv6, hc, hc8, hf, hf3, hl, hl8, hw, hw30, gC, gL⟩ := h.im
    unfold IM
    have e := hO.1
    refine ⟨(e _ (by decide)).trans hv, hv6, (e _ (by decide)).trans hc, hc8, (e _ (by decide)).trans hf, hf3, (e _ (by decide)).trans hl, hl8, (e _ (by decide)).trans hw, hw30, fun i hi => ?_, fun i hi => ?_⟩
    · rw [e _ (by omega)]; exact gC i hi
    · rw [e _ (by omega), e _ (by omega)]; exact gL i hi
  have hZ := beg_Z (c := c)
  have h30 : leadF c k 30 = waF c := (eo 30 (by decide)).trans beg_30
  have h28 : leadF c k 28 = beginF c 28 := eo 28 (by decide)
  refine beg_run hM (by rw [hO.1 6 (by decide)]; exact h.mb) ⟨hI.to hl, TX_lead hI k, h.pr.to hl⟩ (h.sp.to hl (fun j hj _ => hO.1 j hj) hb) (fun i hi => by rw [e29]; exact ht i hi) ?_ ?_ ?_ ?_ ?_ ?_
  · rw [h28, beg_28.1, hO.1 6 (by decide)]; exact h.mo
  · rw [h28, beg_28.2, hO.2]; exact h.ln.symm
  · intro v hv1
    rw [h30, waF, hv, if_pos hv1, hO.1 _ (by omega)]
    exact h.wa v hv1
  · exact (waF_W hI h.pr).to (eo 30 (by decide)) (eo 8 (by decide))
  · intro v hv1
    rw [h30, waF, hv, if_neg (by omega)]
  · unfold ZY at hZ ⊢
    rw [h28, eo 32 (by decide), eo 33 (by decide), eo 34 (by decide), eo 35 (by decide), eo 36 (by decide), eo 37 (by decide), eo 38 (by decide), eo 39 (by decide), eo 40 (by decide), eo 41 (by decide)]
    exact hZ
theorem sumI_ext {f g : Nat → Int32} : ∀ n, (∀ i, i < n → f i = g i) → sumI f n = sumI g n
  | 0, _ => rfl
  | n + 1, h => by rw [sumI, sumI, sumI_ext n (fun i hi => h i (by omega)), h n (by omega)]
theorem sumI_tail {f : Nat → Int32} {n : Nat} (hz : ∀ i, n ≤ i → f i = 0) : ∀ k, sumI f (n + k) = sumI f n
  | 0 => rfl
  | k + 1 => by rw [← Nat.add_assoc, sumI, sumI_tail hz k, hz _ (by omega), Int32.add_zero]
theorem sumI_to {f : Nat → Int32} {n N : Nat} (h : n ≤ N) (hz : ∀ i, n ≤ i → f i = 0) : sumI f N = sumI f n := by
  have := sumI_tail hz (N - n)
  rw [show n + (N - n) = N by omega] at this
  exact this
theorem sumI_sub {f g : Nat → Int32} : ∀ n, sumI (fun i => f i - g i) n = sumI f n - sumI g n
  | 0 => by simp [sumI]
  | n + 1 => by
    rw [sumI, sumI, sumI, sumI_sub n]
    simp only [Int32.sub_eq_add_neg, Int32.neg_add, Int32.add_assoc]
    congr 1
    rw [← Int32.add_assoc, ← Int32.add_assoc, Int32.add_comm (-sumI g n) (f n)]
theorem br_sim {nv nc nf nl wk fl : Nat} {y m : CT} (h : SimY nv nc nf nl fl wk y m ∧ DY nv nc nf nl wk wk y) (hb : nv ≤ 6 ∧ nc ≤ 8 ∧ nf ≤ 3 ∧ nl ≤ 8) : sumI (fun i => m 11 (3 * i + 0)) nc = sumI (y 38) 8 := by
  rw [sumI_to (N := 8) hb.2.1 (h.2.2.2.2.2.2.2.2.2.2.2.1)]
  exact sumI_ext nc (fun i hi => (h.1.d8 i hi).symm)
theorem sf_sim {nv nc nf nl wk fl : Nat} {y m : CT} (h : SimY nv nc nf nl fl wk y m ∧ DY nv nc nf nl wk wk y) (hb : nv ≤ 6 ∧ nc ≤ 8 ∧ nf ≤ 3 ∧ nl ≤ 8) : sumI (fun i => m 9 (3 * i + 1) - m 9 (3 * i + 2)) nf = sumI (y 33) 3 - sumI (y 34) 3 := by
  have hz := h.2.2.2.2.2.2.2.2.2.1
  rw [sumI_to (f := y 33) (N := 3) hb.2.2.1 (fun i hi => (hz i hi).2.1), sumI_to (f := y 34) (N := 3) hb.2.2.1 (fun i hi => (hz i hi).2.2), ← sumI_sub]
  exact sumI_ext nf (fun i hi => by rw [h.1.d3 i hi, h.1.d4 i hi])
theorem sl_sim {nv nc nf nl wk fl : Nat} {y m : CT} (h : SimY nv nc nf nl fl wk y m ∧ DY nv nc nf nl wk wk y) (hb : nv ≤ 6 ∧ nc ≤ 8 ∧ nf ≤ 3 ∧ nl ≤ 8) : sumI (fun i => m 10 (3 * i + 1) - m 10 (3 * i + 2)) nl = sumI (y 36) 8 - sumI (y 37) 8 := by
  have hz := h.2.2.2.2.2.2.2.2.2.2.1
  rw [sumI_to (f := y 36) (N := 8) hb.2.2.2 (fun i hi => (hz i hi).2.1), sumI_to (f := y 37) (N := 8) hb.2.2.2 (fun i hi => (hz i hi).2.2), ← sumI_sub]
  exact sumI_ext nl (fun i hi => by rw [h.1.d6 i hi, h.1.d7 i hi])
theorem sh_sim {nv nc nf nl wk fl : Nat} {y m : CT} (h : SimY nv nc nf nl fl wk y m ∧ DY nv nc nf nl wk wk y) (hb : nv ≤ 6 ∧ nc ≤ 8 ∧ nf ≤ 3 ∧ nl ≤ 8) : shortM m nf nl = shortF y := by
  rw [shortM, sf_sim h hb, sl_sim h hb, shortF]
  simp only [Int32.sub_eq_add_neg, Int32.add_assoc]
theorem sumI_b {f : Nat → Int32} {K : Int} (h0 : 0 ≤ K) : ∀ n : Nat, (∀ i, i < n → 0 ≤ (f i).toInt ∧ (f i).toInt ≤ K) → (n : Int) * K ≤ 1000000 → 0 ≤ (sumI f n).toInt ∧ (sumI f n).toInt ≤ n * K
  | 0, _, _ => by rw [sumI, T0]; omega
  | n + 1, h, hk => by
    have e : ((n + 1 : Nat) : Int) * K = n * K + K := by rw [Int.natCast_add, Int.add_mul]; omega
    rw [e] at hk ⊢
    have h1 := sumI_b h0 n (fun i hi => h i (by omega)) (by omega)
    have h2 := h n (by omega)
    rw [sumI, addT (by omega) (by omega)]
    omega
/-- what is BROUGHT and SHORT is not below 0 -/
theorem br_pos {nv nc nf nl wk : Nat} {y : CT} (h : DY nv nc nf nl wk wk y) (hb : nv ≤ 6 ∧ nc ≤ 8 ∧ nf ≤ 3 ∧ nl ≤ 8) : 0 ≤ (sumI (y 38) 8).toInt := by
  have hw := h.1.1.2.2.2.2.2.2.2.2.2.1
  rw [sumI_to (N := 8) hb.2.1 (h.2.2.2.2.2.2.2.2.2.2.1)]
  refine (sumI_b (K := 3000) (by decide) nc (fun i hi => ?_) (by omega)).1
  have := h.2.2.2.2.1 i hi
  rw [if_neg (by omega)] at this
  omega
theorem sh_pos {nv nc nf nl wk fl : Nat} {y m : CT} (h : SimY nv nc nf nl fl wk y m ∧ DY nv nc nf nl wk wk y) (hb : nv ≤ 6 ∧ nc ≤ 8 ∧ nf ≤ 3 ∧ nl ≤ 8) : 0 ≤ (shortF y).toInt := by
  rw [← sh_sim h hb, shortM]
  have q1 := sumI_b (f := fun i => m 9 (3 * i + 1) - m 9 (3 * i + 2)) (K := 30000) (by decide) nf (fun i hi => by
    have := h.2.2.2.1 i hi
    show 0 ≤ (m 9 (3 * i + 1) - m 9 (3 * i + 2)).toInt ∧ _
    rw [← h.1.d3 i hi, ← h.1.d4 i hi, subT (by omega) (by omega)]; omega) (by omega)
  have q2 := sumI_b (f := fun i => m 10 (3 * i + 1) - m 10 (3 * i + 2)) (K := 30000) (by decide) nl (fun i hi => by
    have := h.2.2.2.2.1 i hi
    show 0 ≤ (m 10 (3 * i + 1) - m 10 (3 * i + 2)).toInt ∧ _
    rw [← h.1.d6 i hi, ← h.1.d7 i hi, subT (by omega) (by omega)]; omega) (by omega)
  rw [addT (by omega) (by omega)]
  omega