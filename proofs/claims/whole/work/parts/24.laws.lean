/-! DEBTS, RINGS, LAWS as they are asked for -/
def sameD (c c' : CT) : Prop := ∀ l, l ≤ 27 ∨ l = 43 ∨ l = 44 ∨ l = 45 → c' l = c l
theorem sameD.tr {a b c : CT} (h : sameD a b) (h2 : sameD b c) : sameD a c := fun l hl => (h2 l hl).trans (h l hl)
theorem IX.D {c c' : CT} {nv nc nf nl wk : Nat} (h : IX c nv nc nf nl wk) (e : sameD c c') : IX c' nv nc nf nl wk := h.to (fun l hl => e l (Or.inl (by omega)))
theorem put_kk {c : CT} {k i : Nat} {v : Int32} : put c k i v k i = v := by simp [put]
theorem put_kj {c : CT} {k i j : Nat} {v : Int32} (h : i ≠ j) : put c k j v k i = c k i := by simp [put, h]
theorem crR_l {nv l : Nat} (h : l ≤ 45 ∨ l = 48 ∨ l = 52) : ∀ (k : Nat) (c : CT), crR nv k c l = c l := by
  intro k
  induction k with
  | zero => intro c; rfl
  | succ k ih =>
    intro c
    rw [crR]
    split
    · rw [st1_ne (by omega)]
    · rw [ih, crdF_l (by omega), st1_ne (by omega)]
theorem clearF_l {l : Nat} {c : CT} (h : l ≤ 45 ∨ l = 48 ∨ l = 52) : clearF c l = c l := by
  rw [clearF, crR_l h, put_ne (by omega), put_ne (by omega), st1_ne (by omega)]
theorem crR_n {nv : Nat} : ∀ (k m : Nat) (c : CT), c 46 7 = nI m → ∃ m', m' ≤ m + k ∧ crR nv k c 46 7 = nI m' := by
  intro k
  induction k with
  | zero => intro m c h; exact ⟨m, Nat.le_refl _, h⟩
  | succ k ih =>
    intro m c h
    rw [crR]
    split
    · exact ⟨m, by omega, by rw [st1_ne (by decide)]; exact h⟩
    · obtain ⟨m', h1, h2⟩ := ih (m + 1) (crdF (frF (c 50) nv (nv - 1) 2 (c 53)).1 (st1 c 53 (frF (c 50) nv (nv - 1) 2 (c 53)).2)) (by
        rw [crdF, put_kk, st1_ne (by decide), h]
        exact nI_1 m)
      exact ⟨m', by omega, h2⟩
theorem clearF_n {c : CT} : ∃ m, m ≤ 8 ∧ clearF c 46 7 = nI m := by
  obtain ⟨m, h1, h2⟩ := crR_n (nv := tcl (c 7 2)) 8 0 (put (put (st1 c 50 (c 48)) 46 7 0) 46 8 0) (by
    rw [put_kj (by decide), put_kk]
    rfl)
  exact ⟨m, by omega, h2⟩
theorem strikeF_s {law : Int32} {c : CT} : same49 c (strikeF law c) := forR_keep (fun z => same49 c z) (fun _ _ hz => hz.tr stS_s) _ _ _ (fun l hl => st1_ne hl)
theorem strikeF_c {law : Int32} {c y : CT} (h : same49 c y) : strikeF law y = strikeF law c := by
  have e : st1 y 52 (fun _ => (0 : Int32)) = st1 c 52 (fun _ => 0) := by
    funext l
    by_cases hl : l = 52
    · rw [hl, st1_eq, st1_eq]
    · rw [st1_ne hl, st1_ne hl, h l hl]
  rw [strikeF, strikeF, e, h 7 (by decide)]
def dbF (c : CT) : CT := reckF (yrF c)
theorem dbF_D {c : CT} : sameD c (dbF c) := fun l hl => by rw [dbF, reckF, st1_ne (by omega)]; exact yrF_l (by omega)
theorem dbF_C {c : CT} : sameD c (clearF (dbF c)) := dbF_D.tr (fun l hl => clearF_l (by omega))
theorem dbF_S {c : CT} {law : Int32} : sameD c (strikeF law (dbF c)) := dbF_D.tr (fun l hl => strikeF_s l (by omega))
theorem pairI_of {c : CT} {v t : Int32} {nv : Nat} (hv : c 7 2 = nI nv) (hv6 : nv ≤ 6) (h : ¬ pairI c v t = 0) : ∃ j k, j < nv ∧ k < nv ∧ j ≠ k ∧ v = nI j ∧ t = nI k := by
  have h1 : ¬ (inI v (c 7 2) = 0 ∨ inI t (c 7 2) = 0 ∨ v = t) := fun z => h (if_pos z)
  obtain ⟨j, hj, ej⟩ := inI_of hv (fun z => h1 (Or.inl z)) (by omega)
  obtain ⟨k, hk, ek⟩ := inI_of hv (fun z => h1 (Or.inr (Or.inl z))) (by omega)
  exact ⟨j, k, hj, hk, fun e => h1 (Or.inr (Or.inr (by rw [ej, ek, e]))), ej, ek⟩
def pr (v t : Int32) : Nat := tcl v * 6 + tcl t
def owesA (c : CT) (v t : Int32) : Int32 := if pairI c v t = 0 then -2 else dbF c 48 (pr v t)
def ringsA (c : CT) (t : Int32) : Int32 := if 0 < c 6 5 ∧ (t = 0 ∨ t = 1) then if t = 0 then clearF (dbF c) 46 7 else clearF (dbF c) 46 8 else -2
def ringA (c : CT) (i : Int32) : Int32 := if 0 < c 6 5 then if inI i (clearF (dbF c) 46 7) = 0 then -1 else clearF (dbF c) 54 (tcl i) else -2
def leftA (c : CT) (v t : Int32) : Int32 := if pairI c v t = 0 then -2 else clearF (dbF c) 50 (pr v t)
def struckA (c : CT) (nv : Nat) (law t : Int32) : Int32 := if 0 < c 6 5 ∧ ¬ inI law 3 = 0 ∧ (t = 0 ∨ t = 1) then if t = 0 then sumI (strikeF law (dbF c) 52) 36 else ruF (strikeF law (dbF c)) nv nv else -2
def paysA (c : CT) (law v t : Int32) : Int32 := if inI law 3 = 0 ∨ pairI c v t = 0 then -2 else strikeF law (dbF c) 52 (pr v t)
def ush (x y : Int32) : Int32 := (x.toUInt32 >>> (y.toUInt32 &&& Int32.toUInt32 31)).toInt32
def bit1 (v : Int32) : Int32 := v - (ush v 1 &&& 1431655765)
def bit2 (v : Int32) : Int32 := (bit1 v &&& 858993459) + (ush (bit1 v) 2 &&& 858993459)
def bit3 (v : Int32) : Int32 := (bit2 v + ush (bit2 v) 4) &&& 252645135
def bit4 (v : Int32) : Int32 := bit3 v + ush (bit3 v) 8
def bit5 (v : Int32) : Int32 := bit4 v + ush (bit4 v) 16
def bitC (v : Int32) : Int32 := bit5 v &&& 63
/-- the mildest of the first laws, and how many it ruins -/
def lawR (c : CT) (nv : Nat) : Nat → Int32 × Int32
  | 0 => (0, 7)
  | i + 1 => if bitC (ruF (strikeF (nI i) c) nv nv) < (lawR c nv i).2 then (nI i, bitC (ruF (strikeF (nI i) c) nv nv)) else lawR c nv i
def lawA (c : CT) (nv : Nat) : Int32 := if 0 < c 6 5 then (lawR (dbF c) nv 3).1 else -2
theorem c_reckonDebts (G : GX) {b : Nat} {c : CT} {co : Nat → Nat → Option Nat} {r : Nat → Option AE} {n : Nat} {nv nc nf nl wk : Nat} (hI : IX c nv nc nf nl wk) (hK : KX c nv nf) : MA G 5 yX9_reckonDebts cX9_reckonDebts 1 none 0 0 [.ref b] (HC b c co r n) (qV fun h1 => h1 = HC b (dbF c) co r n) := by
  refine MA.of (own := RX9) false [some (.ref b)] (by decide +kernel) rfl (fun h => by cases h) (Nat.le_of_ble_eq_true rfl) rfl (fun X => ?_)
  refine A_aload_n dX9_reckonDebts_0 rfl rfl ?_
  refine A_get dX9_reckonDebts_1 f_X9_50 HC_at0 rfl ?_
  refine A_callVv dX9_reckonDebts_4 m_X9_153 cb_X8_begin (As := []) rfl (HC_at (by decide)) rfl (c_begin G hI) rfl ⟨by decide, by decide⟩ (Nat.le_of_ble_eq_true rfl) ⟨by decide, by decide⟩ (fun h4 hq => ?_)
  obtain rfl := hq
  refine A_aload_n dX9_reckonDebts_7 rfl rfl ?_
  refine A_get dX9_reckonDebts_8 f_X9_50 HC_at0 rfl ?_
  refine A_callVv dX9_reckonDebts_11 m_X9_156 cb_X8_run (As := []) rfl (HC_at (by decide)) rfl (c_run G hI.bg (TX.bg hI hK)) rfl ⟨by decide, by decide⟩ (Nat.le_of_ble_eq_true rfl) ⟨by decide, by decide⟩ (fun h11 hq => ?_)
  obtain rfl := hq
  have hI2 := (hI.bg).P (runF_P (c := beginF c))
  have eD : reckF (runF (beginF c)) = dbF c := rfl
  obtain ⟨y, ey⟩ : ∃ y, runF (beginF c) = y := ⟨_, rfl⟩
  rw [ey] at hI2 eD ⊢
  refine A_aload_n dX9_reckonDebts_14 rfl rfl ?_
  refine A_get dX9_reckonDebts_15 f_X9_66 HC_at0 rfl ?_
  refine A_callVv dX9_reckonDebts_18 m_X9_339 cb_X0_reckon (As := []) rfl (HC_at (by decide)) rfl (c_reckon G hI2) rfl ⟨by decide, by decide⟩ (Nat.le_of_ble_eq_true rfl) ⟨by decide, by decide⟩ (fun h18 hq => ?_)
  obtain rfl := hq
  exact A_vret dX9_reckonDebts_21 (by rw [eD]) ⟨by decide, by decide⟩

theorem c_owes (G : GX) {b : Nat} {c : CT} {co : Nat → Nat → Option Nat} {r : Nat → Option AE} {n : Nat} {nv nc nf nl wk : Nat} {v t : Int32} (hI : IX c nv nc nf nl wk) (hK : KX c nv nf) (hCa : CacheOk c (tot nv nf)) : MA G 6 yX9_owes cX9_owes 3 (some .int) 0 0 [.ref b, .int v, .int t] (HC b c co r n) (qI fun x h1 => x = owesA c v t ∧ ∃ c1, h1 = HC b c1 co r n ∧ keepC c c1 (tot nv nf)) := by
  refine MA.of (own := RX9) false [some (.ref b), some (.int v), some (.int t)] (by decide +kernel) rfl (fun h => by cases h) (Nat.le_of_ble_eq_true rfl) rfl (fun X => ?_)
  obtain ⟨hv, hv6, hc, hc8, hf, hf3, hl, hl8, hw, hw30, gC, gL⟩ := id hI
  refine A_aload_n dX9_owes_0 rfl rfl ?_
  refine A_iload_n dX9_owes_1 rfl rfl ?_
  refine A_iload_n dX9_owes_2 rfl rfl ?_
  refine A_callVi dX9_owes_3 m_X9_342 cb_X9_arePair (As := [_, _]) rfl HC_at0 rfl (c_arePair G) rfl ⟨by decide, by decide⟩ (Nat.le_of_ble_eq_true rfl) ⟨by decide, by decide⟩ (fun x3 h3 hq => ?_)
  obtain ⟨rfl, rfl⟩ := hq
  refine A_if_ne 12 dX9_owes_6 (by decide) (fun c6 => ?_) (fun c6 => ?_)
  · refine A_aload_n dX9_owes_12 rfl rfl ?_
    obtain ⟨j, k, hj, hk, hjk, rfl, rfl⟩ := pairI_of hv hv6 c6
    refine A_callVv dX9_owes_13 m_X9_345 cb_X9_reckonDebts (As := []) rfl HC_at0 rfl (c_reckonDebts G hI hK) rfl ⟨by decide, by decide⟩ (Nat.le_of_ble_eq_true rfl) ⟨by decide, by decide⟩ (fun h13 hq => ?_)
    obtain rfl := hq
    obtain ⟨y, hy⟩ : ∃ y, dbF c = y := ⟨_, rfl⟩
    have hD := dbF_D (c := c)
    rw [hy] at hD ⊢
    have hI2 := hI.D hD
    refine A_aload_n dX9_owes_16 rfl rfl ?_
    refine A_get dX9_owes_17 f_X9_66 HC_at0 rfl ?_
    refine A_get dX9_owes_20 f_X9_348 (HC_at (by decide)) rfl ?_
    refine A_iload_n dX9_owes_23 rfl rfl ?_
    refine A_iload_n dX9_owes_24 rfl rfl ?_
    refine A_callVi dX9_owes_25 m_X9_352 cb_X11_at (As := [_, _]) rfl (HC_at (by decide)) rfl (c_pAt48 G (by omega) (by omega)) rfl ⟨by decide, by decide⟩ (Nat.le_of_ble_eq_true rfl) ⟨by decide, by decide⟩ (fun x25 h25 hq => ?_)
    obtain ⟨rfl, rfl⟩ := hq
    exact A_iret dX9_owes_28 ⟨by rw [owesA, if_neg c6, hy, pr, tcl_nI (by omega), tcl_nI (by omega)], y, rfl, keepC.of hCa hD⟩ ⟨by decide, by decide⟩
  · refine A_bipush (v := (-2)) dX9_owes_9 (by decide) ?_
    exact A_iret dX9_owes_11 ⟨(if_pos (by assumption)).symm, ⟨c, rfl, keepC.rf hCa⟩⟩ ⟨by decide, by decide⟩

theorem c_left (G : GX) {b : Nat} {c : CT} {co : Nat → Nat → Option Nat} {r : Nat → Option AE} {n : Nat} {nv nc nf nl wk : Nat} {v t : Int32} (hI : IX c nv nc nf nl wk) (hK : KX c nv nf) (hCa : CacheOk c (tot nv nf)) : MA G 10 yX9_left cX9_left 3 (some .int) 0 0 [.ref b, .int v, .int t] (HC b c co r n) (qI fun x h1 => x = leftA c v t ∧ ∃ c1, h1 = HC b c1 co r n ∧ keepC c c1 (tot nv nf)) := by
  refine MA.of (own := RX9) false [some (.ref b), some (.int v), some (.int t)] (by decide +kernel) rfl (fun h => by cases h) (Nat.le_of_ble_eq_true rfl) rfl (fun X => ?_)
  obtain ⟨hv, hv6, hc, hc8, hf, hf3, hl, hl8, hw, hw30, gC, gL⟩ := id hI
  refine A_aload_n dX9_left_0 rfl rfl ?_
  refine A_iload_n dX9_left_1 rfl rfl ?_
  refine A_iload_n dX9_left_2 rfl rfl ?_
  refine A_callVi dX9_left_3 m_X9_342 cb_X9_arePair (As := [_, _]) rfl HC_at0 rfl (c_arePair G) rfl ⟨by decide, by decide⟩ (Nat.le_of_ble_eq_true rfl) ⟨by decide, by decide⟩ (fun x3 h3 hq => ?_)
  obtain ⟨rfl, rfl⟩ := hq
  refine A_if_ne 12 dX9_left_6 (by decide) (fun c6 => ?_) (fun c6 => ?_)
  · refine A_aload_n dX9_left_12 rfl rfl ?_
    obtain ⟨j, k, hj, hk, hjk, rfl, rfl⟩ := pairI_of hv hv6 c6
    refine A_callVv dX9_left_13 m_X9_345 cb_X9_reckonDebts (As := []) rfl HC_at0 rfl (c_reckonDebts G hI hK) rfl ⟨by decide, by decide⟩ (Nat.le_of_ble_eq_true rfl) ⟨by decide, by decide⟩ (fun h13 hq => ?_)
    obtain rfl := hq
    obtain ⟨y, hy⟩ : ∃ y, dbF c = y := ⟨_, rfl⟩
    have hD := dbF_D (c := c)
    rw [hy] at hD ⊢
    have hI2 := hI.D hD
    refine A_aload_n dX9_left_16 rfl rfl ?_
    refine A_get dX9_left_17 f_X9_66 HC_at0 rfl ?_
    refine A_callVv dX9_left_20 m_X9_355 cb_X0_clearRings (As := []) rfl (HC_at (by decide)) rfl (c_clearRings G hI2) rfl ⟨by decide, by decide⟩ (Nat.le_of_ble_eq_true rfl) ⟨by decide, by decide⟩ (fun h20 hq => ?_)
    obtain rfl := hq
    have hD2 := dbF_C (c := c)
    rw [hy] at hD2
    have hN := clearF_n (c := y)
    obtain ⟨w, hw2⟩ : ∃ w, clearF y = w := ⟨_, rfl⟩
    rw [hw2] at hD2 hN ⊢
    refine A_aload_n dX9_left_23 rfl rfl ?_
    refine A_get dX9_left_24 f_X9_66 HC_at0 rfl ?_
    refine A_get dX9_left_27 f_X9_367 (HC_at (by decide)) rfl ?_
    refine A_iload_n dX9_left_30 rfl rfl ?_
    refine A_iload_n dX9_left_31 rfl rfl ?_
    refine A_callVi dX9_left_32 m_X9_352 cb_X11_at (As := [_, _]) rfl (HC_at (by decide)) rfl (c_pAt50 G (by omega) (by omega)) rfl ⟨by decide, by decide⟩ (Nat.le_of_ble_eq_true rfl) ⟨by decide, by decide⟩ (fun x32 h32 hq => ?_)
    obtain ⟨rfl, rfl⟩ := hq
    exact A_iret dX9_left_35 ⟨by rw [leftA, if_neg c6, hy, hw2, pr, tcl_nI (by omega), tcl_nI (by omega)], w, rfl, keepC.of hCa hD2⟩ ⟨by decide, by decide⟩
  · refine A_bipush (v := (-2)) dX9_left_9 (by decide) ?_
    exact A_iret dX9_left_11 ⟨(if_pos (by assumption)).symm, ⟨c, rfl, keepC.rf hCa⟩⟩ ⟨by decide, by decide⟩

theorem c_rings (G : GX) {b : Nat} {c : CT} {co : Nat → Nat → Option Nat} {r : Nat → Option AE} {n : Nat} {nv nc nf nl wk : Nat} {t : Int32} (hI : IX c nv nc nf nl wk) (hK : KX c nv nf) (hCa : CacheOk c (tot nv nf)) : MA G 10 yX9_rings cX9_rings 2 (some .int) 0 0 [.ref b, .int t] (HC b c co r n) (qI fun x h1 => x = ringsA c t ∧ ∃ c1, h1 = HC b c1 co r n ∧ keepC c c1 (tot nv nf)) := by
  refine MA.of (own := RX9) false [some (.ref b), some (.int t)] (by decide +kernel) rfl (fun h => by cases h) (Nat.le_of_ble_eq_true rfl) rfl (fun X => ?_)
  refine A_aload_n dX9_rings_0 rfl rfl ?_
  refine A_callVi dX9_rings_1 m_X9_124 cb_X9_hasPlain (As := []) rfl HC_at0 rfl (c_hasPlain G) rfl ⟨by decide, by decide⟩ (Nat.le_of_ble_eq_true rfl) ⟨by decide, by decide⟩ (fun x1 h1 hq => ?_)
  obtain ⟨rfl, rfl⟩ := hq
  refine A_if_eq 16 dX9_rings_4 (by decide) (fun c4 => ?_) (fun c4 => ?_)
  · refine A_bipush (v := (-2)) dX9_rings_16 (by decide) ?_
    exact A_iret dX9_rings_18 ⟨by rw [ringsA, if_neg (by rintro ⟨hp, ht⟩; first | (rw [if_pos hp] at c4; exact absurd c4 (by decide)) | exact ht.elim c8 c13)], ⟨c, rfl, keepC.rf hCa⟩⟩ ⟨by decide, by decide⟩
  · refine A_iload_n dX9_rings_7 rfl rfl ?_
    refine A_if_eq 19 dX9_rings_8 (by decide) (fun c8 => ?_) (fun c8 => ?_)
    · refine A_aload_n dX9_rings_19 rfl rfl ?_
      have hp : 0 < c 6 5 ∧ (t = 0 ∨ t = 1) := ⟨by by_cases z : 0 < c 6 5; exact z; exact absurd (if_neg z) c4, by first | exact Or.inl (by assumption) | exact Or.inr (by assumption)⟩
      refine A_callVv dX9_rings_20 m_X9_345 cb_X9_reckonDebts (As := []) rfl HC_at0 rfl (c_reckonDebts G hI hK) rfl ⟨by decide, by decide⟩ (Nat.le_of_ble_eq_true rfl) ⟨by decide, by decide⟩ (fun h20 hq => ?_)
      obtain rfl := hq
      obtain ⟨y, hy⟩ : ∃ y, dbF c = y := ⟨_, rfl⟩
      have hD := dbF_D (c := c)
      rw [hy] at hD ⊢
      have hI2 := hI.D hD
      refine A_aload_n dX9_rings_23 rfl rfl ?_
      refine A_get dX9_rings_24 f_X9_66 HC_at0 rfl ?_
      refine A_callVv dX9_rings_27 m_X9_355 cb_X0_clearRings (As := []) rfl (HC_at (by decide)) rfl (c_clearRings G hI2) rfl ⟨by decide, by decide⟩ (Nat.le_of_ble_eq_true rfl) ⟨by decide, by decide⟩ (fun h27 hq => ?_)
      obtain rfl := hq
      have hD2 := dbF_C (c := c)
      rw [hy] at hD2
      have hN := clearF_n (c := y)
      obtain ⟨w, hw2⟩ : ∃ w, clearF y = w := ⟨_, rfl⟩
      rw [hw2] at hD2 hN ⊢
      refine A_iload_n dX9_rings_30 rfl rfl ?_
      refine A_if_ne 44 dX9_rings_31 (by decide) (fun c31 => ?_) (fun c31 => ?_)
      · refine A_aload_n dX9_rings_44 rfl rfl ?_
        refine A_get dX9_rings_45 f_X9_66 HC_at0 rfl ?_
        refine A_get dX9_rings_48 f_X9_361 (HC_at (by decide)) rfl ?_
        exact A_iret dX9_rings_51 ⟨by rw [ringsA, if_pos hp, if_neg (by assumption), hy, hw2], w, rfl, keepC.of hCa hD2⟩ ⟨by decide, by decide⟩
      · refine A_aload_n dX9_rings_34 rfl rfl ?_
        refine A_get dX9_rings_35 f_X9_66 HC_at0 rfl ?_
        refine A_get dX9_rings_38 f_X9_358 (HC_at (by decide)) rfl ?_
        refine A_goto 51 dX9_rings_41 (by decide) ?_
        exact A_iret dX9_rings_51 ⟨by rw [ringsA, if_pos hp, if_pos (by assumption), hy, hw2], w, rfl, keepC.of hCa hD2⟩ ⟨by decide, by decide⟩
    · refine A_iload_n dX9_rings_11 rfl rfl ?_
      refine A_iconst (v := 1) dX9_rings_12 (by decide) ?_
      refine A_icmp_eq 19 dX9_rings_13 (by decide) (fun c13 => ?_) (fun c13 => ?_)
      · refine A_aload_n dX9_rings_19 rfl rfl ?_
        have hp : 0 < c 6 5 ∧ (t = 0 ∨ t = 1) := ⟨by by_cases z : 0 < c 6 5; exact z; exact absurd (if_neg z) c4, by first | exact Or.inl (by assumption) | exact Or.inr (by assumption)⟩
        refine A_callVv dX9_rings_20 m_X9_345 cb_X9_reckonDebts (As := []) rfl HC_at0 rfl (c_reckonDebts G hI hK) rfl ⟨by decide, by decide⟩ (Nat.le_of_ble_eq_true rfl) ⟨by decide, by decide⟩ (fun h20 hq => ?_)
        obtain rfl := hq
        obtain ⟨y, hy⟩ : ∃ y, dbF c = y := ⟨_, rfl⟩
        have hD := dbF_D (c := c)
        rw [hy] at hD ⊢
        have hI2 := hI.D hD
        refine A_aload_n dX9_rings_23 rfl rfl ?_
        refine A_get dX9_rings_24 f_X9_66 HC_at0 rfl ?_
        refine A_callVv dX9_rings_27 m_X9_355 cb_X0_clearRings (As := []) rfl (HC_at (by decide)) rfl (c_clearRings G hI2) rfl ⟨by decide, by decide⟩ (Nat.le_of_ble_eq_true rfl) ⟨by decide, by decide⟩ (fun h27 hq => ?_)
        obtain rfl := hq
        have hD2 := dbF_C (c := c)
        rw [hy] at hD2
        have hN := clearF_n (c := y)
        obtain ⟨w, hw2⟩ : ∃ w, clearF y = w := ⟨_, rfl⟩
        rw [hw2] at hD2 hN ⊢
        refine A_iload_n dX9_rings_30 rfl rfl ?_
        refine A_if_ne 44 dX9_rings_31 (by decide) (fun c31 => ?_) (fun c31 => ?_)
        · refine A_aload_n dX9_rings_44 rfl rfl ?_
          refine A_get dX9_rings_45 f_X9_66 HC_at0 rfl ?_
          refine A_get dX9_rings_48 f_X9_361 (HC_at (by decide)) rfl ?_
          exact A_iret dX9_rings_51 ⟨by rw [ringsA, if_pos hp, if_neg (by assumption), hy, hw2], w, rfl, keepC.of hCa hD2⟩ ⟨by decide, by decide⟩
        · refine A_aload_n dX9_rings_34 rfl rfl ?_
          refine A_get dX9_rings_35 f_X9_66 HC_at0 rfl ?_
          refine A_get dX9_rings_38 f_X9_358 (HC_at (by decide)) rfl ?_
          refine A_goto 51 dX9_rings_41 (by decide) ?_
          exact A_iret dX9_rings_51 ⟨by rw [ringsA, if_pos hp, if_pos (by assumption), hy, hw2], w, rfl, keepC.of hCa hD2⟩ ⟨by decide, by decide⟩
      · refine A_bipush (v := (-2)) dX9_rings_16 (by decide) ?_
        exact A_iret dX9_rings_18 ⟨by rw [ringsA, if_neg (by rintro ⟨hp, ht⟩; first | (rw [if_pos hp] at c4; exact absurd c4 (by decide)) | exact ht.elim c8 c13)], ⟨c, rfl, keepC.rf hCa⟩⟩ ⟨by decide, by decide⟩

theorem c_bitsOf (G : GX) {b : Nat} {c : CT} {co : Nat → Nat → Option Nat} {r : Nat → Option AE} {n : Nat} {i : Int32} {m : Nat} (hm : m ≤ 8) (em : c 46 7 = nI m) : MA G 1 yX0_bitsOf cX0_bitsOf 2 (some .int) 0 0 [.ref (b + 46), .int i] (HC b c co r n) (qI fun x h1 => x = (if inI i (c 46 7) = 0 then -1 else c 54 (tcl i)) ∧ h1 = HC b c co r n) := by
  refine MA.of (own := RX0) false [some (.ref (b + 46)), some (.int i)] (by decide +kernel) rfl (fun h => by cases h) (Nat.le_of_ble_eq_true rfl) rfl (fun X => ?_)
  refine A_iload_n dX0_bitsOf_0 rfl rfl ?_
  refine A_if_lt 26 dX0_bitsOf_1 (by decide) (fun c1 => ?_) (fun c1 => ?_)
  · refine A_iconst (v := (-1)) dX0_bitsOf_26 (by decide) ?_
    exact A_iret dX0_bitsOf_27 ⟨(if_pos (show inI i (c 46 7) = 0 from if_pos (by first | exact Or.inl (by assumption) | exact Or.inr (by assumption)))).symm, rfl⟩ ⟨by decide, by decide⟩
  · refine A_iload_n dX0_bitsOf_4 rfl rfl ?_
    refine A_aload_n dX0_bitsOf_5 rfl rfl ?_
    refine A_get dX0_bitsOf_6 f_X0_74 (HC_at (by decide)) rfl ?_
    refine A_bipush (v := 8) dX0_bitsOf_9 (by decide) ?_
    refine A_min dX0_bitsOf_11 w_1016 (by decide) (Nat.le_of_ble_eq_true rfl) ⟨by decide, by decide⟩ ?_
    refine A_eqI (y := c 46 7) ?_ ?_
    · rw [em]; exact if_neg (nI_nlt (a := 8) (b := m) hm (by decide))
    refine A_icmp_ge 26 dX0_bitsOf_14 (by decide) (fun c14 => ?_) (fun c14 => ?_)
    · refine A_iconst (v := (-1)) dX0_bitsOf_26 (by decide) ?_
      exact A_iret dX0_bitsOf_27 ⟨(if_pos (show inI i (c 46 7) = 0 from if_pos (by first | exact Or.inl (by assumption) | exact Or.inr (by assumption)))).symm, rfl⟩ ⟨by decide, by decide⟩
    · have ci : ¬ inI i (c 46 7) = 0 := fun z => by rw [inI, if_neg (fun q => q.elim c1 c14)] at z; exact absurd z (by decide)
      obtain ⟨k, hk, rfl⟩ := inI_of em ci (by omega)
      refine A_aload_n dX0_bitsOf_17 rfl rfl ?_
      refine A_get dX0_bitsOf_18 f_X0_28 (HC_at (by decide)) rfl ?_
      refine A_iload_n dX0_bitsOf_21 rfl rfl ?_
      refine A_ialdN dX0_bitsOf_22 (HC_at (by decide)) (by omega) (by decide) ?_
      refine A_goto 27 dX0_bitsOf_23 (by decide) ?_
      exact A_iret dX0_bitsOf_27 ⟨by rw [if_neg ci, tcl_nI (by omega)], rfl⟩ ⟨by decide, by decide⟩

theorem c_ring (G : GX) {b : Nat} {c : CT} {co : Nat → Nat → Option Nat} {r : Nat → Option AE} {n : Nat} {nv nc nf nl wk : Nat} {i : Int32} (hI : IX c nv nc nf nl wk) (hK : KX c nv nf) (hCa : CacheOk c (tot nv nf)) : MA G 10 yX9_ring cX9_ring 2 (some .int) 0 0 [.ref b, .int i] (HC b c co r n) (qI fun x h1 => x = ringA c i ∧ ∃ c1, h1 = HC b c1 co r n ∧ keepC c c1 (tot nv nf)) := by
  refine MA.of (own := RX9) false [some (.ref b), some (.int i)] (by decide +kernel) rfl (fun h => by cases h) (Nat.le_of_ble_eq_true rfl) rfl (fun X => ?_)
  refine A_aload_n dX9_ring_0 rfl rfl ?_
  refine A_callVi dX9_ring_1 m_X9_124 cb_X9_hasPlain (As := []) rfl HC_at0 rfl (c_hasPlain G) rfl ⟨by decide, by decide⟩ (Nat.le_of_ble_eq_true rfl) ⟨by decide, by decide⟩ (fun x1 h1 hq => ?_)
  obtain ⟨rfl, rfl⟩ := hq
  refine A_if_ne 10 dX9_ring_4 (by decide) (fun c4 => ?_) (fun c4 => ?_)
  · refine A_aload_n dX9_ring_10 rfl rfl ?_
    have hp : 0 < c 6 5 := by by_cases z : 0 < c 6 5; exact z; exact absurd (if_neg z) c4
    refine A_callVv dX9_ring_11 m_X9_345 cb_X9_reckonDebts (As := []) rfl HC_at0 rfl (c_reckonDebts G hI hK) rfl ⟨by decide, by decide⟩ (Nat.le_of_ble_eq_true rfl) ⟨by decide, by decide⟩ (fun h11 hq => ?_)
    obtain rfl := hq
    obtain ⟨y, hy⟩ : ∃ y, dbF c = y := ⟨_, rfl⟩
    have hD := dbF_D (c := c)
    rw [hy] at hD ⊢
    have hI2 := hI.D hD
    refine A_aload_n dX9_ring_14 rfl rfl ?_
    refine A_get dX9_ring_15 f_X9_66 HC_at0 rfl ?_
    refine A_callVv dX9_ring_18 m_X9_355 cb_X0_clearRings (As := []) rfl (HC_at (by decide)) rfl (c_clearRings G hI2) rfl ⟨by decide, by decide⟩ (Nat.le_of_ble_eq_true rfl) ⟨by decide, by decide⟩ (fun h18 hq => ?_)
    obtain rfl := hq
    have hD2 := dbF_C (c := c)
    rw [hy] at hD2
    have hN := clearF_n (c := y)
    obtain ⟨w, hw2⟩ : ∃ w, clearF y = w := ⟨_, rfl⟩
    rw [hw2] at hD2 hN ⊢
    refine A_aload_n dX9_ring_21 rfl rfl ?_
    refine A_get dX9_ring_22 f_X9_66 HC_at0 rfl ?_
    refine A_iload_n dX9_ring_25 rfl rfl ?_
    obtain ⟨m, hm, em⟩ := hN
    refine A_callVi dX9_ring_26 m_X9_364 cb_X0_bitsOf (As := [_]) rfl (HC_at (by decide)) rfl (c_bitsOf G hm em) rfl ⟨by decide, by decide⟩ (Nat.le_of_ble_eq_true rfl) ⟨by decide, by decide⟩ (fun x26 h26 hq => ?_)
    obtain ⟨rfl, rfl⟩ := hq
    exact A_iret dX9_ring_29 ⟨by rw [ringA, if_pos hp, hy, hw2], w, rfl, keepC.of hCa hD2⟩ ⟨by decide, by decide⟩
  · refine A_bipush (v := (-2)) dX9_ring_7 (by decide) ?_
    exact A_iret dX9_ring_9 ⟨by rw [ringA, if_neg (fun z => by rw [if_pos z] at c4; exact absurd c4 (by decide))], ⟨c, rfl, keepC.rf hCa⟩⟩ ⟨by decide, by decide⟩

theorem c_struck (G : GX) {b : Nat} {c : CT} {co : Nat → Nat → Option Nat} {r : Nat → Option AE} {n : Nat} {nv nc nf nl wk : Nat} {law t : Int32} (hI : IX c nv nc nf nl wk) (hK : KX c nv nf) (hCa : CacheOk c (tot nv nf)) : MA G 6 yX9_struck cX9_struck 3 (some .int) 0 0 [.ref b, .int law, .int t] (HC b c co r n) (qI fun x h1 => x = struckA c nv law t ∧ ∃ c1, h1 = HC b c1 co r n ∧ keepC c c1 (tot nv nf)) := by
  refine MA.of (own := RX9) false [some (.ref b), some (.int law), some (.int t)] (by decide +kernel) rfl (fun h => by cases h) (Nat.le_of_ble_eq_true rfl) rfl (fun X => ?_)
  refine A_aload_n dX9_struck_0 rfl rfl ?_
  refine A_callVi dX9_struck_1 m_X9_124 cb_X9_hasPlain (As := []) rfl HC_at0 rfl (c_hasPlain G) rfl ⟨by decide, by decide⟩ (Nat.le_of_ble_eq_true rfl) ⟨by decide, by decide⟩ (fun x1 h1 hq => ?_)
  obtain ⟨rfl, rfl⟩ := hq
  refine A_if_eq 25 dX9_struck_4 (by decide) (fun c4 => ?_) (fun c4 => ?_)
  · refine A_bipush (v := (-2)) dX9_struck_25 (by decide) ?_
    exact A_iret dX9_struck_27 ⟨by rw [struckA, if_neg (by rintro ⟨hp, hl2, ht⟩; first | (rw [if_pos hp] at c4; exact absurd c4 (by decide)) | exact hl2 (if_pos (by first | exact Or.inl (by assumption) | exact Or.inr (by assumption))) | exact ht.elim c17 c22)], ⟨c, rfl, keepC.rf hCa⟩⟩ ⟨by decide, by decide⟩
  · refine A_iload_n dX9_struck_7 rfl rfl ?_
    refine A_if_lt 25 dX9_struck_8 (by decide) (fun c8 => ?_) (fun c8 => ?_)
    · refine A_bipush (v := (-2)) dX9_struck_25 (by decide) ?_
      exact A_iret dX9_struck_27 ⟨by rw [struckA, if_neg (by rintro ⟨hp, hl2, ht⟩; first | (rw [if_pos hp] at c4; exact absurd c4 (by decide)) | exact hl2 (if_pos (by first | exact Or.inl (by assumption) | exact Or.inr (by assumption))) | exact ht.elim c17 c22)], ⟨c, rfl, keepC.rf hCa⟩⟩ ⟨by decide, by decide⟩
    · refine A_iload_n dX9_struck_11 rfl rfl ?_
      refine A_iconst (v := 3) dX9_struck_12 (by decide) ?_
      refine A_icmp_ge 25 dX9_struck_13 (by decide) (fun c13 => ?_) (fun c13 => ?_)
      · refine A_bipush (v := (-2)) dX9_struck_25 (by decide) ?_
        exact A_iret dX9_struck_27 ⟨by rw [struckA, if_neg (by rintro ⟨hp, hl2, ht⟩; first | (rw [if_pos hp] at c4; exact absurd c4 (by decide)) | exact hl2 (if_pos (by first | exact Or.inl (by assumption) | exact Or.inr (by assumption))) | exact ht.elim c17 c22)], ⟨c, rfl, keepC.rf hCa⟩⟩ ⟨by decide, by decide⟩
      · refine A_iload_n dX9_struck_16 rfl rfl ?_
        refine A_if_eq 28 dX9_struck_17 (by decide) (fun c17 => ?_) (fun c17 => ?_)
        · refine A_aload_n dX9_struck_28 rfl rfl ?_
          have hp : 0 < c 6 5 ∧ ¬ inI law 3 = 0 ∧ (t = 0 ∨ t = 1) := ⟨by by_cases z : 0 < c 6 5; exact z; exact absurd (if_neg z) c4, fun z => by rw [inI, if_neg (fun q => q.elim c8 c13)] at z; exact absurd z (by decide), by first | exact Or.inl (by assumption) | exact Or.inr (by assumption)⟩
          refine A_callVv dX9_struck_29 m_X9_345 cb_X9_reckonDebts (As := []) rfl HC_at0 rfl (c_reckonDebts G hI hK) rfl ⟨by decide, by decide⟩ (Nat.le_of_ble_eq_true rfl) ⟨by decide, by decide⟩ (fun h29 hq => ?_)
          obtain rfl := hq
          obtain ⟨y, hy⟩ : ∃ y, dbF c = y := ⟨_, rfl⟩
          have hD := dbF_D (c := c)
          rw [hy] at hD ⊢
          have hI2 := hI.D hD
          refine A_aload_n dX9_struck_32 rfl rfl ?_
          refine A_get dX9_struck_33 f_X9_66 HC_at0 rfl ?_
          refine A_iload_n dX9_struck_36 rfl rfl ?_
          refine A_callVv dX9_struck_37 m_X9_370 cb_X0_strike (As := [_]) rfl (HC_at (by decide)) rfl (c_strike G (law := law) hI2) rfl ⟨by decide, by decide⟩ (Nat.le_of_ble_eq_true rfl) ⟨by decide, by decide⟩ (fun h37 hq => ?_)
          obtain rfl := hq
          have hD2 := dbF_S (c := c) (law := law)
          rw [hy] at hD2
          obtain ⟨w, hw2⟩ : ∃ w, strikeF law y = w := ⟨_, rfl⟩
          rw [hw2] at hD2 ⊢
          have hI3 := hI.D hD2
          refine A_iload_n dX9_struck_40 rfl rfl ?_
          refine A_if_ne 57 dX9_struck_41 (by decide) (fun c41 => ?_) (fun c41 => ?_)
          · refine A_aload_n dX9_struck_57 rfl rfl ?_
            refine A_get dX9_struck_58 f_X9_66 HC_at0 rfl ?_
            refine A_callVi dX9_struck_61 m_X9_379 cb_X0_ruined (As := []) rfl (HC_at (by decide)) rfl (c_ruined G hI3) rfl ⟨by decide, by decide⟩ (Nat.le_of_ble_eq_true rfl) ⟨by decide, by decide⟩ (fun x61 h61 hq => ?_)
            obtain ⟨rfl, rfl⟩ := hq
            exact A_iret dX9_struck_64 ⟨by rw [struckA, if_pos hp, if_neg (by assumption), hy, hw2], w, rfl, keepC.of hCa hD2⟩ ⟨by decide, by decide⟩
          · refine A_aload_n dX9_struck_44 rfl rfl ?_
            refine A_get dX9_struck_45 f_X9_66 HC_at0 rfl ?_
            refine A_get dX9_struck_48 f_X9_373 (HC_at (by decide)) rfl ?_
            refine A_callVi dX9_struck_51 m_X9_376 cb_X11_inAll (As := []) rfl (HC_at (by decide)) rfl (c_pInAll52 G) rfl ⟨by decide, by decide⟩ (Nat.le_of_ble_eq_true rfl) ⟨by decide, by decide⟩ (fun x51 h51 hq => ?_)
            obtain ⟨rfl, rfl⟩ := hq
            refine A_goto 64 dX9_struck_54 (by decide) ?_
            exact A_iret dX9_struck_64 ⟨by rw [struckA, if_pos hp, if_pos (by assumption), hy, hw2], w, rfl, keepC.of hCa hD2⟩ ⟨by decide, by decide⟩
        · refine A_iload_n dX9_struck_20 rfl rfl ?_
          refine A_iconst (v := 1) dX9_struck_21 (by decide) ?_
          refine A_icmp_eq 28 dX9_struck_22 (by decide) (fun c22 => ?_) (fun c22 => ?_)
          · refine A_aload_n dX9_struck_28 rfl rfl ?_
            have hp : 0 < c 6 5 ∧ ¬ inI law 3 = 0 ∧ (t = 0 ∨ t = 1) := ⟨by by_cases z : 0 < c 6 5; exact z; exact absurd (if_neg z) c4, fun z => by rw [inI, if_neg (fun q => q.elim c8 c13)] at z; exact absurd z (by decide), by first | exact Or.inl (by assumption) | exact Or.inr (by assumption)⟩
            refine A_callVv dX9_struck_29 m_X9_345 cb_X9_reckonDebts (As := []) rfl HC_at0 rfl (c_reckonDebts G hI hK) rfl ⟨by decide, by decide⟩ (Nat.le_of_ble_eq_true rfl) ⟨by decide, by decide⟩ (fun h29 hq => ?_)
            obtain rfl := hq
            obtain ⟨y, hy⟩ : ∃ y, dbF c = y := ⟨_, rfl⟩
            have hD := dbF_D (c := c)
            rw [hy] at hD ⊢
            have hI2 := hI.D hD
            refine A_aload_n dX9_struck_32 rfl rfl ?_
            refine A_get dX9_struck_33 f_X9_66 HC_at0 rfl ?_
            refine A_iload_n dX9_struck_36 rfl rfl ?_
            refine A_callVv dX9_struck_37 m_X9_370 cb_X0_strike (As := [_]) rfl (HC_at (by decide)) rfl (c_strike G (law := law) hI2) rfl ⟨by decide, by decide⟩ (Nat.le_of_ble_eq_true rfl) ⟨by decide, by decide⟩ (fun h37 hq => ?_)
            obtain rfl := hq
            have hD2 := dbF_S (c := c) (law := law)
            rw [hy] at hD2
            obtain ⟨w, hw2⟩ : ∃ w, strikeF law y = w := ⟨_, rfl⟩
            rw [hw2] at hD2 ⊢
            have hI3 := hI.D hD2
            refine A_iload_n dX9_struck_40 rfl rfl ?_
            refine A_if_ne 57 dX9_struck_41 (by decide) (fun c41 => ?_) (fun c41 => ?_)
            · refine A_aload_n dX9_struck_57 rfl rfl ?_
              refine A_get dX9_struck_58 f_X9_66 HC_at0 rfl ?_
              refine A_callVi dX9_struck_61 m_X9_379 cb_X0_ruined (As := []) rfl (HC_at (by decide)) rfl (c_ruined G hI3) rfl ⟨by decide, by decide⟩ (Nat.le_of_ble_eq_true rfl) ⟨by decide, by decide⟩ (fun x61 h61 hq => ?_)
              obtain ⟨rfl, rfl⟩ := hq
              exact A_iret dX9_struck_64 ⟨by rw [struckA, if_pos hp, if_neg (by assumption), hy, hw2], w, rfl, keepC.of hCa hD2⟩ ⟨by decide, by decide⟩
            · refine A_aload_n dX9_struck_44 rfl rfl ?_
              refine A_get dX9_struck_45 f_X9_66 HC_at0 rfl ?_
              refine A_get dX9_struck_48 f_X9_373 (HC_at (by decide)) rfl ?_
              refine A_callVi dX9_struck_51 m_X9_376 cb_X11_inAll (As := []) rfl (HC_at (by decide)) rfl (c_pInAll52 G) rfl ⟨by decide, by decide⟩ (Nat.le_of_ble_eq_true rfl) ⟨by decide, by decide⟩ (fun x51 h51 hq => ?_)
              obtain ⟨rfl, rfl⟩ := hq
              refine A_goto 64 dX9_struck_54 (by decide) ?_
              exact A_iret dX9_struck_64 ⟨by rw [struckA, if_pos hp, if_pos (by assumption), hy, hw2], w, rfl, keepC.of hCa hD2⟩ ⟨by decide, by decide⟩
          · refine A_bipush (v := (-2)) dX9_struck_25 (by decide) ?_
            exact A_iret dX9_struck_27 ⟨by rw [struckA, if_neg (by rintro ⟨hp, hl2, ht⟩; first | (rw [if_pos hp] at c4; exact absurd c4 (by decide)) | exact hl2 (if_pos (by first | exact Or.inl (by assumption) | exact Or.inr (by assumption))) | exact ht.elim c17 c22)], ⟨c, rfl, keepC.rf hCa⟩⟩ ⟨by decide, by decide⟩

theorem c_pays (G : GX) {b : Nat} {c : CT} {co : Nat → Nat → Option Nat} {r : Nat → Option AE} {n : Nat} {nv nc nf nl wk : Nat} {law v t : Int32} (hI : IX c nv nc nf nl wk) (hK : KX c nv nf) (hCa : CacheOk c (tot nv nf)) : MA G 6 yX9_pays cX9_pays 4 (some .int) 0 0 [.ref b, .int law, .int v, .int t] (HC b c co r n) (qI fun x h1 => x = paysA c law v t ∧ ∃ c1, h1 = HC b c1 co r n ∧ keepC c c1 (tot nv nf)) := by
  refine MA.of (own := RX9) false [some (.ref b), some (.int law), some (.int v), some (.int t)] (by decide +kernel) rfl (fun h => by cases h) (Nat.le_of_ble_eq_true rfl) rfl (fun X => ?_)
  obtain ⟨hv, hv6, hc, hc8, hf, hf3, hl, hl8, hw, hw30, gC, gL⟩ := id hI
  refine A_iload_n dX9_pays_0 rfl rfl ?_
  refine A_if_lt 18 dX9_pays_1 (by decide) (fun c1 => ?_) (fun c1 => ?_)
  · refine A_bipush (v := (-2)) dX9_pays_18 (by decide) ?_
    exact A_iret dX9_pays_20 ⟨by rw [paysA, if_pos (by first | exact Or.inr (by assumption) | exact Or.inl (if_pos (by first | exact Or.inl (by assumption) | exact Or.inr (by assumption))))], ⟨c, rfl, keepC.rf hCa⟩⟩ ⟨by decide, by decide⟩
  · refine A_iload_n dX9_pays_4 rfl rfl ?_
    refine A_iconst (v := 3) dX9_pays_5 (by decide) ?_
    refine A_icmp_ge 18 dX9_pays_6 (by decide) (fun c6 => ?_) (fun c6 => ?_)
    · refine A_bipush (v := (-2)) dX9_pays_18 (by decide) ?_
      exact A_iret dX9_pays_20 ⟨by rw [paysA, if_pos (by first | exact Or.inr (by assumption) | exact Or.inl (if_pos (by first | exact Or.inl (by assumption) | exact Or.inr (by assumption))))], ⟨c, rfl, keepC.rf hCa⟩⟩ ⟨by decide, by decide⟩
    · refine A_aload_n dX9_pays_9 rfl rfl ?_
      refine A_iload_n dX9_pays_10 rfl rfl ?_
      refine A_iload_n dX9_pays_11 rfl rfl ?_
      refine A_callVi dX9_pays_12 m_X9_342 cb_X9_arePair (As := [_, _]) rfl HC_at0 rfl (c_arePair G) rfl ⟨by decide, by decide⟩ (Nat.le_of_ble_eq_true rfl) ⟨by decide, by decide⟩ (fun x12 h12 hq => ?_)
      obtain ⟨rfl, rfl⟩ := hq
      refine A_if_ne 21 dX9_pays_15 (by decide) (fun c15 => ?_) (fun c15 => ?_)
      · refine A_aload_n dX9_pays_21 rfl rfl ?_
        have cl : ¬ inI law 3 = 0 := fun z => by rw [inI, if_neg (fun q => q.elim c1 c6)] at z; exact absurd z (by decide)
        obtain ⟨j, k, hj, hk, hjk, rfl, rfl⟩ := pairI_of hv hv6 c15
        refine A_callVv dX9_pays_22 m_X9_345 cb_X9_reckonDebts (As := []) rfl HC_at0 rfl (c_reckonDebts G hI hK) rfl ⟨by decide, by decide⟩ (Nat.le_of_ble_eq_true rfl) ⟨by decide, by decide⟩ (fun h22 hq => ?_)
        obtain rfl := hq
        obtain ⟨y, hy⟩ : ∃ y, dbF c = y := ⟨_, rfl⟩
        have hD := dbF_D (c := c)
        rw [hy] at hD ⊢
        have hI2 := hI.D hD
        refine A_aload_n dX9_pays_25 rfl rfl ?_
        refine A_get dX9_pays_26 f_X9_66 HC_at0 rfl ?_
        refine A_iload_n dX9_pays_29 rfl rfl ?_
        refine A_callVv dX9_pays_30 m_X9_370 cb_X0_strike (As := [_]) rfl (HC_at (by decide)) rfl (c_strike G (law := law) hI2) rfl ⟨by decide, by decide⟩ (Nat.le_of_ble_eq_true rfl) ⟨by decide, by decide⟩ (fun h30 hq => ?_)
        obtain rfl := hq
        have hD2 := dbF_S (c := c) (law := law)
        rw [hy] at hD2
        obtain ⟨w, hw2⟩ : ∃ w, strikeF law y = w := ⟨_, rfl⟩
        rw [hw2] at hD2 ⊢
        have hI3 := hI.D hD2
        refine A_aload_n dX9_pays_33 rfl rfl ?_
        refine A_get dX9_pays_34 f_X9_66 HC_at0 rfl ?_
        refine A_get dX9_pays_37 f_X9_373 (HC_at (by decide)) rfl ?_
        refine A_iload_n dX9_pays_40 rfl rfl ?_
        refine A_iload_n dX9_pays_41 rfl rfl ?_
        refine A_callVi dX9_pays_42 m_X9_352 cb_X11_at (As := [_, _]) rfl (HC_at (by decide)) rfl (c_pAt52 G (by omega) (by omega)) rfl ⟨by decide, by decide⟩ (Nat.le_of_ble_eq_true rfl) ⟨by decide, by decide⟩ (fun x42 h42 hq => ?_)
        obtain ⟨rfl, rfl⟩ := hq
        exact A_iret dX9_pays_45 ⟨by rw [paysA, if_neg (fun z => z.elim cl c15), hy, hw2, pr, tcl_nI (by omega), tcl_nI (by omega)], w, rfl, keepC.of hCa hD2⟩ ⟨by decide, by decide⟩
      · refine A_bipush (v := (-2)) dX9_pays_18 (by decide) ?_
        exact A_iret dX9_pays_20 ⟨by rw [paysA, if_pos (by first | exact Or.inr (by assumption) | exact Or.inl (if_pos (by first | exact Or.inl (by assumption) | exact Or.inr (by assumption))))], ⟨c, rfl, keepC.rf hCa⟩⟩ ⟨by decide, by decide⟩

theorem c_bitCount (G : GX) {h : AH} {v : Int32} : MA G 0 yJ6_bitCount_0f7a4 cJ6_bitCount_0f7a4 1 (some .int) 0 0 [.int v] h (qI fun x h1 => x = bitC v ∧ h1 = h) := by
  refine MA.of (own := RJ6) false [some (.int v)] (by decide +kernel) rfl (fun h => by cases h) (Nat.le_of_ble_eq_true rfl) rfl (fun X => ?_)
  refine A_iload_n dJ6_bitCount_0f7a4_0 rfl rfl ?_
  refine A_iload_n dJ6_bitCount_0f7a4_1 rfl rfl ?_
  refine A_iconst (v := 1) dJ6_bitCount_0f7a4_2 (by decide) ?_
  refine A_iushr dJ6_bitCount_0f7a4_3 ?_
  refine A_ldcw dJ6_bitCount_0f7a4_4 w_1072 ?_
  refine A_iand dJ6_bitCount_0f7a4_7 ?_
  refine A_isub dJ6_bitCount_0f7a4_8 ?_
  refine A_eqI (y := bit1 v) rfl ?_
  refine A_istore_n (lv1 := [_]) dJ6_bitCount_0f7a4_9 rfl (Nat.le_of_ble_eq_true rfl) rfl rfl ?_
  refine A_iload_n dJ6_bitCount_0f7a4_10 rfl rfl ?_
  refine A_ldcw dJ6_bitCount_0f7a4_11 w_1073 ?_
  refine A_iand dJ6_bitCount_0f7a4_14 ?_
  refine A_iload_n dJ6_bitCount_0f7a4_15 rfl rfl ?_
  refine A_iconst (v := 2) dJ6_bitCount_0f7a4_16 (by decide) ?_
  refine A_iushr dJ6_bitCount_0f7a4_17 ?_
  refine A_ldcw dJ6_bitCount_0f7a4_18 w_1073 ?_
  refine A_iand dJ6_bitCount_0f7a4_21 ?_
  refine A_iadd dJ6_bitCount_0f7a4_22 ?_
  refine A_eqI (y := bit2 v) rfl ?_
  refine A_istore_n (lv1 := [_]) dJ6_bitCount_0f7a4_23 rfl (Nat.le_of_ble_eq_true rfl) rfl rfl ?_
  refine A_iload_n dJ6_bitCount_0f7a4_24 rfl rfl ?_
  refine A_iload_n dJ6_bitCount_0f7a4_25 rfl rfl ?_
  refine A_iconst (v := 4) dJ6_bitCount_0f7a4_26 (by decide) ?_
  refine A_iushr dJ6_bitCount_0f7a4_27 ?_
  refine A_iadd dJ6_bitCount_0f7a4_28 ?_
  refine A_ldcw dJ6_bitCount_0f7a4_29 w_1074 ?_
  refine A_iand dJ6_bitCount_0f7a4_32 ?_
  refine A_eqI (y := bit3 v) rfl ?_
  refine A_istore_n (lv1 := [_]) dJ6_bitCount_0f7a4_33 rfl (Nat.le_of_ble_eq_true rfl) rfl rfl ?_
  refine A_iload_n dJ6_bitCount_0f7a4_34 rfl rfl ?_
  refine A_iload_n dJ6_bitCount_0f7a4_35 rfl rfl ?_
  refine A_bipush (v := 8) dJ6_bitCount_0f7a4_36 (by decide) ?_
  refine A_iushr dJ6_bitCount_0f7a4_38 ?_
  refine A_iadd dJ6_bitCount_0f7a4_39 ?_
  refine A_eqI (y := bit4 v) rfl ?_
  refine A_istore_n (lv1 := [_]) dJ6_bitCount_0f7a4_40 rfl (Nat.le_of_ble_eq_true rfl) rfl rfl ?_
  refine A_iload_n dJ6_bitCount_0f7a4_41 rfl rfl ?_
  refine A_iload_n dJ6_bitCount_0f7a4_42 rfl rfl ?_
  refine A_bipush (v := 16) dJ6_bitCount_0f7a4_43 (by decide) ?_
  refine A_iushr dJ6_bitCount_0f7a4_45 ?_
  refine A_iadd dJ6_bitCount_0f7a4_46 ?_
  refine A_eqI (y := bit5 v) rfl ?_
  refine A_istore_n (lv1 := [_]) dJ6_bitCount_0f7a4_47 rfl (Nat.le_of_ble_eq_true rfl) rfl rfl ?_
  refine A_iload_n dJ6_bitCount_0f7a4_48 rfl rfl ?_
  refine A_bipush (v := 63) dJ6_bitCount_0f7a4_49 (by decide) ?_
  refine A_iand dJ6_bitCount_0f7a4_51 ?_
  exact A_iret dJ6_bitCount_0f7a4_52 ⟨rfl, rfl⟩ ⟨by decide, by decide⟩

theorem law_w (G : GX) (X : XC) {b : Nat} {c y : CT} {co : Nat → Nat → Option Nat} {r : Nat → Option AE} {n nv nc nf nl wk : Nat} (hI : IX y nv nc nf nl wk) (hkp : ∀ w, same49 y w → keepC c w (tot nv nf)) : WA X G RX9 cX9_law false (some .int) (qI fun x h1 => x = (lawR y nv 3).1 ∧ ∃ c1, h1 = HC b c1 co r n ∧ keepC c c1 (tot nv nf)) 6 0 0 (HC b y co r n) 0 0 21 [some (.ref b), some (.int 0), some (.int 7), some (.int 0), none] [] := by
  have loop : ∀ (k i : Nat) (w : CT), i + k = 3 → (same49 y w) → WA X G RX9 cX9_law false (some .int) (qI fun x h1 => x = (lawR y nv 3).1 ∧ ∃ c1, h1 = HC b c1 co r n ∧ keepC c c1 (tot nv nf)) 6 0 0 (HC b w co r n) 0 0 21 [some (.ref b), some (.int (lawR y nv i).1), some (.int (lawR y nv i).2), some (.int (nI i)), none] [] := by
    intro k
    induction k with
    | zero =>
      intro i w hk hs
      refine A_iload_n dX9_law_21 rfl rfl ?_
      refine A_iconst (v := 3) dX9_law_22 (by decide) ?_
      refine A_icmp_ge 63 dX9_law_23 (by decide) (fun c23 => ?_) (fun c23 => ?_)
      · refine A_iload_n dX9_law_63 rfl rfl ?_
        exact A_iret dX9_law_64 ⟨by rw [show i = 3 by omega], w, rfl, hkp w hs⟩ ⟨by decide, by decide⟩
      · exact absurd (nI_le (a := 3) (by omega) (by omega)) c23
    | succ k ih =>
      intro i w hk hs
      have hi : i < 3 := by omega
      refine A_iload_n dX9_law_21 rfl rfl ?_
      refine A_iconst (v := 3) dX9_law_22 (by decide) ?_
      refine A_icmp_ge 63 dX9_law_23 (by decide) (fun c23 => ?_) (fun c23 => ?_)
      · exact absurd c23 (nI_ge (b := 3) (by omega) (by decide))
      · refine A_aload_n dX9_law_26 rfl rfl ?_
        refine A_get dX9_law_27 f_X9_66 HC_at0 rfl ?_
        refine A_iload_n dX9_law_30 rfl rfl ?_
        refine A_callVv dX9_law_31 m_X9_370 cb_X0_strike (As := [_]) rfl (HC_at (by decide)) rfl (c_strike G (law := nI i) (hI.s49 hs)) rfl ⟨by decide, by decide⟩ (Nat.le_of_ble_eq_true rfl) ⟨by decide, by decide⟩ (fun h31 hq => ?_)
        obtain rfl := hq
        refine WA_h (congrArg (fun z => HC b z co r n) (strikeF_c (law := nI i) hs)) ?_
        have hs2 := strikeF_s (law := nI i) (c := y)
        obtain ⟨z, hz⟩ : ∃ z, strikeF (nI i) y = z := ⟨_, rfl⟩
        have hL : lawR y nv (i + 1) = if bitC (ruF z nv nv) < (lawR y nv i).2 then (nI i, bitC (ruF z nv nv)) else lawR y nv i := by rw [lawR, hz]
        rw [hz] at hs2 ⊢
        refine A_aload_n dX9_law_34 rfl rfl ?_
        refine A_get dX9_law_35 f_X9_66 HC_at0 rfl ?_
        refine A_callVi dX9_law_38 m_X9_379 cb_X0_ruined (As := []) rfl (HC_at (by decide)) rfl (c_ruined G (hI.s49 hs2)) rfl ⟨by decide, by decide⟩ (Nat.le_of_ble_eq_true rfl) ⟨by decide, by decide⟩ (fun x38 h38 hq => ?_)
        obtain ⟨rfl, rfl⟩ := hq
        refine A_callSi dX9_law_41 m_X9_382 cb_J6_bitCount_0f7a4 (As := [_]) rfl (c_bitCount G) rfl ⟨by decide, by decide⟩ (Nat.le_of_ble_eq_true rfl) ⟨by decide, by decide⟩ (fun x41 h41 hq => ?_)
        obtain ⟨rfl, rfl⟩ := hq
        refine A_istore (lv1 := [_, _, _, _, _]) dX9_law_44 (Nat.le_of_ble_eq_true rfl) rfl rfl ?_
        refine A_iload dX9_law_46 rfl ?_
        refine A_iload_n dX9_law_48 rfl rfl ?_
        refine A_icmp_ge 57 dX9_law_49 (by decide) (fun c49 => ?_) (fun c49 => ?_)
        · refine A_inc 1 (lv1 := [_, _, _, _, _]) dX9_law_57 rfl (by decide) rfl rfl ?_
          refine A_goto 21 dX9_law_60 (by decide) ?_
          refine A_fg 4 (lv1 := [_, _, _, _, _]) rfl ?_
          rw [nI_1]
          have e := ih (i + 1) z (by omega) hs2
          rw [hL, if_neg (Int32.not_lt.mpr c49)] at e
          exact e
        · refine A_iload dX9_law_52 rfl ?_
          refine A_istore_n (lv1 := [_, _, _, _, _]) dX9_law_54 rfl (Nat.le_of_ble_eq_true rfl) rfl rfl ?_
          refine A_iload_n dX9_law_55 rfl rfl ?_
          refine A_istore_n (lv1 := [_, _, _, _, _]) dX9_law_56 rfl (Nat.le_of_ble_eq_true rfl) rfl rfl ?_
          refine A_inc 1 (lv1 := [_, _, _, _, _]) dX9_law_57 rfl (by decide) rfl rfl ?_
          refine A_goto 21 dX9_law_60 (by decide) ?_
          refine A_fg 4 (lv1 := [_, _, _, _, _]) rfl ?_
          rw [nI_1]
          have e := ih (i + 1) z (by omega) hs2
          rw [hL, if_pos (Int32.not_le.mp c49)] at e
          exact e
  exact loop 3 0 y (by omega) same49.rf
theorem c_law (G : GX) {b : Nat} {c : CT} {co : Nat → Nat → Option Nat} {r : Nat → Option AE} {n : Nat} {nv nc nf nl wk : Nat} (hI : IX c nv nc nf nl wk) (hK : KX c nv nf) (hCa : CacheOk c (tot nv nf)) : MA G 6 yX9_law cX9_law 5 (some .int) 0 0 [.ref b] (HC b c co r n) (qI fun x h1 => x = lawA c nv ∧ ∃ c1, h1 = HC b c1 co r n ∧ keepC c c1 (tot nv nf)) := by
  refine MA.of (own := RX9) false [some (.ref b), none, none, none, none] (by decide +kernel) rfl (fun h => by cases h) (Nat.le_of_ble_eq_true rfl) rfl (fun X => ?_)
  refine A_aload_n dX9_law_0 rfl rfl ?_
  refine A_callVi dX9_law_1 m_X9_124 cb_X9_hasPlain (As := []) rfl HC_at0 rfl (c_hasPlain G) rfl ⟨by decide, by decide⟩ (Nat.le_of_ble_eq_true rfl) ⟨by decide, by decide⟩ (fun x1 h1 hq => ?_)
  obtain ⟨rfl, rfl⟩ := hq
  refine A_if_ne 10 dX9_law_4 (by decide) (fun c4 => ?_) (fun c4 => ?_)
  · refine A_aload_n dX9_law_10 rfl rfl ?_
    have hp : 0 < c 6 5 := by by_cases z : 0 < c 6 5; exact z; exact absurd (if_neg z) c4
    refine A_callVv dX9_law_11 m_X9_345 cb_X9_reckonDebts (As := []) rfl HC_at0 rfl (c_reckonDebts G hI hK) rfl ⟨by decide, by decide⟩ (Nat.le_of_ble_eq_true rfl) ⟨by decide, by decide⟩ (fun h11 hq => ?_)
    obtain rfl := hq
    obtain ⟨y, hy⟩ : ∃ y, dbF c = y := ⟨_, rfl⟩
    have hD := dbF_D (c := c)
    rw [hy] at hD ⊢
    have hI2 := hI.D hD
    refine A_iconst (v := 0) dX9_law_14 (by decide) ?_
    refine A_istore_n (lv1 := [_, _, _, _, _]) dX9_law_15 rfl (Nat.le_of_ble_eq_true rfl) rfl rfl ?_
    refine A_bipush (v := 7) dX9_law_16 (by decide) ?_
    refine A_istore_n (lv1 := [_, _, _, _, _]) dX9_law_18 rfl (Nat.le_of_ble_eq_true rfl) rfl rfl ?_
    refine A_iconst (v := 0) dX9_law_19 (by decide) ?_
    refine A_istore_n (lv1 := [_, _, _, _, _]) dX9_law_20 rfl (Nat.le_of_ble_eq_true rfl) rfl rfl ?_
    rw [show lawA c nv = (lawR y nv 3).1 by rw [lawA, if_pos hp, hy]]
    exact law_w G X hI2 (fun w hs => keepC.of hCa (fun l hl => (hs l (by omega)).trans (hD l hl)))
  · refine A_bipush (v := (-2)) dX9_law_7 (by decide) ?_
    exact A_iret dX9_law_9 ⟨by rw [lawA, if_neg (fun z => by rw [if_pos z] at c4; exact absurd c4 (by decide))], ⟨c, rfl, keepC.rf hCa⟩⟩ ⟨by decide, by decide⟩
