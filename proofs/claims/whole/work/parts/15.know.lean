/-! WHAT IS BROUGHT and SHORT by each TAKERS: the rows that keep it -/
def BR (c : CT) (k : Nat) : Int32 := sumI (runF (leadF c k) 38) 8
def SH (c : CT) (k : Nat) : Int32 := shortF (runF (leadF c k))
theorem lead_Y {c c' : CT} (h : EqP c c') (k : Nat) : EqY (leadF c k) (leadF c' k) := by
  have e7 := h.1 7 (by decide) (by decide) (by decide)
  have e8 := h.1 8 (by decide) (by decide) (by decide)
  have e11 := h.1 11 (by decide) (by decide) (by decide)
  have e6 := h.1 6 (by decide) (by decide) (by decide)
  have eT : leadT c' k = leadT c k := by unfold leadT; rw [e7, e11]
  have eW : waF c' = waF c := by unfold waF; rw [e7, e8]
  refine ⟨⟨fun l a b z => ?_, fun j hj => ?_⟩, fun l a b z => ?_, ?_⟩
  · rw [leadF_l (by omega), leadF_l (by omega)]; exact h.1 l a b z
  · rw [leadF_l (by omega), leadF_l (by omega)]; exact h.2 j hj
  · have hl : l = 29 ∨ l = 30 ∨ l = 32 ∨ l = 33 ∨ l = 34 ∨ l = 35 ∨ l = 36 ∨ l = 37 ∨ l = 38 ∨ l = 39 ∨ l = 40 ∨ l = 41 := by omega
    rcases hl with rfl | rfl | rfl | rfl | rfl | rfl | rfl | rfl | rfl | rfl | rfl | rfl <;> simp [leadF, beginF, put, st1, eT, eW]
  · simp [leadF, beginF, put, st1, e6]
theorem BR_c {c c' : CT} (h : EqP c c') (k : Nat) : BR c' k = BR c k := by unfold BR; rw [(runF_Y (lead_Y h k)).lab (l := 38) (by decide)]
theorem SH_c {c c' : CT} (h : EqP c c') (k : Nat) : SH c' k = SH c k := by
  unfold SH shortF
  have e := runF_Y (lead_Y h k)
  rw [e.lab (l := 33) (by decide), e.lab (l := 34) (by decide), e.lab (l := 36) (by decide), e.lab (l := 37) (by decide)]
def CacheOk (c : CT) (N : Nat) : Prop := ∀ k, k < N → c 45 k ≠ 0 → c 43 k = BR c k ∧ c 44 k = SH c k
/-- nothing but the YEAR and what is kept of YEARS has changed -/
def sameK (c c' : CT) : Prop := ∀ l, l ≤ 27 ∨ 46 ≤ l → c' l = c l
theorem sameK.tr {a b c : CT} (h : sameK a b) (h2 : sameK b c) : sameK a c := fun l hl => (h2 l hl).trans (h l hl)
theorem sameK.rf {c : CT} : sameK c c := fun _ _ => rfl
theorem sameK.P {c c' : CT} (h : sameK c c') : EqP c c' := EqP.of_same (fun l hl => h l (Or.inl (by omega)))
theorem IX.K {c c' : CT} {nv nc nf nl wk : Nat} (h : IX c nv nc nf nl wk) (e : sameK c c') : IX c' nv nc nf nl wk := h.to (fun l hl => e l (Or.inl (by omega)))
theorem sameK.run {c : CT} {k : Nat} : sameK c (runF (leadF c k)) := fun l hl => (runF_P (c := leadF c k) l (by omega)).trans (leadF_l (by omega))
def KN (c c' : CT) (N : Nat) : Prop := sameK c c' ∧ CacheOk c' N ∧ ∀ j, c 45 j ≠ 0 → c' 45 j ≠ 0
theorem KN.tr {a b c : CT} {N : Nat} (h : KN a b N) (h2 : KN b c N) : KN a c N := ⟨h.1.tr h2.1, h2.2.1, fun j hj => h2.2.2 j (h.2.2 j hj)⟩
def knowF (c : CT) (k : Nat) : CT := put (put (put (runF (leadF c k)) 43 k (BR c k)) 44 k (SH c k)) 45 k 1
theorem KN_know {c : CT} {N k : Nat} (hC : CacheOk c N) : KN c (knowF c k) N ∧ knowF c k 45 k ≠ 0 := by
  have hs : sameK c (knowF c k) := by
    intro l hl
    unfold knowF
    rw [put_ne (by omega), put_ne (by omega), put_ne (by omega)]
    exact sameK.run l hl
  have h45 : ∀ j, j ≠ k → knowF c k 45 j = c 45 j := by
    intro j hj
    unfold knowF
    rw [put_no hj, put_ne (by decide), put_ne (by decide), runF_P 45 (by decide), leadF_l (by decide)]
  have h45k : knowF c k 45 k = 1 := by unfold knowF; rw [put_at]
  refine ⟨⟨hs, fun j hj hne => ?_, fun j hj => ?_⟩, by rw [h45k]; decide⟩
  · rw [BR_c hs.P, SH_c hs.P]
    by_cases e : j = k
    · subst e
      unfold knowF
      constructor
      · rw [put_ne (by decide), put_ne (by decide), put_at]
      · rw [put_ne (by decide), put_at]
    · rw [h45 j e] at hne
      have h1 := hC j hj hne
      unfold knowF
      constructor
      · rw [put_ne (by decide), put_ne (by decide), put_no e, runF_P 43 (by decide), leadF_l (by decide)]; exact h1.1
      · rw [put_ne (by decide), put_no e, put_ne (by decide), runF_P 44 (by decide), leadF_l (by decide)]; exact h1.2
  · by_cases e : j = k
    · rw [e, h45k]; decide
    · rw [h45 j e]; exact hj
theorem shortF_put {d : CT} {k i : Nat} {v : Int32} (hk : 42 ≤ k) : shortF (put d k i v) = shortF d := by
  unfold shortF
  rw [put_ne (by omega), put_ne (by omega), put_ne (by omega), put_ne (by omega)]
theorem pow_sh : ∀ k, k < 4 → ((1 : Int32) <<< (nI k &&& 31)) = nI (2 ^ k) := by decide

theorem c_isCode (G : GX) {h : AH} {k : Nat} (hk : k < 343) : MA G 0 yX1_isCode cX1_isCode 1 (some .boolean) 0 0 [.int (nI k)] h (qI fun x h1 => x = 1 ∧ h1 = h) := by
  refine MA.of (own := RX1) false [some (.int (nI k))] (by decide +kernel) rfl (fun h => by cases h) (Nat.le_of_ble_eq_true rfl) rfl (fun X => ?_)
  refine A_iload_n dX1_isCode_0 rfl rfl ?_
  refine A_if_lt 15 dX1_isCode_1 (by decide) (fun c1 => ?_) (fun c1 => ?_)
  · exact absurd c1 (nI_pos (by omega))
  · refine A_iload_n dX1_isCode_4 rfl rfl ?_
    refine A_sipush (v := 343) dX1_isCode_5 (by decide) ?_
    refine A_icmp_ge 15 dX1_isCode_8 (by decide) (fun c8 => ?_) (fun c8 => ?_)
    · exact absurd c8 (nI_ge (b := 343) hk (by decide))
    · refine A_iconst (v := 1) dX1_isCode_11 (by decide) ?_
      refine A_goto 16 dX1_isCode_12 (by decide) ?_
      exact A_zret dX1_isCode_16 rfl ⟨rfl, rfl⟩ ⟨by decide, by decide⟩

theorem c_broughtBy (G : GX) {b : Nat} {c : CT} {co : Nat → Nat → Option Nat} {r : Nat → Option AE} {n : Nat} {k : Nat} (hk : k < 343) : MA G 1 yX1_broughtBy cX1_broughtBy 2 (some .int) 0 0 [.ref (b + 42), .int (nI k)] (HC b c co r n) (qI fun x h1 => x = c 43 k ∧ h1 = HC b c co r n) := by
  refine MA.of (own := RX1) false [some (.ref (b + 42)), some (.int (nI k))] (by decide +kernel) rfl (fun h => by cases h) (Nat.le_of_ble_eq_true rfl) rfl (fun X => ?_)
  refine A_iload_n dX1_broughtBy_0 rfl rfl ?_
  refine A_callSi dX1_broughtBy_1 m_X1_69 cb_X1_isCode (As := [_]) rfl (c_isCode G hk) rfl ⟨by decide, by decide⟩ (Nat.le_of_ble_eq_true rfl) ⟨by decide, by decide⟩ (fun x1 h1 hq => ?_)
  obtain ⟨rfl, rfl⟩ := hq
  refine A_if_eq 16 dX1_broughtBy_4 (by decide) (fun c4 => ?_) (fun c4 => ?_)
  · exact absurd c4 (by decide)
  · refine A_aload_n dX1_broughtBy_7 rfl rfl ?_
    refine A_get dX1_broughtBy_8 f_X1_11 (HC_at (by decide)) rfl ?_
    refine A_iload_n dX1_broughtBy_11 rfl rfl ?_
    refine A_ialdN dX1_broughtBy_12 (HC_at (by decide)) hk (by decide) ?_
    refine A_goto 17 dX1_broughtBy_13 (by decide) ?_
    exact A_iret dX1_broughtBy_17 ⟨rfl, rfl⟩ ⟨by decide, by decide⟩

theorem c_shortBy (G : GX) {b : Nat} {c : CT} {co : Nat → Nat → Option Nat} {r : Nat → Option AE} {n : Nat} {k : Nat} (hk : k < 343) : MA G 1 yX1_shortBy cX1_shortBy 2 (some .int) 0 0 [.ref (b + 42), .int (nI k)] (HC b c co r n) (qI fun x h1 => x = c 44 k ∧ h1 = HC b c co r n) := by
  refine MA.of (own := RX1) false [some (.ref (b + 42)), some (.int (nI k))] (by decide +kernel) rfl (fun h => by cases h) (Nat.le_of_ble_eq_true rfl) rfl (fun X => ?_)
  refine A_iload_n dX1_shortBy_0 rfl rfl ?_
  refine A_callSi dX1_shortBy_1 m_X1_69 cb_X1_isCode (As := [_]) rfl (c_isCode G hk) rfl ⟨by decide, by decide⟩ (Nat.le_of_ble_eq_true rfl) ⟨by decide, by decide⟩ (fun x1 h1 hq => ?_)
  obtain ⟨rfl, rfl⟩ := hq
  refine A_if_eq 16 dX1_shortBy_4 (by decide) (fun c4 => ?_) (fun c4 => ?_)
  · exact absurd c4 (by decide)
  · refine A_aload_n dX1_shortBy_7 rfl rfl ?_
    refine A_get dX1_shortBy_8 f_X1_15 (HC_at (by decide)) rfl ?_
    refine A_iload_n dX1_shortBy_11 rfl rfl ?_
    refine A_ialdN dX1_shortBy_12 (HC_at (by decide)) hk (by decide) ?_
    refine A_goto 17 dX1_shortBy_13 (by decide) ?_
    exact A_iret dX1_shortBy_17 ⟨rfl, rfl⟩ ⟨by decide, by decide⟩

theorem c_know (G : GX) {b : Nat} {c : CT} {co : Nat → Nat → Option Nat} {r : Nat → Option AE} {n : Nat} {nv nc nf nl wk : Nat} {N kk : Nat} (hI : IX c nv nc nf nl wk) (hk : kk < N) (hN : N = tot nv nf) (hC : CacheOk c N) : MA G 5 yX1_know cX1_know 2 none 0 0 [.ref (b + 42), .int (nI kk)] (HC b c co r n) (qV fun h1 => ∃ c1, h1 = HC b c1 co r n ∧ KN c c1 N ∧ c1 45 kk ≠ 0) := by
  refine MA.of (own := RX1) false [some (.ref (b + 42)), some (.int (nI kk))] (by decide +kernel) rfl (fun h => by cases h) (Nat.le_of_ble_eq_true rfl) rfl (fun X => ?_)
  obtain ⟨hv, hv6, hc, hc8, hf, hf3, hl, hl8, hw, hw30, gC, gL⟩ := id hI
  have h343 := tot_343 hv6 hf3
  refine A_iload_n dX1_know_0 rfl rfl ?_
  refine A_callSi dX1_know_1 m_X1_69 cb_X1_isCode (As := [_]) rfl (c_isCode G (by omega)) rfl ⟨by decide, by decide⟩ (Nat.le_of_ble_eq_true rfl) ⟨by decide, by decide⟩ (fun x1 h1 hq => ?_)
  obtain ⟨rfl, rfl⟩ := hq
  refine A_if_eq 64 dX1_know_4 (by decide) (fun c4 => ?_) (fun c4 => ?_)
  · exact absurd c4 (by decide)
  · refine A_aload_n dX1_know_7 rfl rfl ?_
    refine A_get dX1_know_8 f_X1_18 (HC_at (by decide)) rfl ?_
    refine A_iload_n dX1_know_11 rfl rfl ?_
    refine A_zaldN dX1_know_12 (HC_at (by decide)) (by omega) (by decide) ?_
    refine A_if_ne 64 dX1_know_13 (by decide) (fun c13 => ?_) (fun c13 => ?_)
    · exact A_vret dX1_know_64 ⟨c, rfl, ⟨sameK.rf, hC, fun j hj => hj⟩, c13⟩ ⟨by decide, by decide⟩
    · refine A_aload_n dX1_know_16 rfl rfl ?_
      refine A_iload_n dX1_know_17 rfl rfl ?_
      refine A_callVv dX1_know_18 m_X1_73 cb_X1_lead (As := [_]) rfl (HC_at (by decide)) rfl (c_lead G hI (by omega)) rfl ⟨by decide, by decide⟩ (Nat.le_of_ble_eq_true rfl) ⟨by decide, by decide⟩ (fun h18 hq => ?_)
      obtain ⟨rfl, rfl⟩ := hq
      refine A_aload_n dX1_know_21 rfl rfl ?_
      refine A_get dX1_know_22 f_X1_26 (HC_at (by decide)) rfl ?_
      refine A_callVv dX1_know_25 m_X1_77 cb_X8_run (As := []) rfl (HC_at (by decide)) rfl (c_run G (hI.to (fun l hl => leadF_l (by omega))) (TX_lead hI kk)) rfl ⟨by decide, by decide⟩ (Nat.le_of_ble_eq_true rfl) ⟨by decide, by decide⟩ (fun h25 hq => ?_)
      obtain ⟨rfl, rfl⟩ := hq
      refine A_aload_n dX1_know_28 rfl rfl ?_
      refine A_get dX1_know_29 f_X1_11 (HC_at (by decide)) rfl ?_
      refine A_iload_n dX1_know_32 rfl rfl ?_
      refine A_aload_n dX1_know_33 rfl rfl ?_
      refine A_get dX1_know_34 f_X1_26 (HC_at (by decide)) rfl ?_
      refine A_get dX1_know_37 f_X1_80 (HC_at (by decide)) rfl ?_
      refine A_callSNi dX1_know_40 m_X1_83 cb_X9_together (As := [_]) rfl (c_together G (HC_at (by decide)) (by decide)) rfl ⟨by decide, by decide⟩ (Nat.le_of_ble_eq_true rfl) ⟨by decide, by decide⟩ (fun x40 h40 hq => ?_)
      obtain ⟨rfl, rfl⟩ := hq
      refine A_iastCN dX1_know_43 (by decide) (fun _ => rfl) (by omega) (by decide) ?_
      refine A_aload_n dX1_know_44 rfl rfl ?_
      refine A_get dX1_know_45 f_X1_15 (HC_at (by decide)) rfl ?_
      refine A_iload_n dX1_know_48 rfl rfl ?_
      refine A_aload_n dX1_know_49 rfl rfl ?_
      refine A_get dX1_know_50 f_X1_26 (HC_at (by decide)) rfl ?_
      refine A_callVi dX1_know_53 m_X1_87 cb_X8_shortInAll (As := []) rfl (HC_at (by decide)) rfl (c_shortInAll G) rfl ⟨by decide, by decide⟩ (Nat.le_of_ble_eq_true rfl) ⟨by decide, by decide⟩ (fun x53 h53 hq => ?_)
      obtain ⟨rfl, rfl⟩ := hq
      refine A_iastCN dX1_know_56 (by decide) (fun _ => rfl) (by omega) (by decide) ?_
      refine A_aload_n dX1_know_57 rfl rfl ?_
      refine A_get dX1_know_58 f_X1_18 (HC_at (by decide)) rfl ?_
      refine A_iload_n dX1_know_61 rfl rfl ?_
      refine A_iconst (v := 1) dX1_know_62 (by decide) ?_
      refine A_zastCN dX1_know_63 (by decide) (fun _ => rfl) (by omega) (by decide) ?_
      exact A_vret dX1_know_64 ⟨knowF c kk, by rw [shortF_put (by decide)]; rfl, KN_know hC⟩ ⟨by decide, by decide⟩

theorem c_knowAll (G : GX) {b : Nat} {c0 : CT} {co : Nat → Nat → Option Nat} {r : Nat → Option AE} {n : Nat} {nv nc nf nl wk : Nat} {N : Nat} (hI0 : IX c0 nv nc nf nl wk) (hN : N = tot nv nf) (hC : CacheOk c0 N) : MA G 6 yX1_knowAll cX1_knowAll 3 none 0 0 [.ref (b + 42)] (HC b c0 co r n) (qV fun h1 => ∃ c1, h1 = HC b c1 co r n ∧ KN c0 c1 N ∧ ∀ j, j < N → c1 45 j ≠ 0) := by
  refine MA.of (own := RX1) false [some (.ref (b + 42)), none, none] (by decide +kernel) rfl (fun h => by cases h) (Nat.le_of_ble_eq_true rfl) rfl (fun X => ?_)
  have h343 := tot_343 hI0.2.1 hI0.2.2.2.2.2.1
  have loop : ∀ (k i : Nat) (c : CT), i + k = N → (IX c nv nc nf nl wk) → (KN c0 c N) → (∀ j, j < i → c 45 j ≠ 0) → WA X G RX1 cX1_knowAll false none (qV fun h1 => ∃ c1, h1 = HC b c1 co r n ∧ KN c0 c1 N ∧ ∀ j, j < N → c1 45 j ≠ 0) 6 0 0 (HC b c co r n) 0 0 7 [some (.ref (b + 42)), some (.int (nI N)), some (.int (nI i))] [] := by
    intro k
    induction k with
    | zero =>
      intro i c hk hI hKN hkn
      refine A_iload_n dX1_knowAll_7 rfl rfl ?_
      refine A_iload_n dX1_knowAll_8 rfl rfl ?_
      refine A_icmp_ge 23 dX1_knowAll_9 (by decide) (fun c9 => ?_) (fun c9 => ?_)
      · exact A_vret dX1_knowAll_23 ⟨c, rfl, hKN, fun j hj => hkn j (by omega)⟩ ⟨by decide, by decide⟩
      · exact absurd (by exact nI_le (by omega) (by omega)) c9
    | succ k ih =>
      intro i c hk hI hKN hkn
      have hi : i < N := by omega
      refine A_iload_n dX1_knowAll_7 rfl rfl ?_
      refine A_iload_n dX1_knowAll_8 rfl rfl ?_
      refine A_icmp_ge 23 dX1_knowAll_9 (by decide) (fun c9 => ?_) (fun c9 => ?_)
      · exact absurd c9 (by exact nI_ge (by omega) (by omega))
      · refine A_aload_n dX1_knowAll_12 rfl rfl ?_
        refine A_iload_n dX1_knowAll_13 rfl rfl ?_
        refine A_callVv dX1_knowAll_14 m_X1_93 cb_X1_know (As := [_]) rfl (HC_at (by decide)) rfl (c_know G hI hi hN hKN.2.1) rfl ⟨by decide, by decide⟩ (Nat.le_of_ble_eq_true rfl) ⟨by decide, by decide⟩ (fun h14 hq => ?_)
        obtain ⟨c1, rfl, hK1, hk1⟩ := hq
        refine A_inc 1 (lv1 := [_, _, _]) dX1_knowAll_17 rfl (by decide) rfl rfl ?_
        refine A_goto 7 dX1_knowAll_20 (by decide) ?_
        rw [nI_1]
        exact ih (i + 1) c1 (by omega) (hI.K hK1.1) (hKN.tr hK1) (fun j hj => by by_cases e : j = i; (rw [e]; exact hk1); exact hK1.2.2 j (hkn j (by omega)))
  refine A_aload_n dX1_knowAll_0 rfl rfl ?_
  refine A_callVi dX1_knowAll_1 m_X1_90 cb_X1_total (As := []) rfl (HC_at (by decide)) rfl (c_total G hI0) rfl ⟨by decide, by decide⟩ (Nat.le_of_ble_eq_true rfl) ⟨by decide, by decide⟩ (fun x1 h1 hq => ?_)
  obtain ⟨rfl, rfl⟩ := hq
  rw [← hN]
  refine A_istore_n (lv1 := [_, _, _]) dX1_knowAll_4 rfl (Nat.le_of_ble_eq_true rfl) rfl rfl ?_
  refine A_iconst (v := 0) dX1_knowAll_5 (by decide) ?_
  refine A_istore_n (lv1 := [_, _, _]) dX1_knowAll_6 rfl (Nat.le_of_ble_eq_true rfl) rfl rfl ?_
  exact loop N 0 c0 (by omega) hI0 ⟨sameK.rf, hC, fun j hj => hj⟩ (fun j hj => absurd hj (Nat.not_lt_zero j))

theorem c_knowWays (G : GX) {b : Nat} {c0 : CT} {co : Nat → Nat → Option Nat} {r : Nat → Option AE} {n : Nat} {nv nc nf nl wk : Nat} {N kk : Nat} (hI0 : IX c0 nv nc nf nl wk) (hN : N = tot nv nf) (hC : CacheOk c0 N) (hk : kk < N) : MA G 6 yX1_knowWays cX1_knowWays 4 none 0 0 [.ref (b + 42), .int (nI kk)] (HC b c0 co r n) (qV fun h1 => ∃ c1, h1 = HC b c1 co r n ∧ KN c0 c1 N ∧ ∀ fl, fl < 2 ^ nf → c1 45 (comeN nv nf kk fl) ≠ 0) := by
  refine MA.of (own := RX1) false [some (.ref (b + 42)), some (.int (nI kk)), none, none] (by decide +kernel) rfl (fun h => by cases h) (Nat.le_of_ble_eq_true rfl) rfl (fun X => ?_)
  have h343 := tot_343 hI0.2.1 hI0.2.2.2.2.2.1
  have hf3 := hI0.2.2.2.2.2.1
  have h8 : 2 ^ nf ≤ 8 := Nat.le_trans (Nat.pow_le_pow_right (by decide) hf3) (by decide)
  have loop : ∀ (k i : Nat) (c : CT), i + k = 2 ^ nf → (IX c nv nc nf nl wk) → (KN c0 c N) → (∀ fl, fl < i → c 45 (comeN nv nf kk fl) ≠ 0) → WA X G RX1 cX1_knowWays false none (qV fun h1 => ∃ c1, h1 = HC b c1 co r n ∧ KN c0 c1 N ∧ ∀ fl, fl < 2 ^ nf → c1 45 (comeN nv nf kk fl) ≠ 0) 6 0 0 (HC b c co r n) 0 0 15 [some (.ref (b + 42)), some (.int (nI kk)), some (.int (nI (2 ^ nf))), some (.int (nI i))] [] := by
    intro k
    induction k with
    | zero =>
      intro i c hk hI hKN hkn
      refine A_iload_n dX1_knowWays_15 rfl rfl ?_
      refine A_iload_n dX1_knowWays_16 rfl rfl ?_
      refine A_icmp_ge 36 dX1_knowWays_17 (by decide) (fun c17 => ?_) (fun c17 => ?_)
      · exact A_vret dX1_knowWays_36 ⟨c, rfl, hKN, fun j hj => hkn j (by omega)⟩ ⟨by decide, by decide⟩
      · exact absurd (by exact nI_le (by omega) (by omega)) c17
    | succ k ih =>
      intro i c hk hI hKN hkn
      have hi : i < 2 ^ nf := by omega
      refine A_iload_n dX1_knowWays_15 rfl rfl ?_
      refine A_iload_n dX1_knowWays_16 rfl rfl ?_
      refine A_icmp_ge 36 dX1_knowWays_17 (by decide) (fun c17 => ?_) (fun c17 => ?_)
      · exact absurd c17 (by exact nI_ge (by omega) (by omega))
      · refine A_aload_n dX1_knowWays_20 rfl rfl ?_
        refine A_aload_n dX1_knowWays_21 rfl rfl ?_
        refine A_iload_n dX1_knowWays_22 rfl rfl ?_
        refine A_iload_n dX1_knowWays_23 rfl rfl ?_
        refine A_callVi dX1_knowWays_24 m_X1_96 cb_X1_onlyComing (As := [_, _]) rfl (HC_at (by decide)) rfl (c_onlyComing G hI (by omega) (by omega)) rfl ⟨by decide, by decide⟩ (Nat.le_of_ble_eq_true rfl) ⟨by decide, by decide⟩ (fun x24 h24 hq => ?_)
        obtain ⟨rfl, rfl⟩ := hq
        refine A_callVv dX1_knowWays_27 m_X1_93 cb_X1_know (As := [_]) rfl (HC_at (by decide)) rfl (c_know G hI (by rw [hN]; exact comeN_lt) hN hKN.2.1) rfl ⟨by decide, by decide⟩ (Nat.le_of_ble_eq_true rfl) ⟨by decide, by decide⟩ (fun h27 hq => ?_)
        obtain ⟨c1, rfl, hK1, hk1⟩ := hq
        refine A_inc 1 (lv1 := [_, _, _, _]) dX1_knowWays_30 rfl (by decide) rfl rfl ?_
        refine A_goto 15 dX1_knowWays_33 (by decide) ?_
        rw [nI_1]
        exact ih (i + 1) c1 (by omega) (hI.K hK1.1) (hKN.tr hK1) (fun j hj => by by_cases e : j = i; (rw [e]; exact hk1); exact hK1.2.2 _ (hkn j (by omega)))
  refine A_iconst (v := 1) dX1_knowWays_0 (by decide) ?_
  refine A_aload_n dX1_knowWays_1 rfl rfl ?_
  refine A_get dX1_knowWays_2 f_X1_22 (HC_at (by decide)) rfl ?_
  refine A_get dX1_knowWays_5 f_X1_30 (HC_at (by decide)) rfl ?_
  refine A_get dX1_knowWays_8 f_X1_36 (HC_at (by decide)) rfl ?_
  refine A_ishl dX1_knowWays_11 ?_
  rw [hI0.2.2.2.2.1, pow_sh nf (by omega)]
  refine A_istore_n (lv1 := [_, _, _, _]) dX1_knowWays_12 rfl (Nat.le_of_ble_eq_true rfl) rfl rfl ?_
  refine A_iconst (v := 0) dX1_knowWays_13 (by decide) ?_
  refine A_istore_n (lv1 := [_, _, _, _]) dX1_knowWays_14 rfl (Nat.le_of_ble_eq_true rfl) rfl rfl ?_
  exact loop (2 ^ nf) 0 c0 (by omega) hI0 ⟨sameK.rf, hC, fun j hj => hj⟩ (fun j hj => absurd hj (Nat.not_lt_zero j))
