/-! BEST, SAFE, HOPE, WISE -/
theorem lgc_eq (x y : Int64) : lg_cmp x y = 0 ↔ x = y := by
  unfold lg_cmp
  by_cases h : x > y
  · rw [if_pos h]
    refine ⟨fun z => absurd z (by decide), fun z => ?_⟩
    rw [z] at h
    have h2 := Int64.lt_iff_toInt_lt.mp h
    omega
  · rw [if_neg h]
    by_cases e : x = y
    · subst e
      refine ⟨fun _ => rfl, fun _ => ?_⟩
      split
      · first | rfl | (rename_i h2; exact absurd h2 h)
      · first | rfl | (rename_i h2; exact absurd rfl h2)
    · refine ⟨fun z => ?_, fun z => absurd z e⟩
      split at z
      · first | exact absurd z (by decide) | assumption
      · first
        | exact absurd z (by decide)
        | (rename_i h2
           refine Int64.toInt_inj.mp ?_
           have h3 : ¬ y.toInt < x.toInt := fun q => h (Int64.lt_iff_toInt_lt.mpr q)
           have h4 : ¬ x.toInt < y.toInt := fun q => h2 (Int64.lt_iff_toInt_lt.mpr q)
           omega)
def gcdF : Nat → Int64 → Int64 → Int64
  | 0, a, _ => a
  | k + 1, a, b => if b = 0 then a else gcdF k b (a - a / b * b)
def comD (a b : Int64) : Int64 := if gcdF 200 a b < 1 then 1 else gcdF 200 a b
theorem comD_ne {a b : Int64} : ¬ comD a b = 0 := by
  unfold comD
  intro h
  split at h
  · exact absurd h (by decide)
  · rename_i z; rw [h] at z; exact z (by decide)
def fracF (a b : Int64) (t : Int32) : Int64 := (if t = 0 then a else b) / comD (if 0 < a then a else -a) b
theorem KN.val {c c1 : CT} {N k : Nat} (h : KN c c1 N) (hk : k < N) (z : c1 45 k ≠ 0) : c1 43 k = BR c k ∧ c1 44 k = SH c k := by
  have e := h.2.1 k hk z
  rw [BR_c h.1.P, SH_c h.1.P] at e
  exact e
theorem bestF_cong {B B' S S' : Nat → Int32} : ∀ {k : Nat}, k < 2 ^ 31 → (∀ j, j < k → B j = B' j ∧ S j = S' j) → bestF B S k = bestF B' S' k
  | 0, _, _ => rfl
  | k + 1, h31, h => by
    have ih := bestF_cong (k := k) (by omega) (fun j hj => h j (by omega))
    rw [bestF, bestF, ← ih, (h k (by omega)).1, (h k (by omega)).2]
    rcases bestF_ix (B := B) (S := S) k with e | ⟨j, hj, e⟩
    · rw [e, if_pos rfl, if_pos rfl]
    · rw [e, tcl_nI (by omega), (h j (by omega)).1]
theorem cntS_cong {S S' : Nat → Int32} : ∀ {k : Nat}, (∀ j, j < k → S j = S' j) → cntS S k = cntS S' k
  | 0, _ => rfl
  | k + 1, h => by rw [cntS, cntS, cntS_cong (k := k) (fun j hj => h j (by omega)), h k (by omega)]
def bestK (c : CT) (nv nf : Nat) : Int32 := bestF (BR c) (SH c) (tot nv nf)
def bestA (c : CT) (nv nf : Nat) : Int32 := if 0 < c 6 5 then if bestK c nv nf = -1 then -1 else BR c (tcl (bestK c nv nf)) else -2
def takerA (c : CT) (nv nf : Nat) (v : Int32) : Int32 := if inI v (c 11 2) = 0 then -2 else if bestK c nv nf = -1 then -1 else nI (tkc nv nf (tcl (bestK c nv nf)) (tcl v)) - 1
def safeA (c : CT) (nv nf : Nat) : Int32 := if 0 < c 6 5 then nI (cntS (SH c) (tot nv nf)) else -2
theorem bestK_1 {c c1 : CT} {nv nf : Nat} (h3 : tot nv nf ≤ 343) (h : KN c c1 (tot nv nf)) (h2 : ∀ j, j < tot nv nf → c1 45 j ≠ 0) : bestF (c1 43) (c1 44) (tot nv nf) = bestK c nv nf := bestF_cong (by omega) (fun j hj => h.val hj (h2 j hj))
theorem bestK_2 {c : CT} {nv nf : Nat} (z : ¬ bestK c nv nf = -1) : ∃ j, j < tot nv nf ∧ bestK c nv nf = nI j := (bestF_ix (B := BR c) (S := SH c) (tot nv nf)).resolve_left z

theorem c_best (G : GX) {b : Nat} {c : CT} {co : Nat → Nat → Option Nat} {r : Nat → Option AE} {n : Nat} {nv nc nf nl wk : Nat} (hI : IX c nv nc nf nl wk) (hK : KX c nv nf) (hCa : CacheOk c (tot nv nf)) : MA G 7 yX9_best cX9_best 2 (some .int) 0 0 [.ref b] (HC b c co r n) (qI fun x h1 => x = bestA c nv nf ∧ ∃ c1, h1 = HC b c1 co r n ∧ keepC c c1 (tot nv nf)) := by
  refine MA.of (own := RX9) false [some (.ref b), none] (by decide +kernel) rfl (fun h => by cases h) (Nat.le_of_ble_eq_true rfl) rfl (fun X => ?_)
  obtain ⟨hv, hv6, hc, hc8, hf, hf3, hl, hl8, hw, hw30, gC, gL⟩ := id hI
  have h343 := tot_343 hv6 hf3
  refine A_aload_n dX9_best_0 rfl rfl ?_
  refine A_callVi dX9_best_1 m_X9_124 cb_X9_hasPlain (As := []) rfl HC_at0 rfl (c_hasPlain G) rfl ⟨by decide, by decide⟩ (Nat.le_of_ble_eq_true rfl) ⟨by decide, by decide⟩ (fun x1 h1 hq => ?_)
  obtain ⟨rfl, rfl⟩ := hq
  refine A_if_ne 10 dX9_best_4 (by decide) (fun c4 => ?_) (fun c4 => ?_)
  · refine A_aload_n dX9_best_10 rfl rfl ?_
    refine A_get dX9_best_11 f_X9_59 HC_at0 rfl ?_
    have hp : 0 < c 6 5 := by by_cases z : 0 < c 6 5; exact z; exact absurd (if_neg z) c4
    refine A_callVv dX9_best_14 m_X9_219 cb_X1_knowAll (As := []) rfl (HC_at (by decide)) rfl (c_knowAll G hI rfl hCa) rfl ⟨by decide, by decide⟩ (Nat.le_of_ble_eq_true rfl) ⟨by decide, by decide⟩ (fun h14 hq => ?_)
    obtain ⟨c1, rfl, hk1, hk2⟩ := hq
    have hI1 := hI.K hk1.1
    have kp := keepC.KN hk1
    refine A_aload_n dX9_best_17 rfl rfl ?_
    refine A_get dX9_best_18 f_X9_59 HC_at0 rfl ?_
    refine A_callVi dX9_best_21 m_X9_222 cb_X1_bestCode (As := []) rfl (HC_at (by decide)) rfl (c_bestCode G hI1 rfl) rfl ⟨by decide, by decide⟩ (Nat.le_of_ble_eq_true rfl) ⟨by decide, by decide⟩ (fun x21 h21 hq => ?_)
    obtain ⟨rfl, rfl⟩ := hq
    refine A_eqI (bestK_1 h343 hk1 hk2) ?_
    refine A_istore_n (lv1 := [_, _]) dX9_best_24 rfl (Nat.le_of_ble_eq_true rfl) rfl rfl ?_
    refine A_iload_n dX9_best_25 rfl rfl ?_
    refine A_iconst (v := (-1)) dX9_best_26 (by decide) ?_
    refine A_icmp_ne 34 dX9_best_27 (by decide) (fun c27 => ?_) (fun c27 => ?_)
    · obtain ⟨j, hj, e⟩ := bestK_2 c27
      refine A_aload_n dX9_best_34 rfl rfl ?_
      refine A_get dX9_best_35 f_X9_59 HC_at0 rfl ?_
      refine A_iload_n dX9_best_38 rfl rfl ?_
      refine A_eqI e ?_
      refine A_callVi dX9_best_39 m_X9_225 cb_X1_broughtBy (As := [_]) rfl (HC_at (by decide)) rfl (c_broughtBy G (by omega)) rfl ⟨by decide, by decide⟩ (Nat.le_of_ble_eq_true rfl) ⟨by decide, by decide⟩ (fun x39 h39 hq => ?_)
      obtain ⟨rfl, rfl⟩ := hq
      exact A_iret dX9_best_42 ⟨by rw [bestA, if_pos hp, if_neg c27, e, tcl_nI (by omega), (hk1.val hj (hk2 j hj)).1], c1, rfl, kp⟩ ⟨by decide, by decide⟩
    · refine A_iconst (v := (-1)) dX9_best_30 (by decide) ?_
      refine A_goto 42 dX9_best_31 (by decide) ?_
      exact A_iret dX9_best_42 ⟨by rw [bestA, if_pos hp, if_pos c27], c1, rfl, kp⟩ ⟨by decide, by decide⟩
  · refine A_bipush (v := (-2)) dX9_best_7 (by decide) ?_
    exact A_iret dX9_best_9 ⟨by rw [bestA, if_neg (fun z => by rw [if_pos z] at c4; exact absurd c4 (by decide))], ⟨c, rfl, keepC.rf hCa⟩⟩ ⟨by decide, by decide⟩

theorem c_taker (G : GX) {b : Nat} {c : CT} {co : Nat → Nat → Option Nat} {r : Nat → Option AE} {n : Nat} {nv nc nf nl wk : Nat} {v : Int32} (hI : IX c nv nc nf nl wk) (hK : KX c nv nf) (hCa : CacheOk c (tot nv nf)) : MA G 7 yX9_taker cX9_taker 3 (some .int) 0 0 [.ref b, .int v] (HC b c co r n) (qI fun x h1 => x = takerA c nv nf v ∧ ∃ c1, h1 = HC b c1 co r n ∧ keepC c c1 (tot nv nf)) := by
  refine MA.of (own := RX9) false [some (.ref b), some (.int v), none] (by decide +kernel) rfl (fun h => by cases h) (Nat.le_of_ble_eq_true rfl) rfl (fun X => ?_)
  obtain ⟨hv, hv6, hc, hc8, hf, hf3, hl, hl8, hw, hw30, gC, gL⟩ := id hI
  have h343 := tot_343 hv6 hf3
  refine A_aload_n dX9_taker_0 rfl rfl ?_
  refine A_iload_n dX9_taker_1 rfl rfl ?_
  refine A_callVi dX9_taker_2 m_X9_114 cb_X9_hasFlood (As := [_]) rfl HC_at0 rfl (c_hasFlood G) rfl ⟨by decide, by decide⟩ (Nat.le_of_ble_eq_true rfl) ⟨by decide, by decide⟩ (fun x2 h2 hq => ?_)
  obtain ⟨rfl, rfl⟩ := hq
  refine A_if_ne 11 dX9_taker_5 (by decide) (fun c5 => ?_) (fun c5 => ?_)
  · refine A_aload_n dX9_taker_11 rfl rfl ?_
    refine A_get dX9_taker_12 f_X9_59 HC_at0 rfl ?_
    obtain ⟨i, hi, rfl⟩ := inI_of hf c5 (by omega)
    refine A_callVv dX9_taker_15 m_X9_219 cb_X1_knowAll (As := []) rfl (HC_at (by decide)) rfl (c_knowAll G hI rfl hCa) rfl ⟨by decide, by decide⟩ (Nat.le_of_ble_eq_true rfl) ⟨by decide, by decide⟩ (fun h15 hq => ?_)
    obtain ⟨c1, rfl, hk1, hk2⟩ := hq
    have hI1 := hI.K hk1.1
    have kp := keepC.KN hk1
    refine A_aload_n dX9_taker_18 rfl rfl ?_
    refine A_get dX9_taker_19 f_X9_59 HC_at0 rfl ?_
    refine A_callVi dX9_taker_22 m_X9_222 cb_X1_bestCode (As := []) rfl (HC_at (by decide)) rfl (c_bestCode G hI1 rfl) rfl ⟨by decide, by decide⟩ (Nat.le_of_ble_eq_true rfl) ⟨by decide, by decide⟩ (fun x22 h22 hq => ?_)
    obtain ⟨rfl, rfl⟩ := hq
    refine A_eqI (bestK_1 h343 hk1 hk2) ?_
    refine A_istore_n (lv1 := [_, _, _]) dX9_taker_25 rfl (Nat.le_of_ble_eq_true rfl) rfl rfl ?_
    refine A_iload_n dX9_taker_26 rfl rfl ?_
    refine A_iconst (v := (-1)) dX9_taker_27 (by decide) ?_
    refine A_icmp_ne 35 dX9_taker_28 (by decide) (fun c28 => ?_) (fun c28 => ?_)
    · obtain ⟨j, hj, e⟩ := bestK_2 c28
      refine A_aload_n dX9_taker_35 rfl rfl ?_
      refine A_get dX9_taker_36 f_X9_59 HC_at0 rfl ?_
      refine A_iload_n dX9_taker_39 rfl rfl ?_
      refine A_eqI e ?_
      refine A_iload_n dX9_taker_40 rfl rfl ?_
      refine A_callVi dX9_taker_41 m_X9_229 cb_X1_takerIn (As := [_, _]) rfl (HC_at (by decide)) rfl (c_takerIn G hI1 (by omega) hi) rfl ⟨by decide, by decide⟩ (Nat.le_of_ble_eq_true rfl) ⟨by decide, by decide⟩ (fun x41 h41 hq => ?_)
      obtain ⟨rfl, rfl⟩ := hq
      exact A_iret dX9_taker_44 ⟨by rw [takerA, if_neg c5, if_neg c28, e, tcl_nI (by omega), tcl_nI (by omega)], c1, rfl, kp⟩ ⟨by decide, by decide⟩
    · refine A_iconst (v := (-1)) dX9_taker_31 (by decide) ?_
      refine A_goto 44 dX9_taker_32 (by decide) ?_
      exact A_iret dX9_taker_44 ⟨by rw [takerA, if_neg c5, if_pos c28], c1, rfl, kp⟩ ⟨by decide, by decide⟩
  · refine A_bipush (v := (-2)) dX9_taker_8 (by decide) ?_
    exact A_iret dX9_taker_10 ⟨(if_pos (by assumption)).symm, ⟨c, rfl, keepC.rf hCa⟩⟩ ⟨by decide, by decide⟩

theorem c_safe (G : GX) {b : Nat} {c : CT} {co : Nat → Nat → Option Nat} {r : Nat → Option AE} {n : Nat} {nv nc nf nl wk : Nat} (hI : IX c nv nc nf nl wk) (hK : KX c nv nf) (hCa : CacheOk c (tot nv nf)) : MA G 7 yX9_safe cX9_safe 1 (some .int) 0 0 [.ref b] (HC b c co r n) (qI fun x h1 => x = safeA c nv nf ∧ ∃ c1, h1 = HC b c1 co r n ∧ keepC c c1 (tot nv nf)) := by
  refine MA.of (own := RX9) false [some (.ref b)] (by decide +kernel) rfl (fun h => by cases h) (Nat.le_of_ble_eq_true rfl) rfl (fun X => ?_)
  obtain ⟨hv, hv6, hc, hc8, hf, hf3, hl, hl8, hw, hw30, gC, gL⟩ := id hI
  have h343 := tot_343 hv6 hf3
  refine A_aload_n dX9_safe_0 rfl rfl ?_
  refine A_callVi dX9_safe_1 m_X9_124 cb_X9_hasPlain (As := []) rfl HC_at0 rfl (c_hasPlain G) rfl ⟨by decide, by decide⟩ (Nat.le_of_ble_eq_true rfl) ⟨by decide, by decide⟩ (fun x1 h1 hq => ?_)
  obtain ⟨rfl, rfl⟩ := hq
  refine A_if_ne 10 dX9_safe_4 (by decide) (fun c4 => ?_) (fun c4 => ?_)
  · refine A_aload_n dX9_safe_10 rfl rfl ?_
    refine A_get dX9_safe_11 f_X9_59 HC_at0 rfl ?_
    have hp : 0 < c 6 5 := by by_cases z : 0 < c 6 5; exact z; exact absurd (if_neg z) c4
    refine A_callVv dX9_safe_14 m_X9_219 cb_X1_knowAll (As := []) rfl (HC_at (by decide)) rfl (c_knowAll G hI rfl hCa) rfl ⟨by decide, by decide⟩ (Nat.le_of_ble_eq_true rfl) ⟨by decide, by decide⟩ (fun h14 hq => ?_)
    obtain ⟨c1, rfl, hk1, hk2⟩ := hq
    have hI1 := hI.K hk1.1
    have kp := keepC.KN hk1
    refine A_aload_n dX9_safe_17 rfl rfl ?_
    refine A_get dX9_safe_18 f_X9_59 HC_at0 rfl ?_
    refine A_callVi dX9_safe_21 m_X9_232 cb_X1_safeCodes (As := []) rfl (HC_at (by decide)) rfl (c_safeCodes G hI1 rfl) rfl ⟨by decide, by decide⟩ (Nat.le_of_ble_eq_true rfl) ⟨by decide, by decide⟩ (fun x21 h21 hq => ?_)
    obtain ⟨rfl, rfl⟩ := hq
    exact A_iret dX9_safe_24 ⟨by rw [safeA, if_pos hp, cntS_cong (fun j hj => (hk1.val hj (hk2 j hj)).2)], c1, rfl, kp⟩ ⟨by decide, by decide⟩
  · refine A_bipush (v := (-2)) dX9_safe_7 (by decide) ?_
    exact A_iret dX9_safe_9 ⟨by rw [safeA, if_neg (fun z => by rw [if_pos z] at c4; exact absurd c4 (by decide))], ⟨c, rfl, keepC.rf hCa⟩⟩ ⟨by decide, by decide⟩

theorem c_comD (G : GX) {h : AH} {p q : Int64} : MA G 1 yX9_commonDivisor cX9_commonDivisor 11 (some .long) 0 0 [.long p, .long q] h (qL fun x h1 => x = comD p q ∧ h1 = h) := by
  refine MA.of (own := RX9) false [some (.long p), none, some (.long q), none, none, none, none, none, none, none, none] (by decide +kernel) rfl (fun h => by cases h) (Nat.le_of_ble_eq_true rfl) rfl (fun X => ?_)
  have loop : ∀ (k i : Nat) (x : Int64) (y : Int64), i + k = 200 → (gcdF k x y = gcdF 200 p q) → WA X G RX9 cX9_commonDivisor false (some .long) (qL fun x h1 => x = comD p q ∧ h1 = h) 1 0 0 (h) 0 0 9 [some (.long p), none, some (.long q), none, some (.long x), none, some (.long y), none, some (.int (nI i)), none, none] [] := by
    intro k
    induction k with
    | zero =>
      intro i x y hk hT
      refine A_iload dX9_commonDivisor_9 rfl ?_
      refine A_sipush (v := 200) dX9_commonDivisor_11 (by decide) ?_
      refine A_icmp_ge 45 dX9_commonDivisor_14 (by decide) (fun c14 => ?_) (fun c14 => ?_)
      · refine A_lconst (v := 1) dX9_commonDivisor_45 (by decide) ?_
        refine A_lload dX9_commonDivisor_46 rfl ?_
        refine A_maxL dX9_commonDivisor_48 w_840 (by decide) (Nat.le_of_ble_eq_true rfl) ⟨by decide, by decide⟩ ?_
        exact A_lret dX9_commonDivisor_51 ⟨by rw [comD, ← hT, gcdF], rfl⟩ ⟨by decide, by decide⟩
      · exact absurd (nI_le (a := 200) (by omega) (by omega)) c14
    | succ k ih =>
      intro i x y hk hT
      have hi : i < 200 := by omega
      refine A_iload dX9_commonDivisor_9 rfl ?_
      refine A_sipush (v := 200) dX9_commonDivisor_11 (by decide) ?_
      refine A_icmp_ge 45 dX9_commonDivisor_14 (by decide) (fun c14 => ?_) (fun c14 => ?_)
      · exact absurd c14 (nI_ge (b := 200) (by omega) (by decide))
      · refine A_lload dX9_commonDivisor_17 rfl ?_
        refine A_lconst (v := 0) dX9_commonDivisor_19 (by decide) ?_
        refine A_lcmp dX9_commonDivisor_20 ?_
        refine A_if_eq 45 dX9_commonDivisor_21 (by decide) (fun c21 => ?_) (fun c21 => ?_)
        · refine A_lconst (v := 1) dX9_commonDivisor_45 (by decide) ?_
          refine A_lload dX9_commonDivisor_46 rfl ?_
          refine A_maxL dX9_commonDivisor_48 w_840 (by decide) (Nat.le_of_ble_eq_true rfl) ⟨by decide, by decide⟩ ?_
          exact A_lret dX9_commonDivisor_51 ⟨by rw [comD, ← hT, gcdF, if_pos ((lgc_eq _ _).mp (by assumption))], rfl⟩ ⟨by decide, by decide⟩
        · refine A_lload dX9_commonDivisor_24 rfl ?_
          refine A_lload dX9_commonDivisor_26 rfl ?_
          refine A_lrem dX9_commonDivisor_28 (fun z => c21 ((lgc_eq _ _).mpr z)) ?_
          refine A_lstore (lv1 := [_, _, _, _, _, _, _, _, _, _, _]) dX9_commonDivisor_29 (Nat.le_of_ble_eq_true rfl) rfl rfl ?_
          refine A_lload dX9_commonDivisor_31 rfl ?_
          refine A_lstore (lv1 := [_, _, _, _, _, _, _, _, _, _, _]) dX9_commonDivisor_33 (Nat.le_of_ble_eq_true rfl) rfl rfl ?_
          refine A_lload dX9_commonDivisor_35 rfl ?_
          refine A_lstore (lv1 := [_, _, _, _, _, _, _, _, _, _, _]) dX9_commonDivisor_37 (Nat.le_of_ble_eq_true rfl) rfl rfl ?_
          refine A_inc 1 (lv1 := [_, _, _, _, _, _, _, _, _, _, _]) dX9_commonDivisor_39 rfl (by decide) rfl rfl ?_
          refine A_goto 9 dX9_commonDivisor_42 (by decide) ?_
          refine A_fg 9 (lv1 := [_, _, _, _, _, _, _, _, _, _, _]) rfl ?_
          rw [nI_1]
          exact ih (i + 1) _ _ (by omega) (by rw [← hT, gcdF, if_neg (fun z => c21 ((lgc_eq _ _).mpr z))])
  refine A_lload_n dX9_commonDivisor_0 rfl rfl ?_
  refine A_lstore (lv1 := [_, _, _, _, _, _, _, _, _, _, _]) dX9_commonDivisor_1 (Nat.le_of_ble_eq_true rfl) rfl rfl ?_
  refine A_lload_n dX9_commonDivisor_3 rfl rfl ?_
  refine A_lstore (lv1 := [_, _, _, _, _, _, _, _, _, _, _]) dX9_commonDivisor_4 (Nat.le_of_ble_eq_true rfl) rfl rfl ?_
  refine A_iconst (v := 0) dX9_commonDivisor_6 (by decide) ?_
  refine A_istore (lv1 := [_, _, _, _, _, _, _, _, _, _, _]) dX9_commonDivisor_7 (Nat.le_of_ble_eq_true rfl) rfl rfl ?_
  exact loop 200 0 p q (by omega) rfl

theorem c_fraction (G : GX) {b : Nat} {c : CT} {co : Nat → Nat → Option Nat} {r : Nat → Option AE} {n : Nat} {nv nc nf nl wk : Nat} {kk : Nat} {t : Int32} (hI : IX c nv nc nf nl wk) (hk9 : kk < 343) : MA G 5 yX9_fraction cX9_fraction 9 (some .long) 0 0 [.ref b, .int (nI kk), .int t] (HC b c co r n) (qL fun x h1 => x = fracF (hopeF c nv nf kk) (hbF nf) t ∧ h1 = HC b c co r n) := by
  refine MA.of (own := RX9) false [some (.ref b), some (.int (nI kk)), some (.int t), none, none, none, none, none, none] (by decide +kernel) rfl (fun h => by cases h) (Nat.le_of_ble_eq_true rfl) rfl (fun X => ?_)
  refine A_aload_n dX9_fraction_0 rfl rfl ?_
  refine A_get dX9_fraction_1 f_X9_59 HC_at0 rfl ?_
  refine A_iload_n dX9_fraction_4 rfl rfl ?_
  refine A_callVl dX9_fraction_5 m_X9_250 cb_X1_hopeAbove (As := [_]) rfl (HC_at (by decide)) rfl (c_hopeAbove G hI hk9) rfl ⟨by decide, by decide⟩ (Nat.le_of_ble_eq_true rfl) ⟨by decide, by decide⟩ (fun x5 h5 hq => ?_)
  obtain ⟨rfl, rfl⟩ := hq
  refine A_lstore_n (lv1 := [_, _, _, _, _, _, _, _, _]) dX9_fraction_8 rfl (Nat.le_of_ble_eq_true rfl) rfl rfl ?_
  refine A_aload_n dX9_fraction_9 rfl rfl ?_
  refine A_get dX9_fraction_10 f_X9_59 HC_at0 rfl ?_
  refine A_callVl dX9_fraction_13 m_X9_254 cb_X1_hopeBelow (As := []) rfl (HC_at (by decide)) rfl (c_hopeBelow G hI) rfl ⟨by decide, by decide⟩ (Nat.le_of_ble_eq_true rfl) ⟨by decide, by decide⟩ (fun x13 h13 hq => ?_)
  obtain ⟨rfl, rfl⟩ := hq
  refine A_lstore (lv1 := [_, _, _, _, _, _, _, _, _]) dX9_fraction_16 (Nat.le_of_ble_eq_true rfl) rfl rfl ?_
  refine A_lload_n dX9_fraction_18 rfl rfl ?_
  refine A_absL dX9_fraction_19 w_834 (by decide) (Nat.le_of_ble_eq_true rfl) ⟨by decide, by decide⟩ ?_
  refine A_lload dX9_fraction_22 rfl ?_
  refine A_callSl dX9_fraction_24 m_X9_264 cb_X9_commonDivisor (As := [_, _]) rfl (c_comD G) rfl ⟨by decide, by decide⟩ (Nat.le_of_ble_eq_true rfl) ⟨by decide, by decide⟩ (fun x24 h24 hq => ?_)
  obtain ⟨rfl, rfl⟩ := hq
  refine A_lstore (lv1 := [_, _, _, _, _, _, _, _, _]) dX9_fraction_27 (Nat.le_of_ble_eq_true rfl) rfl rfl ?_
  refine A_iload_n dX9_fraction_29 rfl rfl ?_
  refine A_if_ne 37 dX9_fraction_30 (by decide) (fun c30 => ?_) (fun c30 => ?_)
  · refine A_lload dX9_fraction_37 rfl ?_
    refine A_lload dX9_fraction_39 rfl ?_
    refine A_ldiv dX9_fraction_41 comD_ne ?_
    exact A_lret dX9_fraction_42 ⟨by rw [fracF, if_neg c30], rfl⟩ ⟨by decide, by decide⟩
  · refine A_lload_n dX9_fraction_33 rfl rfl ?_
    refine A_goto 39 dX9_fraction_34 (by decide) ?_
    refine A_lload dX9_fraction_39 rfl ?_
    refine A_ldiv dX9_fraction_41 comD_ne ?_
    exact A_lret dX9_fraction_42 ⟨by rw [fracF, if_pos c30], rfl⟩ ⟨by decide, by decide⟩

def hpG (B S : Nat → Int32) (c : CT) (nv nf k : Nat) : Nat → Int64
  | 0 => 0
  | fl + 1 => hpG B S c nv nf k fl + chF c fl nf * (B (comeN nv nf k fl) - S (comeN nv nf k fl)).toInt64
def hopeG (c : CT) (nv nf k : Nat) : Int64 := hpG (BR c) (SH c) c nv nf k (2 ^ nf)
theorem chF_cong {c c1 : CT} (h : c1 12 = c 12) (fl : Nat) : ∀ k, chF c1 fl k = chF c fl k
  | 0 => rfl
  | k + 1 => by rw [chF, chF, chF_cong h fl k, h]
theorem hpG_cong {c c1 : CT} {nv nf k : Nat} {B S : Nat → Int32} (h : c1 12 = c 12) : ∀ {m : Nat}, (∀ fl, fl < m → c1 43 (comeN nv nf k fl) = B (comeN nv nf k fl) ∧ c1 44 (comeN nv nf k fl) = S (comeN nv nf k fl)) → hpF c1 nv nf k m = hpG B S c nv nf k m
  | 0, _ => rfl
  | m + 1, z => by rw [hpF, hpG, hpG_cong h (fun fl hf => z fl (by omega)), chF_cong h, (z m (by omega)).1, (z m (by omega)).2]
theorem hopeG_1 {c c1 : CT} {nv nf k : Nat} (h : KN c c1 (tot nv nf)) (h2 : ∀ fl, fl < 2 ^ nf → c1 45 (comeN nv nf k fl) ≠ 0) : hopeF c1 nv nf k = hopeG c nv nf k := hpG_cong (h.1 12 (by decide)) (fun fl hf => h.val comeN_lt (h2 fl hf))
theorem hopeG_2 {c c1 : CT} {nv nf : Nat} (h : KN c c1 (tot nv nf)) (h2 : ∀ j, j < tot nv nf → c1 45 j ≠ 0) : (fun k => hopeF c1 nv nf k) = (fun k => hopeG c nv nf k) := funext (fun k => hopeG_1 h (fun fl _ => h2 _ comeN_lt))
def codeN (c : CT) (nv nf : Nat) : Nat := cdF nv (tkn c) nf
theorem codeN_lt {c : CT} {nv nf : Nat} (hK : KX c nv nf) : codeN c nv nf < tot nv nf := cdF_lt nf (fun i hi => (hK i hi).2)
def hopeA (c : CT) (nv nf : Nat) (t : Int32) : Int64 := if 0 < c 6 5 ∧ (t = 0 ∨ t = 1) then fracF (hopeG c nv nf (codeN c nv nf)) (hbF nf) t else -2
def wiseK (c : CT) (nv nf : Nat) : Nat := wsF (fun k => hopeG c nv nf k) (tot nv nf - 1)
theorem wiseK_lt {c : CT} {nv nf : Nat} : wiseK c nv nf < tot nv nf := by
  have h1 := wsF_le (h := fun k => hopeG c nv nf k) (tot nv nf - 1)
  have h2 := tot_pos (nv := nv) (nf := nf)
  unfold wiseK; omega
def wiseA (c : CT) (nv nf : Nat) (v : Int32) : Int32 := if inI v (c 11 2) = 0 then -2 else nI (tkc nv nf (wiseK c nv nf) (tcl v)) - 1
def wisestA (c : CT) (nv nf : Nat) (t : Int32) : Int64 := if 0 < c 6 5 ∧ (t = 0 ∨ t = 1) then fracF (hopeG c nv nf (wiseK c nv nf)) (hbF nf) t else -2
theorem c_hope (G : GX) {b : Nat} {c : CT} {co : Nat → Nat → Option Nat} {r : Nat → Option AE} {n : Nat} {nv nc nf nl wk : Nat} {t : Int32} (hI : IX c nv nc nf nl wk) (hK : KX c nv nf) (hCa : CacheOk c (tot nv nf)) : MA G 7 yX9_hope cX9_hope 3 (some .long) 0 0 [.ref b, .int t] (HC b c co r n) (qL fun x h1 => x = hopeA c nv nf t ∧ ∃ c1, h1 = HC b c1 co r n ∧ keepC c c1 (tot nv nf)) := by
  refine MA.of (own := RX9) false [some (.ref b), some (.int t), none] (by decide +kernel) rfl (fun h => by cases h) (Nat.le_of_ble_eq_true rfl) rfl (fun X => ?_)
  obtain ⟨hv, hv6, hc, hc8, hf, hf3, hl, hl8, hw, hw30, gC, gL⟩ := id hI
  have h343 := tot_343 hv6 hf3
  refine A_aload_n dX9_hope_0 rfl rfl ?_
  refine A_callVi dX9_hope_1 m_X9_124 cb_X9_hasPlain (As := []) rfl HC_at0 rfl (c_hasPlain G) rfl ⟨by decide, by decide⟩ (Nat.le_of_ble_eq_true rfl) ⟨by decide, by decide⟩ (fun x1 h1 hq => ?_)
  obtain ⟨rfl, rfl⟩ := hq
  refine A_if_eq 16 dX9_hope_4 (by decide) (fun c4 => ?_) (fun c4 => ?_)
  · refine A_ldc2 dX9_hope_16 w_803 ?_
    exact A_lret dX9_hope_19 ⟨by rw [hopeA, if_neg (by rintro ⟨hp, ht⟩; first | (rw [if_pos hp] at c4; exact absurd c4 (by decide)) | exact ht.elim c8 c13)], ⟨c, rfl, keepC.rf hCa⟩⟩ ⟨by decide, by decide⟩
  · refine A_iload_n dX9_hope_7 rfl rfl ?_
    refine A_if_eq 20 dX9_hope_8 (by decide) (fun c8 => ?_) (fun c8 => ?_)
    · refine A_aload_n dX9_hope_20 rfl rfl ?_
      refine A_get dX9_hope_21 f_X9_59 HC_at0 rfl ?_
      have hp : 0 < c 6 5 ∧ (t = 0 ∨ t = 1) := ⟨by by_cases z : 0 < c 6 5; exact z; exact absurd (if_neg z) c4, by first | exact Or.inl (by assumption) | exact Or.inr (by assumption)⟩
      refine A_callVi dX9_hope_24 m_X9_237 cb_X1_codeNow (As := []) rfl (HC_at (by decide)) rfl (c_codeNow G hI hK) rfl ⟨by decide, by decide⟩ (Nat.le_of_ble_eq_true rfl) ⟨by decide, by decide⟩ (fun x24 h24 hq => ?_)
      obtain ⟨rfl, rfl⟩ := hq
      refine A_istore_n (lv1 := [_, _, _]) dX9_hope_27 rfl (Nat.le_of_ble_eq_true rfl) rfl rfl ?_
      refine A_aload_n dX9_hope_28 rfl rfl ?_
      refine A_get dX9_hope_29 f_X9_59 HC_at0 rfl ?_
      refine A_iload_n dX9_hope_32 rfl rfl ?_
      refine A_callVv dX9_hope_33 m_X9_240 cb_X1_knowWays (As := [_]) rfl (HC_at (by decide)) rfl (c_knowWays G hI rfl hCa (codeN_lt hK)) rfl ⟨by decide, by decide⟩ (Nat.le_of_ble_eq_true rfl) ⟨by decide, by decide⟩ (fun h33 hq => ?_)
      obtain ⟨c1, rfl, hk1, hk2⟩ := hq
      have hI1 := hI.K hk1.1
      have kp := keepC.KN hk1
      refine A_aload_n dX9_hope_36 rfl rfl ?_
      refine A_iload_n dX9_hope_37 rfl rfl ?_
      refine A_iload_n dX9_hope_38 rfl rfl ?_
      refine A_callVl dX9_hope_39 m_X9_243 cb_X9_fraction (As := [_, _]) rfl HC_at0 rfl (c_fraction G hI1 (Nat.lt_of_lt_of_le (codeN_lt hK) h343)) rfl ⟨by decide, by decide⟩ (Nat.le_of_ble_eq_true rfl) ⟨by decide, by decide⟩ (fun x39 h39 hq => ?_)
      obtain ⟨rfl, rfl⟩ := hq
      exact A_lret dX9_hope_42 ⟨by rw [hopeA, if_pos hp, codeN, ← hopeG_1 hk1 hk2], c1, rfl, kp⟩ ⟨by decide, by decide⟩
    · refine A_iload_n dX9_hope_11 rfl rfl ?_
      refine A_iconst (v := 1) dX9_hope_12 (by decide) ?_
      refine A_icmp_eq 20 dX9_hope_13 (by decide) (fun c13 => ?_) (fun c13 => ?_)
      · refine A_aload_n dX9_hope_20 rfl rfl ?_
        refine A_get dX9_hope_21 f_X9_59 HC_at0 rfl ?_
        have hp : 0 < c 6 5 ∧ (t = 0 ∨ t = 1) := ⟨by by_cases z : 0 < c 6 5; exact z; exact absurd (if_neg z) c4, by first | exact Or.inl (by assumption) | exact Or.inr (by assumption)⟩
        refine A_callVi dX9_hope_24 m_X9_237 cb_X1_codeNow (As := []) rfl (HC_at (by decide)) rfl (c_codeNow G hI hK) rfl ⟨by decide, by decide⟩ (Nat.le_of_ble_eq_true rfl) ⟨by decide, by decide⟩ (fun x24 h24 hq => ?_)
        obtain ⟨rfl, rfl⟩ := hq
        refine A_istore_n (lv1 := [_, _, _]) dX9_hope_27 rfl (Nat.le_of_ble_eq_true rfl) rfl rfl ?_
        refine A_aload_n dX9_hope_28 rfl rfl ?_
        refine A_get dX9_hope_29 f_X9_59 HC_at0 rfl ?_
        refine A_iload_n dX9_hope_32 rfl rfl ?_
        refine A_callVv dX9_hope_33 m_X9_240 cb_X1_knowWays (As := [_]) rfl (HC_at (by decide)) rfl (c_knowWays G hI rfl hCa (codeN_lt hK)) rfl ⟨by decide, by decide⟩ (Nat.le_of_ble_eq_true rfl) ⟨by decide, by decide⟩ (fun h33 hq => ?_)
        obtain ⟨c1, rfl, hk1, hk2⟩ := hq
        have hI1 := hI.K hk1.1
        have kp := keepC.KN hk1
        refine A_aload_n dX9_hope_36 rfl rfl ?_
        refine A_iload_n dX9_hope_37 rfl rfl ?_
        refine A_iload_n dX9_hope_38 rfl rfl ?_
        refine A_callVl dX9_hope_39 m_X9_243 cb_X9_fraction (As := [_, _]) rfl HC_at0 rfl (c_fraction G hI1 (Nat.lt_of_lt_of_le (codeN_lt hK) h343)) rfl ⟨by decide, by decide⟩ (Nat.le_of_ble_eq_true rfl) ⟨by decide, by decide⟩ (fun x39 h39 hq => ?_)
        obtain ⟨rfl, rfl⟩ := hq
        exact A_lret dX9_hope_42 ⟨by rw [hopeA, if_pos hp, codeN, ← hopeG_1 hk1 hk2], c1, rfl, kp⟩ ⟨by decide, by decide⟩
      · refine A_ldc2 dX9_hope_16 w_803 ?_
        exact A_lret dX9_hope_19 ⟨by rw [hopeA, if_neg (by rintro ⟨hp, ht⟩; first | (rw [if_pos hp] at c4; exact absurd c4 (by decide)) | exact ht.elim c8 c13)], ⟨c, rfl, keepC.rf hCa⟩⟩ ⟨by decide, by decide⟩

theorem c_wise (G : GX) {b : Nat} {c : CT} {co : Nat → Nat → Option Nat} {r : Nat → Option AE} {n : Nat} {nv nc nf nl wk : Nat} {v : Int32} (hI : IX c nv nc nf nl wk) (hK : KX c nv nf) (hCa : CacheOk c (tot nv nf)) : MA G 7 yX9_wise cX9_wise 2 (some .int) 0 0 [.ref b, .int v] (HC b c co r n) (qI fun x h1 => x = wiseA c nv nf v ∧ ∃ c1, h1 = HC b c1 co r n ∧ keepC c c1 (tot nv nf)) := by
  refine MA.of (own := RX9) false [some (.ref b), some (.int v)] (by decide +kernel) rfl (fun h => by cases h) (Nat.le_of_ble_eq_true rfl) rfl (fun X => ?_)
  obtain ⟨hv, hv6, hc, hc8, hf, hf3, hl, hl8, hw, hw30, gC, gL⟩ := id hI
  have h343 := tot_343 hv6 hf3
  refine A_aload_n dX9_wise_0 rfl rfl ?_
  refine A_iload_n dX9_wise_1 rfl rfl ?_
  refine A_callVi dX9_wise_2 m_X9_114 cb_X9_hasFlood (As := [_]) rfl HC_at0 rfl (c_hasFlood G) rfl ⟨by decide, by decide⟩ (Nat.le_of_ble_eq_true rfl) ⟨by decide, by decide⟩ (fun x2 h2 hq => ?_)
  obtain ⟨rfl, rfl⟩ := hq
  refine A_if_ne 11 dX9_wise_5 (by decide) (fun c5 => ?_) (fun c5 => ?_)
  · refine A_aload_n dX9_wise_11 rfl rfl ?_
    refine A_get dX9_wise_12 f_X9_59 HC_at0 rfl ?_
    obtain ⟨i, hi, rfl⟩ := inI_of hf c5 (by omega)
    refine A_callVv dX9_wise_15 m_X9_219 cb_X1_knowAll (As := []) rfl (HC_at (by decide)) rfl (c_knowAll G hI rfl hCa) rfl ⟨by decide, by decide⟩ (Nat.le_of_ble_eq_true rfl) ⟨by decide, by decide⟩ (fun h15 hq => ?_)
    obtain ⟨c1, rfl, hk1, hk2⟩ := hq
    have hI1 := hI.K hk1.1
    have kp := keepC.KN hk1
    refine A_aload_n dX9_wise_18 rfl rfl ?_
    refine A_get dX9_wise_19 f_X9_59 HC_at0 rfl ?_
    refine A_aload_n dX9_wise_22 rfl rfl ?_
    refine A_get dX9_wise_23 f_X9_59 HC_at0 rfl ?_
    refine A_callVi dX9_wise_26 m_X9_247 cb_X1_wiseCode (As := []) rfl (HC_at (by decide)) rfl (c_wiseCode G hI1 rfl) rfl ⟨by decide, by decide⟩ (Nat.le_of_ble_eq_true rfl) ⟨by decide, by decide⟩ (fun x26 h26 hq => ?_)
    obtain ⟨rfl, rfl⟩ := hq
    refine A_eqI (show _ = nI (wiseK c nv nf) by rw [hopeG_2 hk1 hk2]; rfl) ?_
    refine A_iload_n dX9_wise_29 rfl rfl ?_
    refine A_callVi dX9_wise_30 m_X9_229 cb_X1_takerIn (As := [_, _]) rfl (HC_at (by decide)) rfl (c_takerIn G hI1 (Nat.lt_of_lt_of_le wiseK_lt h343) hi) rfl ⟨by decide, by decide⟩ (Nat.le_of_ble_eq_true rfl) ⟨by decide, by decide⟩ (fun x30 h30 hq => ?_)
    obtain ⟨rfl, rfl⟩ := hq
    exact A_iret dX9_wise_33 ⟨by rw [wiseA, if_neg c5, tcl_nI (by omega)], c1, rfl, kp⟩ ⟨by decide, by decide⟩
  · refine A_bipush (v := (-2)) dX9_wise_8 (by decide) ?_
    exact A_iret dX9_wise_10 ⟨(if_pos (by assumption)).symm, ⟨c, rfl, keepC.rf hCa⟩⟩ ⟨by decide, by decide⟩

theorem c_wisest (G : GX) {b : Nat} {c : CT} {co : Nat → Nat → Option Nat} {r : Nat → Option AE} {n : Nat} {nv nc nf nl wk : Nat} {t : Int32} (hI : IX c nv nc nf nl wk) (hK : KX c nv nf) (hCa : CacheOk c (tot nv nf)) : MA G 7 yX9_wisest cX9_wisest 2 (some .long) 0 0 [.ref b, .int t] (HC b c co r n) (qL fun x h1 => x = wisestA c nv nf t ∧ ∃ c1, h1 = HC b c1 co r n ∧ keepC c c1 (tot nv nf)) := by
  refine MA.of (own := RX9) false [some (.ref b), some (.int t)] (by decide +kernel) rfl (fun h => by cases h) (Nat.le_of_ble_eq_true rfl) rfl (fun X => ?_)
  obtain ⟨hv, hv6, hc, hc8, hf, hf3, hl, hl8, hw, hw30, gC, gL⟩ := id hI
  have h343 := tot_343 hv6 hf3
  refine A_aload_n dX9_wisest_0 rfl rfl ?_
  refine A_callVi dX9_wisest_1 m_X9_124 cb_X9_hasPlain (As := []) rfl HC_at0 rfl (c_hasPlain G) rfl ⟨by decide, by decide⟩ (Nat.le_of_ble_eq_true rfl) ⟨by decide, by decide⟩ (fun x1 h1 hq => ?_)
  obtain ⟨rfl, rfl⟩ := hq
  refine A_if_eq 16 dX9_wisest_4 (by decide) (fun c4 => ?_) (fun c4 => ?_)
  · refine A_ldc2 dX9_wisest_16 w_803 ?_
    exact A_lret dX9_wisest_19 ⟨by rw [wisestA, if_neg (by rintro ⟨hp, ht⟩; first | (rw [if_pos hp] at c4; exact absurd c4 (by decide)) | exact ht.elim c8 c13)], ⟨c, rfl, keepC.rf hCa⟩⟩ ⟨by decide, by decide⟩
  · refine A_iload_n dX9_wisest_7 rfl rfl ?_
    refine A_if_eq 20 dX9_wisest_8 (by decide) (fun c8 => ?_) (fun c8 => ?_)
    · refine A_aload_n dX9_wisest_20 rfl rfl ?_
      refine A_get dX9_wisest_21 f_X9_59 HC_at0 rfl ?_
      have hp : 0 < c 6 5 ∧ (t = 0 ∨ t = 1) := ⟨by by_cases z : 0 < c 6 5; exact z; exact absurd (if_neg z) c4, by first | exact Or.inl (by assumption) | exact Or.inr (by assumption)⟩
      refine A_callVv dX9_wisest_24 m_X9_219 cb_X1_knowAll (As := []) rfl (HC_at (by decide)) rfl (c_knowAll G hI rfl hCa) rfl ⟨by decide, by decide⟩ (Nat.le_of_ble_eq_true rfl) ⟨by decide, by decide⟩ (fun h24 hq => ?_)
      obtain ⟨c1, rfl, hk1, hk2⟩ := hq
      have hI1 := hI.K hk1.1
      have kp := keepC.KN hk1
      refine A_aload_n dX9_wisest_27 rfl rfl ?_
      refine A_aload_n dX9_wisest_28 rfl rfl ?_
      refine A_get dX9_wisest_29 f_X9_59 HC_at0 rfl ?_
      refine A_callVi dX9_wisest_32 m_X9_247 cb_X1_wiseCode (As := []) rfl (HC_at (by decide)) rfl (c_wiseCode G hI1 rfl) rfl ⟨by decide, by decide⟩ (Nat.le_of_ble_eq_true rfl) ⟨by decide, by decide⟩ (fun x32 h32 hq => ?_)
      obtain ⟨rfl, rfl⟩ := hq
      refine A_eqI (show _ = nI (wiseK c nv nf) by rw [hopeG_2 hk1 hk2]; rfl) ?_
      refine A_iload_n dX9_wisest_35 rfl rfl ?_
      refine A_callVl dX9_wisest_36 m_X9_243 cb_X9_fraction (As := [_, _]) rfl HC_at0 rfl (c_fraction G hI1 (Nat.lt_of_lt_of_le wiseK_lt h343)) rfl ⟨by decide, by decide⟩ (Nat.le_of_ble_eq_true rfl) ⟨by decide, by decide⟩ (fun x36 h36 hq => ?_)
      obtain ⟨rfl, rfl⟩ := hq
      exact A_lret dX9_wisest_39 ⟨by rw [wisestA, if_pos hp, ← hopeG_1 hk1 (fun fl _ => hk2 _ comeN_lt)], c1, rfl, kp⟩ ⟨by decide, by decide⟩
    · refine A_iload_n dX9_wisest_11 rfl rfl ?_
      refine A_iconst (v := 1) dX9_wisest_12 (by decide) ?_
      refine A_icmp_eq 20 dX9_wisest_13 (by decide) (fun c13 => ?_) (fun c13 => ?_)
      · refine A_aload_n dX9_wisest_20 rfl rfl ?_
        refine A_get dX9_wisest_21 f_X9_59 HC_at0 rfl ?_
        have hp : 0 < c 6 5 ∧ (t = 0 ∨ t = 1) := ⟨by by_cases z : 0 < c 6 5; exact z; exact absurd (if_neg z) c4, by first | exact Or.inl (by assumption) | exact Or.inr (by assumption)⟩
        refine A_callVv dX9_wisest_24 m_X9_219 cb_X1_knowAll (As := []) rfl (HC_at (by decide)) rfl (c_knowAll G hI rfl hCa) rfl ⟨by decide, by decide⟩ (Nat.le_of_ble_eq_true rfl) ⟨by decide, by decide⟩ (fun h24 hq => ?_)
        obtain ⟨c1, rfl, hk1, hk2⟩ := hq
        have hI1 := hI.K hk1.1
        have kp := keepC.KN hk1
        refine A_aload_n dX9_wisest_27 rfl rfl ?_
        refine A_aload_n dX9_wisest_28 rfl rfl ?_
        refine A_get dX9_wisest_29 f_X9_59 HC_at0 rfl ?_
        refine A_callVi dX9_wisest_32 m_X9_247 cb_X1_wiseCode (As := []) rfl (HC_at (by decide)) rfl (c_wiseCode G hI1 rfl) rfl ⟨by decide, by decide⟩ (Nat.le_of_ble_eq_true rfl) ⟨by decide, by decide⟩ (fun x32 h32 hq => ?_)
        obtain ⟨rfl, rfl⟩ := hq
        refine A_eqI (show _ = nI (wiseK c nv nf) by rw [hopeG_2 hk1 hk2]; rfl) ?_
        refine A_iload_n dX9_wisest_35 rfl rfl ?_
        refine A_callVl dX9_wisest_36 m_X9_243 cb_X9_fraction (As := [_, _]) rfl HC_at0 rfl (c_fraction G hI1 (Nat.lt_of_lt_of_le wiseK_lt h343)) rfl ⟨by decide, by decide⟩ (Nat.le_of_ble_eq_true rfl) ⟨by decide, by decide⟩ (fun x36 h36 hq => ?_)
        obtain ⟨rfl, rfl⟩ := hq
        exact A_lret dX9_wisest_39 ⟨by rw [wisestA, if_pos hp, ← hopeG_1 hk1 (fun fl _ => hk2 _ comeN_lt)], c1, rfl, kp⟩ ⟨by decide, by decide⟩
      · refine A_ldc2 dX9_wisest_16 w_803 ?_
        exact A_lret dX9_wisest_19 ⟨by rw [wisestA, if_neg (by rintro ⟨hp, ht⟩; first | (rw [if_pos hp] at c4; exact absurd c4 (by decide)) | exact ht.elim c8 c13)], ⟨c, rfl, keepC.rf hCa⟩⟩ ⟨by decide, by decide⟩
