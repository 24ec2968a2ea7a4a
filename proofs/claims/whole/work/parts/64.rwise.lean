/-! THE REFERENCE: hope, wise, wisest answer as the class does -/
theorem t01 {t : Int32} (h : ¬ inI t (nI 2) = 0) : t = 0 ∨ t = 1 := by
  obtain ⟨j, hj, rfl⟩ := inI_of rfl h (by decide)
  match j, hj with
  | 0, _ => exact Or.inl rfl
  | 1, _ => exact Or.inr rfl
theorem t01_n {t : Int32} (h : inI t (nI 2) = 0) : ¬ (t = 0 ∨ t = 1) := by
  have hn := in_out h (by decide)
  rintro (z | z)
  · exact hn 0 (by decide) z
  · exact hn 1 (by decide) z
theorem OT.rf {nf : Nat} {m : CT} : OT nf m m := ⟨fun _ _ => rfl, rfl⟩
theorem EM.O {nf : Nat} {m m' : CT} (E : EM m m') : OT nf m m' := ⟨fun j hj => E.1 j (Or.inl hj), E.2.2.2 25 (by decide)⟩
theorem wsF_s {h : Nat → Int64} (k : Nat) : (h (k + 1) ≤ h (wsF h k) → wsF h (k + 1) = wsF h k) ∧ (¬ h (k + 1) ≤ h (wsF h k) → wsF h (k + 1) = k + 1) := by
  have e : h (wsF h k) < h (k + 1) ↔ ¬ h (k + 1) ≤ h (wsF h k) := by rw [Int64.lt_iff_toInt_lt, Int64.le_iff_toInt_le]; omega
  constructor
  · intro z; rw [wsF, if_neg (fun q => e.mp q z)]
  · intro z; rw [wsF, if_pos (e.mpr z)]
theorem k_hope (G : GX) {b : Nat} {c m : CT} {ml : Nat → Nat → Int64} {r : Nat → Option AE} {n : Nat} {nv nc nf nl wk : Nat} {t : Int32} (h : BL nv nc nf nl wk c m) : MA G 5 yX10_hope cX10_hope 2 (some .long) 0 0 [.ref b, .int t] (HM b m ml r n) (qL fun x9 h1 => x9 = hopeA c nv nf t ∧ ∃ m1 ml1, h1 = HM b m1 ml1 r n ∧ KM m ml m1 ml1) := by
  refine MA.of (own := RX10) false [some (.ref b), some (.int t)] (by decide +kernel) rfl (fun h => by cases h) (Nat.le_of_ble_eq_true rfl) rfl (fun X => ?_)
  have hX := h.ix
  obtain ⟨xv, xv6, xc, xc8, xf, xf3, xl, xl8, xw, xw30, xC, xL⟩ := id hX
  have hI := h.im
  obtain ⟨hv, hv6, hc, hc8, hf, hf3, hl, hl8, hw, hw30, gC, gL⟩ := id hI
  have hT := h.tm
  refine A_aload_n dX10_hope_0 rfl rfl ?_
  refine A_callVi dX10_hope_1 m_X10_322 cb_X10_isPlain (As := []) rfl HM_at0 rfl (k_isPlain G) rfl ⟨by decide, by decide⟩ (Nat.le_of_ble_eq_true rfl) ⟨by decide, by decide⟩ (fun x1 h1 hq => ?_)
  obtain ⟨rfl, rfl⟩ := hq
  refine A_eqI (pl_i h) ?_
  refine A_if_eq 32 dX10_hope_4 (by decide) (fun c4 => ?_) (fun c4 => ?_)
  · refine A_ldc2 dX10_hope_32 w_1607 ?_
    exact A_lret dX10_hope_35 ⟨by rw [hopeA, if_neg (fun z => (fun z => by rw [if_pos z] at c4; exact absurd c4 (by decide)) z.1)], ⟨_, _, rfl, KM.rf⟩⟩ ⟨by decide, by decide⟩
  · refine A_iload_n dX10_hope_7 rfl rfl ?_
    refine A_i2l dX10_hope_8 ?_
    refine A_lconst (v := 0) dX10_hope_9 (by decide) ?_
    refine A_lconst (v := 1) dX10_hope_10 (by decide) ?_
    refine A_callSi dX10_hope_11 m_X10_85 cb_X10_in (As := [_, _, _]) rfl (k_in G) rfl ⟨by decide, by decide⟩ (Nat.le_of_ble_eq_true rfl) ⟨by decide, by decide⟩ (fun x11 h11 hq => ?_)
    obtain ⟨rfl, rfl⟩ := hq
    refine A_eqI (inL_n 1 (by decide) (by decide)) ?_
    refine A_if_eq 32 dX10_hope_14 (by decide) (fun c14 => ?_) (fun c14 => ?_)
    · refine A_ldc2 dX10_hope_32 w_1607 ?_
      exact A_lret dX10_hope_35 ⟨by rw [hopeA, if_neg (fun z => t01_n c14 z.2)], ⟨_, _, rfl, KM.rf⟩⟩ ⟨by decide, by decide⟩
    · refine A_aload_n dX10_hope_17 rfl rfl ?_
      refine A_callVl dX10_hope_18 m_X10_363 cb_X10_hopeAbove (As := []) rfl HM_at0 rfl (k_hopeAbove G h OT.rf h.code) rfl ⟨by decide, by decide⟩ (Nat.le_of_ble_eq_true rfl) ⟨by decide, by decide⟩ (fun x18 h18 hq => ?_)
      obtain ⟨rfl, m1, rfl, hR⟩ := hq
      refine A_aload_n dX10_hope_21 rfl rfl ?_
      refine A_callVl dX10_hope_22 m_X10_367 cb_X10_hopeBelow (As := []) rfl HM_at0 rfl (k_hopeBelow G (hI.to hR.w)) rfl ⟨by decide, by decide⟩ (Nat.le_of_ble_eq_true rfl) ⟨by decide, by decide⟩ (fun x22 h22 hq => ?_)
      obtain ⟨rfl, rfl⟩ := hq
      refine A_iload_n dX10_hope_25 rfl rfl ?_
      obtain ⟨q, hq1, hq2, hq3⟩ := hb_N nf xf3
      refine A_callSl dX10_hope_26 m_X10_370 cb_X10_part (As := [_, _, _]) rfl (k_part G (hope_b h) hq1 hq2 hq3) rfl ⟨by decide, by decide⟩ (Nat.le_of_ble_eq_true rfl) ⟨by decide, by decide⟩ (fun x26 h26 hq => ?_)
      obtain ⟨rfl, rfl⟩ := hq
      refine A_goto 35 dX10_hope_29 (by decide) ?_
      exact A_lret dX10_hope_35 ⟨by rw [hopeA, if_pos ⟨(by by_cases z : 0 < c 6 5; exact z; exact absurd (if_neg z) c4), t01 c14⟩], _, _, rfl, hR.k, rfl⟩ ⟨by decide, by decide⟩

theorem wise_loop (G : GX) (X : XC) {b : Nat} {c m : CT} {ml : Nat → Nat → Int64} {r : Nat → Option AE} {n : Nat} {nv nc nf nl wk : Nat} {u1 u2 : Nat} (hu : u1 = 0 ∧ u2 = 0) (h : BL nv nc nf nl wk c m) : ∀ (k i : Nat) (m' : CT) (ml' : Nat → Nat → Int64), i + 1 + k = tot nv nf → EM m m' → ml' 19 = ml 19 → ml' 0 28 = hopeG c nv nf (wsF (fun k => hopeG c nv nf k) i) → WA X G RX10 cX10_wiseTakers false (some .int) (qI fun x9 h1 => x9 = nI (wiseK c nv nf) ∧ ∃ m1 ml1, h1 = HM b m1 ml1 r n ∧ KM m ml m1 ml1 ∧ ml1 0 28 = hopeG c nv nf (wiseK c nv nf)) 5 0 0 (HM b m' ml' r n) u1 u2 13 [some (.ref b), some (.int (nI (wsF (fun k => hopeG c nv nf k) i))), some (.int (nI (tot nv nf))), some (.int (nI (i + 1))), none, none] [] := by
  obtain ⟨rfl, rfl⟩ := hu
  have hb := h.nb
  have ht := tot_343 (nv := nv) (nf := nf) hb.1 hb.2.2.1
  intro k
  induction k with
  | zero =>
    intro i m' ml' hk E h19 h28
    have e9 : tot nv nf = i + 1 := by omega
    refine A_iload_n dX10_wiseTakers_13 rfl rfl ?_
    refine A_iload_n dX10_wiseTakers_14 rfl rfl ?_
    refine A_icmp_ge 61 dX10_wiseTakers_15 (by decide) (fun c15 => ?_) (fun c15 => ?_)
    · refine A_aload_n dX10_wiseTakers_61 rfl rfl ?_
      refine A_callVv dX10_wiseTakers_62 m_X10_348 cb_X10_bringsTakersBack (As := []) rfl HM_at0 rfl (k_bringsTakersBack G) rfl ⟨by decide, by decide⟩ (Nat.le_of_ble_eq_true rfl) ⟨by decide, by decide⟩ (fun h62 hq => ?_)
      obtain ⟨g, rfl, hg⟩ := hq
      refine A_iload_n dX10_wiseTakers_65 rfl rfl ?_
      exact A_iret dX10_wiseTakers_66 ⟨by rw [wiseK, e9, Nat.add_sub_cancel], _, _, rfl, ⟨E.back hg, h19⟩, by rw [wiseK, e9, Nat.add_sub_cancel]; exact h28⟩ ⟨by decide, by decide⟩
    · exact absurd (nI_le (show tot nv nf ≤ i + 1 by omega) (by omega)) c15
  | succ k ih =>
    intro i m' ml' hk E h19 h28
    have hi : i + 1 < tot nv nf := by omega
    have hw := wsF_le (h := (fun k => hopeG c nv nf k)) i
    have hs := wsF_s (h := (fun k => hopeG c nv nf k)) i
    refine A_iload_n dX10_wiseTakers_13 rfl rfl ?_
    refine A_iload_n dX10_wiseTakers_14 rfl rfl ?_
    refine A_icmp_ge 61 dX10_wiseTakers_15 (by decide) (fun c15 => ?_) (fun c15 => ?_)
    · exact absurd c15 (nI_ge (by omega) (by omega))
    · refine A_aload_n dX10_wiseTakers_18 rfl rfl ?_
      refine A_iload_n dX10_wiseTakers_19 rfl rfl ?_
      refine A_callVv dX10_wiseTakers_20 m_X10_342 cb_X10_takersAre (As := [_]) rfl HM_at0 rfl (k_takersAre G (E.im h.im) (by omega)) rfl ⟨by decide, by decide⟩ (Nat.le_of_ble_eq_true rfl) ⟨by decide, by decide⟩ (fun h20 hq => ?_)
      obtain rfl := hq
      refine A_aload_n dX10_wiseTakers_23 rfl rfl ?_
      refine A_callVl dX10_wiseTakers_24 m_X10_363 cb_X10_hopeAbove (As := []) rfl HM_at0 rfl (k_hopeAbove G (ml := ml') h (EM.O (E.tk hb.2.2.1)) tk_code) rfl ⟨by decide, by decide⟩ (Nat.le_of_ble_eq_true rfl) ⟨by decide, by decide⟩ (fun x24 h24 hq => ?_)
      obtain ⟨rfl, m1, rfl, hR⟩ := hq
      have E2 := sameR.E (E.tk (nv := nv) (nf := nf) (k := i + 1) hb.2.2.1) hR
      refine A_lstore (lv1 := [_, _, _, _, _, _]) dX10_wiseTakers_27 (Nat.le_of_ble_eq_true rfl) rfl rfl ?_
      refine A_iload_n dX10_wiseTakers_29 rfl rfl ?_
      refine A_iconst (v := (-1)) dX10_wiseTakers_30 (by decide) ?_
      refine A_icmp_eq 47 dX10_wiseTakers_31 (by decide) (fun c31 => ?_) (fun c31 => ?_)
      · exact absurd c31 (fun z => by have e := congrArg Int32.toInt z; rw [nI_toInt (by omega)] at e; have : (-1 : Int32).toInt = -1 := rfl; omega)
      · refine A_lload dX10_wiseTakers_34 rfl ?_
        refine A_aload_n dX10_wiseTakers_36 rfl rfl ?_
        refine A_get dX10_wiseTakers_37 f_X10_376 HM_at0 rfl ?_
        refine A_eqL h28 ?_
        refine A_lcmp dX10_wiseTakers_40 ?_
        refine A_if_gt 47 dX10_wiseTakers_41 (by decide) (fun c41 => ?_) (fun c41 => ?_)
        · have g9 := hs.2 (fun z => by rw [lg_cmp_gt] at c41; rw [Int64.lt_iff_toInt_lt] at c41; rw [Int64.le_iff_toInt_le] at z; exact absurd c41 (by show ¬ _; omega))
          refine A_iload_n dX10_wiseTakers_47 rfl rfl ?_
          refine A_istore_n (lv1 := [_, _, _, _, _, _]) dX10_wiseTakers_48 rfl (Nat.le_of_ble_eq_true rfl) rfl rfl ?_
          refine A_aload_n dX10_wiseTakers_49 rfl rfl ?_
          refine A_lload dX10_wiseTakers_50 rfl ?_
          refine A_putM0L dX10_wiseTakers_52 p_X10_376 rfl (Nat.le_of_ble_eq_true rfl) rfl ?_
          refine A_inc 1 (lv1 := [_, _, _, _, _, _]) dX10_wiseTakers_55 rfl (by decide) rfl rfl ?_
          refine A_goto 13 dX10_wiseTakers_58 (by decide) ?_
          refine A_fg 4 (lv1 := [_, _, _, _, _, _]) rfl ?_
          refine A_fg 5 (lv1 := [_, _, _, _, _, _]) rfl ?_
          rw [nI_1]
          rw [show nI (i + 1) = nI (wsF (fun k => hopeG c nv nf k) (i + 1)) by rw [g9]]
          exact ih (i + 1) m1 _ (by omega) E2 ((put_ne (by decide)).trans h19) (by rw [put_at, g9])
        · have g9 := hs.1 (by rw [lg_cmp_gt] at c41; rw [Int64.lt_iff_toInt_lt] at c41; rw [Int64.le_iff_toInt_le]; exact Int.not_lt.mp c41)
          refine A_goto 55 dX10_wiseTakers_44 (by decide) ?_
          refine A_inc 1 (lv1 := [_, _, _, _, _, _]) dX10_wiseTakers_55 rfl (by decide) rfl rfl ?_
          refine A_goto 13 dX10_wiseTakers_58 (by decide) ?_
          refine A_fg 4 (lv1 := [_, _, _, _, _, _]) rfl ?_
          refine A_fg 5 (lv1 := [_, _, _, _, _, _]) rfl ?_
          rw [nI_1]
          rw [← g9]
          exact ih (i + 1) m1 ml' (by omega) E2 h19 (by rw [g9]; exact h28)

theorem k_wiseTakers (G : GX) {b : Nat} {c m : CT} {ml : Nat → Nat → Int64} {r : Nat → Option AE} {n : Nat} {nv nc nf nl wk : Nat} (h : BL nv nc nf nl wk c m) : MA G 5 yX10_wiseTakers cX10_wiseTakers 6 (some .int) 0 0 [.ref b] (HM b m ml r n) (qI fun x9 h1 => x9 = nI (wiseK c nv nf) ∧ ∃ m1 ml1, h1 = HM b m1 ml1 r n ∧ KM m ml m1 ml1 ∧ ml1 0 28 = hopeG c nv nf (wiseK c nv nf)) := by
  refine MA.of (own := RX10) false [some (.ref b), none, none, none, none, none] (by decide +kernel) rfl (fun h => by cases h) (Nat.le_of_ble_eq_true rfl) rfl (fun X => ?_)
  have hX := h.ix
  obtain ⟨xv, xv6, xc, xc8, xf, xf3, xl, xl8, xw, xw30, xC, xL⟩ := id hX
  have hI := h.im
  obtain ⟨hv, hv6, hc, hc8, hf, hf3, hl, hl8, hw, hw30, gC, gL⟩ := id hI
  have hT := h.tm
  have hb := h.nb
  have ht := tot_343 (nv := nv) (nf := nf) hb.1 hb.2.2.1
  refine A_aload_n dX10_wiseTakers_0 rfl rfl ?_
  refine A_callVv dX10_wiseTakers_1 m_X10_333 cb_X10_keepsTakers (As := []) rfl HM_at0 rfl (k_keepsTakers G) rfl ⟨by decide, by decide⟩ (Nat.le_of_ble_eq_true rfl) ⟨by decide, by decide⟩ (fun h1 hq => ?_)
  obtain ⟨g, rfl, hg⟩ := hq
  have E := EM.mk hg
  obtain ⟨m', em⟩ : ∃ m', st1 m 12 g = m' := ⟨_, rfl⟩
  rw [em] at E ⊢
  refine A_iconst (v := (-1)) dX10_wiseTakers_4 (by decide) ?_
  refine A_istore_n (lv1 := [_, _, _, _, _, _]) dX10_wiseTakers_5 rfl (Nat.le_of_ble_eq_true rfl) rfl rfl ?_
  refine A_aload_n dX10_wiseTakers_6 rfl rfl ?_
  refine A_callVi dX10_wiseTakers_7 m_X10_339 cb_X10_takersMany (As := []) rfl HM_at0 rfl (k_takersMany G (E.im hI)) rfl ⟨by decide, by decide⟩ (Nat.le_of_ble_eq_true rfl) ⟨by decide, by decide⟩ (fun x7 h7 hq => ?_)
  obtain ⟨rfl, rfl⟩ := hq
  refine A_istore_n (lv1 := [_, _, _, _, _, _]) dX10_wiseTakers_10 rfl (Nat.le_of_ble_eq_true rfl) rfl rfl ?_
  refine A_iconst (v := 0) dX10_wiseTakers_11 (by decide) ?_
  refine A_istore_n (lv1 := [_, _, _, _, _, _]) dX10_wiseTakers_12 rfl (Nat.le_of_ble_eq_true rfl) rfl rfl ?_
  refine A_iload_n dX10_wiseTakers_13 rfl rfl ?_
  refine A_iload_n dX10_wiseTakers_14 rfl rfl ?_
  refine A_icmp_ge 61 dX10_wiseTakers_15 (by decide) (fun c15 => ?_) (fun c15 => ?_)
  · exact absurd c15 (nI_ge (a := 0) tot_pos (by omega))
  · refine A_aload_n dX10_wiseTakers_18 rfl rfl ?_
    refine A_iload_n dX10_wiseTakers_19 rfl rfl ?_
    refine A_callVv dX10_wiseTakers_20 m_X10_342 cb_X10_takersAre (As := [_]) rfl HM_at0 rfl (k_takersAre G (kk := 0) (E.im h.im) (by omega)) rfl ⟨by decide, by decide⟩ (Nat.le_of_ble_eq_true rfl) ⟨by decide, by decide⟩ (fun h20 hq => ?_)
    obtain rfl := hq
    refine A_aload_n dX10_wiseTakers_23 rfl rfl ?_
    refine A_callVl dX10_wiseTakers_24 m_X10_363 cb_X10_hopeAbove (As := []) rfl HM_at0 rfl (k_hopeAbove G (ml := ml) h (EM.O (E.tk hb.2.2.1)) tk_code) rfl ⟨by decide, by decide⟩ (Nat.le_of_ble_eq_true rfl) ⟨by decide, by decide⟩ (fun x24 h24 hq => ?_)
    obtain ⟨rfl, m1, rfl, hR⟩ := hq
    have E2 := sameR.E (E.tk (nv := nv) (nf := nf) (k := 0) hb.2.2.1) hR
    refine A_lstore (lv1 := [_, _, _, _, _, _]) dX10_wiseTakers_27 (Nat.le_of_ble_eq_true rfl) rfl rfl ?_
    refine A_iload_n dX10_wiseTakers_29 rfl rfl ?_
    refine A_iconst (v := (-1)) dX10_wiseTakers_30 (by decide) ?_
    refine A_icmp_eq 47 dX10_wiseTakers_31 (by decide) (fun c31 => ?_) (fun c31 => ?_)
    · refine A_iload_n dX10_wiseTakers_47 rfl rfl ?_
      refine A_istore_n (lv1 := [_, _, _, _, _, _]) dX10_wiseTakers_48 rfl (Nat.le_of_ble_eq_true rfl) rfl rfl ?_
      refine A_aload_n dX10_wiseTakers_49 rfl rfl ?_
      refine A_lload dX10_wiseTakers_50 rfl ?_
      refine A_putM0L dX10_wiseTakers_52 p_X10_376 rfl (Nat.le_of_ble_eq_true rfl) rfl ?_
      refine A_inc 1 (lv1 := [_, _, _, _, _, _]) dX10_wiseTakers_55 rfl (by decide) rfl rfl ?_
      refine A_goto 13 dX10_wiseTakers_58 (by decide) ?_
      refine A_fg 4 (lv1 := [_, _, _, _, _, _]) rfl ?_
      refine A_fg 5 (lv1 := [_, _, _, _, _, _]) rfl ?_
      exact wise_loop G X ⟨rfl, rfl⟩ h (tot nv nf - 1) 0 m1 _ (by have := tot_pos (nv := nv) (nf := nf); omega) E2 (put_ne (by decide)) (by rw [put_at]; rfl)
    · exact absurd rfl c31

theorem k_wise (G : GX) {b : Nat} {c m : CT} {ml : Nat → Nat → Int64} {r : Nat → Option AE} {n : Nat} {nv nc nf nl wk : Nat} {v : Int32} (h : BL nv nc nf nl wk c m) : MA G 6 yX10_wise cX10_wise 2 (some .int) 0 0 [.ref b, .int v] (HM b m ml r n) (qI fun x9 h1 => x9 = wiseA c nv nf v ∧ ∃ m1 ml1, h1 = HM b m1 ml1 r n ∧ KM m ml m1 ml1) := by
  refine MA.of (own := RX10) false [some (.ref b), some (.int v)] (by decide +kernel) rfl (fun h => by cases h) (Nat.le_of_ble_eq_true rfl) rfl (fun X => ?_)
  have hX := h.ix
  obtain ⟨xv, xv6, xc, xc8, xf, xf3, xl, xl8, xw, xw30, xC, xL⟩ := id hX
  have hI := h.im
  obtain ⟨hv, hv6, hc, hc8, hf, hf3, hl, hl8, hw, hw30, gC, gL⟩ := id hI
  have hT := h.tm
  refine A_aload_n dX10_wise_0 rfl rfl ?_
  refine A_iload_n dX10_wise_1 rfl rfl ?_
  refine A_callVi dX10_wise_2 m_X10_311 cb_X10_isFlood (As := [_]) rfl HM_at0 rfl (k_isFlood G hf (by omega)) rfl ⟨by decide, by decide⟩ (Nat.le_of_ble_eq_true rfl) ⟨by decide, by decide⟩ (fun x2 h2 hq => ?_)
  obtain ⟨rfl, rfl⟩ := hq
  refine A_if_eq 20 dX10_wise_5 (by decide) (fun c5 => ?_) (fun c5 => ?_)
  · refine A_bipush (v := (-2)) dX10_wise_20 (by decide) ?_
    exact A_iret dX10_wise_22 ⟨by rw [wiseA, xf, if_pos c5], ⟨_, _, rfl, KM.rf⟩⟩ ⟨by decide, by decide⟩
  · obtain ⟨j, hj, rfl⟩ := inI_of rfl c5 (by omega)
    have ht := tot_343 (nv := nv) (nf := nf) xv6 xf3
    have hwl := wiseK_lt (c := c) (nv := nv) (nf := nf)
    refine A_aload_n dX10_wise_8 rfl rfl ?_
    refine A_aload_n dX10_wise_9 rfl rfl ?_
    refine A_callVi dX10_wise_10 m_X10_380 cb_X10_wiseTakers (As := []) rfl HM_at0 rfl (k_wiseTakers G h) rfl ⟨by decide, by decide⟩ (Nat.le_of_ble_eq_true rfl) ⟨by decide, by decide⟩ (fun x10 h10 hq => ?_)
    obtain ⟨rfl, m1, ml1, rfl, hk1, hb1⟩ := hq
    refine A_iload_n dX10_wise_13 rfl rfl ?_
    refine A_callVi dX10_wise_14 m_X10_354 cb_X10_takerIn (As := [_, _]) rfl HM_at0 rfl (k_takerIn G (hI.to (hk1.1.1 1 (by decide) (by decide))) (by omega) hj) rfl ⟨by decide, by decide⟩ (Nat.le_of_ble_eq_true rfl) ⟨by decide, by decide⟩ (fun x14 h14 hq => ?_)
    obtain ⟨rfl, rfl⟩ := hq
    refine A_goto 22 dX10_wise_17 (by decide) ?_
    exact A_iret dX10_wise_22 ⟨by rw [wiseA, xf, if_neg c5, tcl_nI (by omega)], _, _, rfl, hk1⟩ ⟨by decide, by decide⟩

theorem k_wisest (G : GX) {b : Nat} {c m : CT} {ml : Nat → Nat → Int64} {r : Nat → Option AE} {n : Nat} {nv nc nf nl wk : Nat} {t : Int32} (h : BL nv nc nf nl wk c m) : MA G 6 yX10_wisest cX10_wisest 2 (some .long) 0 0 [.ref b, .int t] (HM b m ml r n) (qL fun x9 h1 => x9 = wisestA c nv nf t ∧ ∃ m1 ml1, h1 = HM b m1 ml1 r n ∧ KM m ml m1 ml1) := by
  refine MA.of (own := RX10) false [some (.ref b), some (.int t)] (by decide +kernel) rfl (fun h => by cases h) (Nat.le_of_ble_eq_true rfl) rfl (fun X => ?_)
  have hX := h.ix
  obtain ⟨xv, xv6, xc, xc8, xf, xf3, xl, xl8, xw, xw30, xC, xL⟩ := id hX
  have hI := h.im
  obtain ⟨hv, hv6, hc, hc8, hf, hf3, hl, hl8, hw, hw30, gC, gL⟩ := id hI
  have hT := h.tm
  refine A_aload_n dX10_wisest_0 rfl rfl ?_
  refine A_callVi dX10_wisest_1 m_X10_322 cb_X10_isPlain (As := []) rfl HM_at0 rfl (k_isPlain G) rfl ⟨by decide, by decide⟩ (Nat.le_of_ble_eq_true rfl) ⟨by decide, by decide⟩ (fun x1 h1 hq => ?_)
  obtain ⟨rfl, rfl⟩ := hq
  refine A_eqI (pl_i h) ?_
  refine A_if_eq 17 dX10_wisest_4 (by decide) (fun c4 => ?_) (fun c4 => ?_)
  · refine A_ldc2 dX10_wisest_17 w_1607 ?_
    exact A_lret dX10_wisest_20 ⟨by rw [wisestA, if_neg (fun z => (fun z => by rw [if_pos z] at c4; exact absurd c4 (by decide)) z.1)], ⟨_, _, rfl, KM.rf⟩⟩ ⟨by decide, by decide⟩
  · refine A_iload_n dX10_wisest_7 rfl rfl ?_
    refine A_i2l dX10_wisest_8 ?_
    refine A_lconst (v := 0) dX10_wisest_9 (by decide) ?_
    refine A_lconst (v := 1) dX10_wisest_10 (by decide) ?_
    refine A_callSi dX10_wisest_11 m_X10_85 cb_X10_in (As := [_, _, _]) rfl (k_in G) rfl ⟨by decide, by decide⟩ (Nat.le_of_ble_eq_true rfl) ⟨by decide, by decide⟩ (fun x11 h11 hq => ?_)
    obtain ⟨rfl, rfl⟩ := hq
    refine A_eqI (inL_n 1 (by decide) (by decide)) ?_
    refine A_if_ne 21 dX10_wisest_14 (by decide) (fun c14 => ?_) (fun c14 => ?_)
    · refine A_aload_n dX10_wisest_21 rfl rfl ?_
      refine A_callVi dX10_wisest_22 m_X10_380 cb_X10_wiseTakers (As := []) rfl HM_at0 rfl (k_wiseTakers G h) rfl ⟨by decide, by decide⟩ (Nat.le_of_ble_eq_true rfl) ⟨by decide, by decide⟩ (fun x22 h22 hq => ?_)
      obtain ⟨rfl, m1, ml1, rfl, hk1, hb1⟩ := hq
      refine A_pop dX10_wisest_25 rfl ?_
      refine A_aload_n dX10_wisest_26 rfl rfl ?_
      refine A_get dX10_wisest_27 f_X10_376 HM_at0 rfl ?_
      refine A_eqL hb1 ?_
      refine A_aload_n dX10_wisest_30 rfl rfl ?_
      refine A_callVl dX10_wisest_31 m_X10_367 cb_X10_hopeBelow (As := []) rfl HM_at0 rfl (k_hopeBelow G (hI.to (hk1.1.1 1 (by decide) (by decide)))) rfl ⟨by decide, by decide⟩ (Nat.le_of_ble_eq_true rfl) ⟨by decide, by decide⟩ (fun x31 h31 hq => ?_)
      obtain ⟨rfl, rfl⟩ := hq
      refine A_iload_n dX10_wisest_34 rfl rfl ?_
      obtain ⟨q, hq1, hq2, hq3⟩ := hb_N nf xf3
      refine A_callSl dX10_wisest_35 m_X10_370 cb_X10_part (As := [_, _, _]) rfl (k_part G (hope_b h) hq1 hq2 hq3) rfl ⟨by decide, by decide⟩ (Nat.le_of_ble_eq_true rfl) ⟨by decide, by decide⟩ (fun x35 h35 hq => ?_)
      obtain ⟨rfl, rfl⟩ := hq
      exact A_lret dX10_wisest_38 ⟨by rw [wisestA, if_pos ⟨(by by_cases z : 0 < c 6 5; exact z; exact absurd (if_neg z) c4), t01 c14⟩], _, _, rfl, hk1⟩ ⟨by decide, by decide⟩
    · refine A_ldc2 dX10_wisest_17 w_1607 ?_
      exact A_lret dX10_wisest_20 ⟨by rw [wisestA, if_neg (fun z => t01_n c14 z.2)], ⟨_, _, rfl, KM.rf⟩⟩ ⟨by decide, by decide⟩
