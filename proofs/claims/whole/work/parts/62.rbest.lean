/-! THE REFERENCE goes through all TAKERS -/
def EM (m m' : CT) : Prop := (∀ j, j < 157 ∨ 160 ≤ j → m' 1 j = m 1 j) ∧ (∀ j, j < 3 → m' 12 j = m 1 (157 + j)) ∧ (∀ l, l = 2 ∨ l = 3 ∨ l = 4 ∨ 17 ≤ l → m' l = m l) ∧ ∀ j, j = 5 ∨ j = 12 ∨ j = 13 ∨ j = 25 → m' 0 j = m 0 j
theorem EM.mk {m : CT} {g : Nat → Int32} (hg : ∀ j, g j = if j < 3 then m 1 (157 + j) else m 12 j) : EM m (st1 m 12 g) := by
  refine ⟨fun j _ => by rw [st1_ne (by decide)], fun j hj => by rw [st1_eq, hg j, if_pos hj], fun l hl => st1_ne (by omega), fun j _ => by rw [st1_ne (by decide)]⟩
theorem EM.run {m m' : CT} {fl : Nat} (h : EM m m') : EM m (runM fl m') := by
  have k := runM_k (fl := fl) (m := m')
  have s : sameM (begM fl m') (runM fl m') := forR_s (fun _ _ => weekM_s)
  have e12 : runM fl m' 12 = m' 12 := (s.1 12 (by decide) (by decide)).trans (by unfold begM; simp (decide := true) only [put_ne, st1_ne])
  refine ⟨fun j hj => by rw [k.1 1 (by decide) (by decide)]; exact h.1 j hj, fun j hj => by rw [e12]; exact h.2.1 j hj, fun l hl => (k.1 l (by omega) (by omega)).trans (h.2.2.1 l hl), fun j hj => (k.2 j hj).trans (h.2.2.2 j hj)⟩
theorem EM.tk {m m' : CT} {nv nf k : Nat} (h : EM m m') (hf : nf ≤ 3) : EM m (st1 m' 1 (tkW m' nv nf k)) := by
  refine ⟨fun j hj => ?_, fun j hj => by rw [st1_ne (by decide)]; exact h.2.1 j hj, fun l hl => (st1_ne (by omega)).trans (h.2.2.1 l hl), fun j hj => by rw [st1_ne (by decide)]; exact h.2.2.2 j hj⟩
  rw [st1_eq, tkW, if_neg (by omega)]
  exact h.1 j hj
theorem EM.p0 {m m' : CT} {i : Nat} {v : Int32} (h : EM m m') (hi : ¬ (i = 5 ∨ i = 12 ∨ i = 13 ∨ i = 25)) : EM m (put m' 0 i v) := by
  refine ⟨fun j hj => by rw [put_ne (by decide)]; exact h.1 j hj, fun j hj => by rw [put_ne (by decide)]; exact h.2.1 j hj, fun l hl => (put_ne (by omega)).trans (h.2.2.1 l hl), fun j hj => by rw [put_no (show j ≠ i by omega)]; exact h.2.2.2 j hj⟩
theorem EM.back {m m' : CT} {g : Nat → Int32} (h : EM m m') (hg : ∀ j, g j = if 157 ≤ j ∧ j < 157 + 3 then m' 12 (j - 157) else m' 1 j) : kM m (st1 m' 1 g) := by
  have e : g = m 1 := by
    funext j
    rw [hg j]
    by_cases z : 157 ≤ j ∧ j < 157 + 3
    · rw [if_pos z, h.2.1 _ (by omega), show 157 + (j - 157) = j by omega]
    · rw [if_neg z, h.1 j (by omega)]
  refine ⟨fun l x y => ?_, fun j hj => by rw [st1_ne (by decide)]; exact h.2.2.2 j hj⟩
  by_cases z : l = 1
  · subst z; rw [st1_eq, e]
  · rw [st1_ne z]; exact h.2.2.1 l (by omega)
theorem EM.im {m m' : CT} {nv nc nf nl wk : Nat} (h : EM m m') (hI : IM m nv nc nf nl wk) : IM m' nv nc nf nl wk := by
  obtain ⟨hv, hv6, hc, hc8, hf, hf3, hl, hl8, hw, hw30, gC, gL⟩ := hI
  unfold IM
  have e := fun j (hj : j < 157) => h.1 j (Or.inl hj)
  refine ⟨(e _ (by decide)).trans hv, hv6, (e _ (by decide)).trans hc, hc8, (e _ (by decide)).trans hf, hf3, (e _ (by decide)).trans hl, hl8, (e _ (by decide)).trans hw, hw30, fun i hi => ?_, fun i hi => ?_⟩
  · rw [e _ (by omega)]; exact gC i hi
  · rw [e _ (by omega), e _ (by omega)]; exact gL i hi
theorem tk_tn {m : CT} {nv nf k i : Nat} (hi : i < nf) : (st1 m 1 (tkW m nv nf k)) 1 (157 + i) = nI (tkc nv nf k i) - 1 := by
  rw [st1_eq, tkW, if_pos (by omega), Nat.add_sub_cancel_left]
theorem tk_TM {m : CT} {nv nf k : Nat} (hv : nv ≤ 6) : TM (st1 m 1 (tkW m nv nf k)) nv nf := by
  intro i hi z
  rw [tk_tn hi] at z ⊢
  have h1 := tkc_le (nv := nv) (nf := nf) (k := k) (f := i)
  have hp : 0 < tkc nv nf k i := by
    refine Nat.pos_of_ne_zero (fun h0 => ?_)
    rw [h0] at z
    exact z (by decide)
  rw [nI_sub1 hp]
  exact vp_in_nI (by omega) (by omega)
theorem tk_sim {nv nc nf nl wk k : Nat} {c m m' : CT} (h : BL nv nc nf nl wk c m) (E : EM m m') : SimY nv nc nf nl 7 wk (runF (leadF c k)) (runM 7 (st1 m' 1 (tkW m' nv nf k))) ∧ DY nv nc nf nl wk wk (runF (leadF c k)) := by
  have hb := h.nb
  have E2 := E.tk (nv := nv) (nf := nf) (k := k) hb.2.2.1
  refine lead_sim h ⟨fun j hj => E2.1 j (Or.inl hj), E2.2.2.2 25 (by decide)⟩ (fun i hi => ?_)
  have e : (7 : Nat).testBit i = true := by
    have h3 : i < 3 := by omega
    match i, h3 with
    | 0, _ => decide
    | 1, _ => decide
    | 2, _ => decide
  rw [leadT_x h.ix, if_pos hi, tnM, if_pos e, tk_tn hi]
/-- BROUGHT by the best so far -/
def bbF (B S : Nat → Int32) (k : Nat) : Int32 := if bestF B S k = -1 then -1 else B (tcl (bestF B S k))
theorem bb_step {B S : Nat → Int32} {k : Nat} (hB : 0 ≤ (B k).toInt) (hk : k < 2 ^ 31) : (S k = 0 → B k ≤ bbF B S k → bestF B S (k + 1) = bestF B S k ∧ bbF B S (k + 1) = bbF B S k) ∧ (S k = 0 → ¬ B k ≤ bbF B S k → bestF B S (k + 1) = nI k ∧ bbF B S (k + 1) = B k) ∧ (¬ S k = 0 → bestF B S (k + 1) = bestF B S k ∧ bbF B S (k + 1) = bbF B S k) := by
  have n1 : ¬ nI k = -1 := fun z => by
    have e := congrArg Int32.toInt z
    rw [nI_toInt hk] at e
    have : (-1 : Int32).toInt = -1 := rfl
    omega
  refine ⟨fun h1 h2 => ?_, fun h1 h2 => ?_, fun h1 => ?_⟩
  · have e : bestF B S (k + 1) = bestF B S k := by
      rw [bestF, if_pos h1]
      by_cases z : bestF B S k = -1
      · exfalso
        rw [bbF, if_pos z, Int32.le_iff_toInt_le] at h2
        have : (-1 : Int32).toInt = -1 := rfl
        omega
      · rw [if_neg z]
        rw [bbF, if_neg z, Int32.le_iff_toInt_le] at h2
        rw [if_neg (by rw [Int32.lt_iff_toInt_lt]; omega)]
    exact ⟨e, by rw [bbF, bbF, e]⟩
  · have e : bestF B S (k + 1) = nI k := by
      rw [bestF, if_pos h1]
      by_cases z : bestF B S k = -1
      · rw [if_pos z]
      · rw [if_neg z]
        rw [bbF, if_neg z, Int32.le_iff_toInt_le] at h2
        rw [if_pos (by rw [Int32.lt_iff_toInt_lt]; omega)]
    exact ⟨e, by rw [bbF, e, if_neg n1, tcl_nI hk]⟩
  · have e : bestF B S (k + 1) = bestF B S k := by rw [bestF, if_neg h1]
    exact ⟨e, by rw [bbF, bbF, e]⟩
theorem pos0 {x : Int32} (h : 0 ≤ x.toInt) : (0 < x ↔ ¬ x = 0) := by
  rw [Int32.lt_iff_toInt_lt, eqT0, T0]; omega
theorem best_loop (G : GX) (X : XC) {b : Nat} {c m : CT} {ml : Nat → Nat → Int64} {r : Nat → Option AE} {n : Nat} {nv nc nf nl wk : Nat} {u1 u2 : Nat} (hu : u1 = 0 ∧ u2 = 0) (h : BL nv nc nf nl wk c m) : ∀ (k i : Nat) (m' : CT), i + k = tot nv nf → EM m m' → m' 0 27 = bbF (BR c) (SH c) i → WA X G RX10 cX10_bestTakers false (some .int) (qI fun x9 h1 => x9 = bestK c nv nf ∧ ∃ m1, h1 = HM b m1 ml r n ∧ kM m m1 ∧ m1 0 27 = bbF (BR c) (SH c) (tot nv nf)) 5 0 0 (HM b m' ml r n) u1 u2 18 [some (.ref b), some (.int (bestF (BR c) (SH c) i)), some (.int (nI (tot nv nf))), some (.int (nI i))] [] := by
  obtain ⟨rfl, rfl⟩ := hu
  have hX := h.ix
  have hb := h.nb
  have ht := tot_343 (nv := nv) (nf := nf) hb.1 hb.2.2.1
  intro k
  induction k with
  | zero =>
    intro i m' hk E hbb
    have e9 : i = tot nv nf := by omega
    subst e9
    refine A_iload_n dX10_bestTakers_18 rfl rfl ?_
    refine A_iload_n dX10_bestTakers_19 rfl rfl ?_
    refine A_icmp_ge 69 dX10_bestTakers_20 (by decide) (fun c20 => ?_) (fun c20 => ?_)
    · refine A_aload_n dX10_bestTakers_69 rfl rfl ?_
      refine A_callVv dX10_bestTakers_70 m_X10_348 cb_X10_bringsTakersBack (As := []) rfl HM_at0 rfl (k_bringsTakersBack G) rfl ⟨by decide, by decide⟩ (Nat.le_of_ble_eq_true rfl) ⟨by decide, by decide⟩ (fun h70 hq => ?_)
      obtain ⟨g, rfl, hg⟩ := hq
      refine A_iload_n dX10_bestTakers_73 rfl rfl ?_
      exact A_iret dX10_bestTakers_74 ⟨rfl, _, rfl, E.back hg, by rw [st1_ne (by decide)]; exact hbb⟩ ⟨by decide, by decide⟩
    · exact absurd (nI_le (Nat.le_refl _) (by omega)) c20
  | succ k ih =>
    intro i m' hk E hbb
    have hi : i < tot nv nf := by omega
    obtain ⟨S, D⟩ := tk_sim (k := i) h E
    have E2 := (E.tk (nv := nv) (nf := nf) (k := i) hb.2.2.1).run (fl := 7)
    have hM2 := E2.im h.im
    have e1 := br_sim ⟨S, D⟩ hb
    have e2 := sh_sim ⟨S, D⟩ hb
    have p1 : 0 ≤ (BR c i).toInt := br_pos D hb
    have p2 : 0 ≤ (SH c i).toInt := sh_pos ⟨S, D⟩ hb
    have hbs := bb_step (S := SH c) (k := i) p1 (by omega)
    have hb2 : runM 7 (st1 m' 1 (tkW m' nv nf i)) 0 27 = bbF (BR c) (SH c) i := by
      have s : sameM (begM 7 (st1 m' 1 (tkW m' nv nf i))) (runM 7 (st1 m' 1 (tkW m' nv nf i))) := forR_s (fun _ _ => weekM_s)
      rw [s.2 27 (by decide)]
      unfold begM
      rw [put_no (by decide), put_no (by decide), put_no (by decide), put_no (by decide), st1_ne (by decide), st1_ne (by decide), st1_ne (by decide), st1_ne (by decide), put_no (by decide), st1_ne (by decide)]
      exact hbb
    refine A_iload_n dX10_bestTakers_18 rfl rfl ?_
    refine A_iload_n dX10_bestTakers_19 rfl rfl ?_
    refine A_icmp_ge 69 dX10_bestTakers_20 (by decide) (fun c20 => ?_) (fun c20 => ?_)
    · exact absurd c20 (nI_ge (by omega) (by omega))
    · refine A_aload_n dX10_bestTakers_23 rfl rfl ?_
      refine A_iload_n dX10_bestTakers_24 rfl rfl ?_
      refine A_callVv dX10_bestTakers_25 m_X10_342 cb_X10_takersAre (As := [_]) rfl HM_at0 rfl (k_takersAre G (E.im h.im) (by omega)) rfl ⟨by decide, by decide⟩ (Nat.le_of_ble_eq_true rfl) ⟨by decide, by decide⟩ (fun h25 hq => ?_)
      obtain rfl := hq
      refine A_aload_n dX10_bestTakers_28 rfl rfl ?_
      refine A_callVv dX10_bestTakers_29 m_X10_317 cb_X10_year (As := []) rfl HM_at0 rfl (k_year G ((E.tk hb.2.2.1).im h.im) (tk_TM hb.1)) rfl ⟨by decide, by decide⟩ (Nat.le_of_ble_eq_true rfl) ⟨by decide, by decide⟩ (fun h29 hq => ?_)
      obtain rfl := hq
      obtain ⟨y, ey⟩ : ∃ y, runM 7 (st1 m' 1 (tkW m' nv nf i)) = y := ⟨_, rfl⟩
      rw [ey] at S E2 hM2 e1 e2 hb2 ⊢
      refine A_aload_n dX10_bestTakers_32 rfl rfl ?_
      refine A_callVi dX10_bestTakers_33 m_X10_345 cb_X10_shortOfAll (As := []) rfl HM_at0 rfl (k_shortOfAll G hM2) rfl ⟨by decide, by decide⟩ (Nat.le_of_ble_eq_true rfl) ⟨by decide, by decide⟩ (fun x33 h33 hq => ?_)
      obtain ⟨rfl, rfl⟩ := hq
      refine A_eqI (y := SH c i) e2 ?_
      refine A_if_gt 63 dX10_bestTakers_36 (by decide) (fun c36 => ?_) (fun c36 => ?_)
      · refine A_inc 1 (lv1 := [_, _, _, _]) dX10_bestTakers_63 rfl (by decide) rfl rfl ?_
        refine A_goto 18 dX10_bestTakers_66 (by decide) ?_
        rw [nI_1]
        have e0 : ¬ SH c i = 0 := (pos0 p2).mp c36
        rw [← (hbs.2.2 e0).1]
        exact ih (i + 1) _ (by omega) E2 (hb2.trans (hbs.2.2 e0).2.symm)
      · refine A_aload_n dX10_bestTakers_39 rfl rfl ?_
        refine A_callVi dX10_bestTakers_40 m_X10_327 cb_X10_brought (As := []) rfl HM_at0 rfl (k_brought G hM2) rfl ⟨by decide, by decide⟩ (Nat.le_of_ble_eq_true rfl) ⟨by decide, by decide⟩ (fun x40 h40 hq => ?_)
        obtain ⟨rfl, rfl⟩ := hq
        refine A_eqI (y := BR c i) e1 ?_
        refine A_aload_n dX10_bestTakers_43 rfl rfl ?_
        refine A_get dX10_bestTakers_44 f_X10_336 HM_at0 rfl ?_
        refine A_eqI hb2 ?_
        refine A_icmp_gt 53 dX10_bestTakers_47 (by decide) (fun c47 => ?_) (fun c47 => ?_)
        · refine A_iload_n dX10_bestTakers_53 rfl rfl ?_
          refine A_istore_n (lv1 := [_, _, _, _]) dX10_bestTakers_54 rfl (Nat.le_of_ble_eq_true rfl) rfl rfl ?_
          refine A_aload_n dX10_bestTakers_55 rfl rfl ?_
          refine A_aload_n dX10_bestTakers_56 rfl rfl ?_
          refine A_callVi dX10_bestTakers_57 m_X10_327 cb_X10_brought (As := []) rfl HM_at0 rfl (k_brought G hM2) rfl ⟨by decide, by decide⟩ (Nat.le_of_ble_eq_true rfl) ⟨by decide, by decide⟩ (fun x57 h57 hq => ?_)
          obtain ⟨rfl, rfl⟩ := hq
          refine A_eqI (y := BR c i) e1 ?_
          refine A_putM0 dX10_bestTakers_60 p_X10_336 rfl (Nat.le_of_ble_eq_true rfl) rfl ?_
          refine A_inc 1 (lv1 := [_, _, _, _]) dX10_bestTakers_63 rfl (by decide) rfl rfl ?_
          refine A_goto 18 dX10_bestTakers_66 (by decide) ?_
          rw [nI_1]
          have e0 : SH c i = 0 := by by_cases z : SH c i = 0; exact z; exact absurd ((pos0 p2).mpr z) c36
          rw [← (hbs.2.1 e0 (Int32.not_le.mpr c47)).1]
          exact ih (i + 1) _ (by omega) (E2.p0 (by decide)) (by rw [put_at]; exact (hbs.2.1 e0 (Int32.not_le.mpr c47)).2.symm)
        · refine A_goto 63 dX10_bestTakers_50 (by decide) ?_
          refine A_inc 1 (lv1 := [_, _, _, _]) dX10_bestTakers_63 rfl (by decide) rfl rfl ?_
          refine A_goto 18 dX10_bestTakers_66 (by decide) ?_
          rw [nI_1]
          have e0 : SH c i = 0 := by by_cases z : SH c i = 0; exact z; exact absurd ((pos0 p2).mpr z) c36
          rw [← (hbs.1 e0 (Int32.not_lt.mp c47)).1]
          exact ih (i + 1) _ (by omega) E2 (hb2.trans (hbs.1 e0 (Int32.not_lt.mp c47)).2.symm)

theorem k_bestTakers (G : GX) {b : Nat} {c m : CT} {ml : Nat → Nat → Int64} {r : Nat → Option AE} {n : Nat} {nv nc nf nl wk : Nat} (h : BL nv nc nf nl wk c m) : MA G 5 yX10_bestTakers cX10_bestTakers 4 (some .int) 0 0 [.ref b] (HM b m ml r n) (qI fun x9 h1 => x9 = bestK c nv nf ∧ ∃ m1, h1 = HM b m1 ml r n ∧ kM m m1 ∧ m1 0 27 = bbF (BR c) (SH c) (tot nv nf)) := by
  refine MA.of (own := RX10) false [some (.ref b), none, none, none] (by decide +kernel) rfl (fun h => by cases h) (Nat.le_of_ble_eq_true rfl) rfl (fun X => ?_)
  have hX := h.ix
  obtain ⟨xv, xv6, xc, xc8, xf, xf3, xl, xl8, xw, xw30, xC, xL⟩ := id hX
  have hI := h.im
  obtain ⟨hv, hv6, hc, hc8, hf, hf3, hl, hl8, hw, hw30, gC, gL⟩ := id hI
  have hT := h.tm
  refine A_aload_n dX10_bestTakers_0 rfl rfl ?_
  refine A_callVv dX10_bestTakers_1 m_X10_333 cb_X10_keepsTakers (As := []) rfl HM_at0 rfl (k_keepsTakers G) rfl ⟨by decide, by decide⟩ (Nat.le_of_ble_eq_true rfl) ⟨by decide, by decide⟩ (fun h1 hq => ?_)
  obtain ⟨g, rfl, hg⟩ := hq
  refine A_iconst (v := (-1)) dX10_bestTakers_4 (by decide) ?_
  refine A_istore_n (lv1 := [_, _, _, _]) dX10_bestTakers_5 rfl (Nat.le_of_ble_eq_true rfl) rfl rfl ?_
  refine A_aload_n dX10_bestTakers_6 rfl rfl ?_
  refine A_iconst (v := (-1)) dX10_bestTakers_7 (by decide) ?_
  refine A_putM0 dX10_bestTakers_8 p_X10_336 rfl (Nat.le_of_ble_eq_true rfl) rfl ?_
  refine A_aload_n dX10_bestTakers_11 rfl rfl ?_
  refine A_callVi dX10_bestTakers_12 m_X10_339 cb_X10_takersMany (As := []) rfl HM_at0 rfl (k_takersMany G (((EM.mk hg).p0 (by decide)).im hI)) rfl ⟨by decide, by decide⟩ (Nat.le_of_ble_eq_true rfl) ⟨by decide, by decide⟩ (fun x12 h12 hq => ?_)
  obtain ⟨rfl, rfl⟩ := hq
  refine A_istore_n (lv1 := [_, _, _, _]) dX10_bestTakers_15 rfl (Nat.le_of_ble_eq_true rfl) rfl rfl ?_
  refine A_iconst (v := 0) dX10_bestTakers_16 (by decide) ?_
  refine A_istore_n (lv1 := [_, _, _, _]) dX10_bestTakers_17 rfl (Nat.le_of_ble_eq_true rfl) rfl rfl ?_
  exact best_loop G X ⟨rfl, rfl⟩ h (tot nv nf) 0 _ (by omega) ((EM.mk hg).p0 (by decide)) (by rw [put_at]; rfl)

theorem k_best (G : GX) {b : Nat} {c m : CT} {ml : Nat → Nat → Int64} {r : Nat → Option AE} {n : Nat} {nv nc nf nl wk : Nat} (h : BL nv nc nf nl wk c m) : MA G 6 yX10_best cX10_best 1 (some .int) 0 0 [.ref b] (HM b m ml r n) (qI fun x9 h1 => x9 = bestA c nv nf ∧ ∃ m1 ml1, h1 = HM b m1 ml1 r n ∧ KM m ml m1 ml1) := by
  refine MA.of (own := RX10) false [some (.ref b)] (by decide +kernel) rfl (fun h => by cases h) (Nat.le_of_ble_eq_true rfl) rfl (fun X => ?_)
  have hX := h.ix
  obtain ⟨xv, xv6, xc, xc8, xf, xf3, xl, xl8, xw, xw30, xC, xL⟩ := id hX
  have hI := h.im
  obtain ⟨hv, hv6, hc, hc8, hf, hf3, hl, hl8, hw, hw30, gC, gL⟩ := id hI
  have hT := h.tm
  refine A_aload_n dX10_best_0 rfl rfl ?_
  refine A_callVi dX10_best_1 m_X10_322 cb_X10_isPlain (As := []) rfl HM_at0 rfl (k_isPlain G) rfl ⟨by decide, by decide⟩ (Nat.le_of_ble_eq_true rfl) ⟨by decide, by decide⟩ (fun x1 h1 hq => ?_)
  obtain ⟨rfl, rfl⟩ := hq
  refine A_eqI (pl_i h) ?_
  refine A_if_ne 10 dX10_best_4 (by decide) (fun c4 => ?_) (fun c4 => ?_)
  · refine A_aload_n dX10_best_10 rfl rfl ?_
    refine A_callVi dX10_best_11 m_X10_351 cb_X10_bestTakers (As := []) rfl HM_at0 rfl (k_bestTakers G h) rfl ⟨by decide, by decide⟩ (Nat.le_of_ble_eq_true rfl) ⟨by decide, by decide⟩ (fun x11 h11 hq => ?_)
    obtain ⟨rfl, m1, rfl, hk1, hb1⟩ := hq
    refine A_pop dX10_best_14 rfl ?_
    refine A_aload_n dX10_best_15 rfl rfl ?_
    refine A_get dX10_best_16 f_X10_336 HM_at0 rfl ?_
    exact A_iret dX10_best_19 ⟨by rw [bestA, if_pos (by by_cases z : 0 < c 6 5; exact z; exact absurd (if_neg z) c4)]; exact hb1, _, _, rfl, hk1, rfl⟩ ⟨by decide, by decide⟩
  · refine A_bipush (v := (-2)) dX10_best_7 (by decide) ?_
    exact A_iret dX10_best_9 ⟨by rw [bestA, if_neg (fun z => by rw [if_pos z] at c4; exact absurd c4 (by decide))], ⟨_, _, rfl, KM.rf⟩⟩ ⟨by decide, by decide⟩

theorem k_taker (G : GX) {b : Nat} {c m : CT} {ml : Nat → Nat → Int64} {r : Nat → Option AE} {n : Nat} {nv nc nf nl wk : Nat} {v : Int32} (h : BL nv nc nf nl wk c m) : MA G 6 yX10_taker cX10_taker 3 (some .int) 0 0 [.ref b, .int v] (HM b m ml r n) (qI fun x9 h1 => x9 = takerA c nv nf v ∧ ∃ m1 ml1, h1 = HM b m1 ml1 r n ∧ KM m ml m1 ml1) := by
  refine MA.of (own := RX10) false [some (.ref b), some (.int v), none] (by decide +kernel) rfl (fun h => by cases h) (Nat.le_of_ble_eq_true rfl) rfl (fun X => ?_)
  have hX := h.ix
  obtain ⟨xv, xv6, xc, xc8, xf, xf3, xl, xl8, xw, xw30, xC, xL⟩ := id hX
  have hI := h.im
  obtain ⟨hv, hv6, hc, hc8, hf, hf3, hl, hl8, hw, hw30, gC, gL⟩ := id hI
  have hT := h.tm
  refine A_aload_n dX10_taker_0 rfl rfl ?_
  refine A_iload_n dX10_taker_1 rfl rfl ?_
  refine A_callVi dX10_taker_2 m_X10_311 cb_X10_isFlood (As := [_]) rfl HM_at0 rfl (k_isFlood G hf (by omega)) rfl ⟨by decide, by decide⟩ (Nat.le_of_ble_eq_true rfl) ⟨by decide, by decide⟩ (fun x2 h2 hq => ?_)
  obtain ⟨rfl, rfl⟩ := hq
  refine A_if_ne 11 dX10_taker_5 (by decide) (fun c5 => ?_) (fun c5 => ?_)
  · obtain ⟨j, hj, rfl⟩ := inI_of rfl c5 (by omega)
    have ht := tot_343 (nv := nv) (nf := nf) xv6 xf3
    refine A_aload_n dX10_taker_11 rfl rfl ?_
    refine A_callVi dX10_taker_12 m_X10_351 cb_X10_bestTakers (As := []) rfl HM_at0 rfl (k_bestTakers G h) rfl ⟨by decide, by decide⟩ (Nat.le_of_ble_eq_true rfl) ⟨by decide, by decide⟩ (fun x12 h12 hq => ?_)
    obtain ⟨rfl, m1, rfl, hk1, hb1⟩ := hq
    refine A_istore_n (lv1 := [_, _, _]) dX10_taker_15 rfl (Nat.le_of_ble_eq_true rfl) rfl rfl ?_
    refine A_iload_n dX10_taker_16 rfl rfl ?_
    refine A_iconst (v := (-1)) dX10_taker_17 (by decide) ?_
    refine A_icmp_ne 25 dX10_taker_18 (by decide) (fun c18 => ?_) (fun c18 => ?_)
    · obtain ⟨q, hq9, hqe⟩ := bestK_2 c18
      rw [hqe]
      refine A_aload_n dX10_taker_25 rfl rfl ?_
      refine A_iload_n dX10_taker_26 rfl rfl ?_
      refine A_iload_n dX10_taker_27 rfl rfl ?_
      refine A_callVi dX10_taker_28 m_X10_354 cb_X10_takerIn (As := [_, _]) rfl HM_at0 rfl (k_takerIn G (hI.to (hk1.1 1 (by decide) (by decide))) (by omega) hj) rfl ⟨by decide, by decide⟩ (Nat.le_of_ble_eq_true rfl) ⟨by decide, by decide⟩ (fun x28 h28 hq => ?_)
      obtain ⟨rfl, rfl⟩ := hq
      exact A_iret dX10_taker_31 ⟨by rw [takerA, xf, if_neg c5, if_neg c18, hqe, tcl_nI (by omega), tcl_nI (by omega)], _, _, rfl, hk1, rfl⟩ ⟨by decide, by decide⟩
    · refine A_iconst (v := (-1)) dX10_taker_21 (by decide) ?_
      refine A_goto 31 dX10_taker_22 (by decide) ?_
      exact A_iret dX10_taker_31 ⟨by rw [takerA, xf, if_neg c5, if_pos c18], _, _, rfl, hk1, rfl⟩ ⟨by decide, by decide⟩
  · refine A_bipush (v := (-2)) dX10_taker_8 (by decide) ?_
    exact A_iret dX10_taker_10 ⟨by rw [takerA, xf]; exact (if_pos (by assumption)).symm, ⟨_, _, rfl, KM.rf⟩⟩ ⟨by decide, by decide⟩

theorem safe_loop (G : GX) (X : XC) {b : Nat} {c m : CT} {ml : Nat → Nat → Int64} {r : Nat → Option AE} {n : Nat} {nv nc nf nl wk : Nat} {u1 u2 : Nat} (hu : u1 = 0 ∧ u2 = 0) (h : BL nv nc nf nl wk c m) (hp : 0 < c 6 5) : ∀ (k i : Nat) (m' : CT), i + k = tot nv nf → EM m m' → WA X G RX10 cX10_safe false (some .int) (qI fun x9 h1 => x9 = safeA c nv nf ∧ ∃ m1 ml1, h1 = HM b m1 ml1 r n ∧ KM m ml m1 ml1) 5 0 0 (HM b m' ml r n) u1 u2 23 [some (.ref b), some (.int (nI (cntS (SH c) i))), some (.int (nI (tot nv nf))), some (.int (nI i))] [] := by
  obtain ⟨rfl, rfl⟩ := hu
  have hX := h.ix
  have hb := h.nb
  have ht := tot_343 (nv := nv) (nf := nf) hb.1 hb.2.2.1
  intro k
  induction k with
  | zero =>
    intro i m' hk E
    have e9 : i = tot nv nf := by omega
    subst e9
    refine A_iload_n dX10_safe_23 rfl rfl ?_
    refine A_iload_n dX10_safe_24 rfl rfl ?_
    refine A_icmp_ge 58 dX10_safe_25 (by decide) (fun c25 => ?_) (fun c25 => ?_)
    · refine A_aload_n dX10_safe_58 rfl rfl ?_
      refine A_callVv dX10_safe_59 m_X10_348 cb_X10_bringsTakersBack (As := []) rfl HM_at0 rfl (k_bringsTakersBack G) rfl ⟨by decide, by decide⟩ (Nat.le_of_ble_eq_true rfl) ⟨by decide, by decide⟩ (fun h59 hq => ?_)
      obtain ⟨g, rfl, hg⟩ := hq
      refine A_iload_n dX10_safe_62 rfl rfl ?_
      exact A_iret dX10_safe_63 ⟨by rw [safeA, if_pos hp], _, _, rfl, E.back hg, rfl⟩ ⟨by decide, by decide⟩
    · exact absurd (nI_le (Nat.le_refl _) (by omega)) c25
  | succ k ih =>
    intro i m' hk E
    have hi : i < tot nv nf := by omega
    obtain ⟨S, D⟩ := tk_sim (k := i) h E
    have E2 := (E.tk (nv := nv) (nf := nf) (k := i) hb.2.2.1).run (fl := 7)
    have hM2 := E2.im h.im
    have e2 := sh_sim ⟨S, D⟩ hb
    refine A_iload_n dX10_safe_23 rfl rfl ?_
    refine A_iload_n dX10_safe_24 rfl rfl ?_
    refine A_icmp_ge 58 dX10_safe_25 (by decide) (fun c25 => ?_) (fun c25 => ?_)
    · exact absurd c25 (nI_ge (by omega) (by omega))
    · refine A_aload_n dX10_safe_28 rfl rfl ?_
      refine A_iload_n dX10_safe_29 rfl rfl ?_
      refine A_callVv dX10_safe_30 m_X10_342 cb_X10_takersAre (As := [_]) rfl HM_at0 rfl (k_takersAre G (E.im h.im) (by omega)) rfl ⟨by decide, by decide⟩ (Nat.le_of_ble_eq_true rfl) ⟨by decide, by decide⟩ (fun h30 hq => ?_)
      obtain rfl := hq
      refine A_aload_n dX10_safe_33 rfl rfl ?_
      refine A_callVv dX10_safe_34 m_X10_317 cb_X10_year (As := []) rfl HM_at0 rfl (k_year G ((E.tk hb.2.2.1).im h.im) (tk_TM hb.1)) rfl ⟨by decide, by decide⟩ (Nat.le_of_ble_eq_true rfl) ⟨by decide, by decide⟩ (fun h34 hq => ?_)
      obtain rfl := hq
      obtain ⟨y, ey⟩ : ∃ y, runM 7 (st1 m' 1 (tkW m' nv nf i)) = y := ⟨_, rfl⟩
      rw [ey] at S E2 hM2 e2 ⊢
      refine A_iload_n dX10_safe_37 rfl rfl ?_
      refine A_aload_n dX10_safe_38 rfl rfl ?_
      refine A_callVi dX10_safe_39 m_X10_345 cb_X10_shortOfAll (As := []) rfl HM_at0 rfl (k_shortOfAll G hM2) rfl ⟨by decide, by decide⟩ (Nat.le_of_ble_eq_true rfl) ⟨by decide, by decide⟩ (fun x39 h39 hq => ?_)
      obtain ⟨rfl, rfl⟩ := hq
      refine A_eqI (y := SH c i) e2 ?_
      refine A_if_ne 49 dX10_safe_42 (by decide) (fun c42 => ?_) (fun c42 => ?_)
      · refine A_iconst (v := 0) dX10_safe_49 (by decide) ?_
        refine A_iadd dX10_safe_50 ?_
        refine A_eqI (y := nI (cntS (SH c) (i + 1))) (by rw [cntS, if_neg c42]; exact nI_add _ 0) ?_
        refine A_istore_n (lv1 := [_, _, _, _]) dX10_safe_51 rfl (Nat.le_of_ble_eq_true rfl) rfl rfl ?_
        refine A_inc 1 (lv1 := [_, _, _, _]) dX10_safe_52 rfl (by decide) rfl rfl ?_
        refine A_goto 23 dX10_safe_55 (by decide) ?_
        rw [nI_1]
        exact ih (i + 1) _ (by omega) E2
      · refine A_iconst (v := 1) dX10_safe_45 (by decide) ?_
        refine A_goto 50 dX10_safe_46 (by decide) ?_
        refine A_iadd dX10_safe_50 ?_
        refine A_eqI (y := nI (cntS (SH c) (i + 1))) (by rw [cntS, if_pos c42]; exact nI_add _ 1) ?_
        refine A_istore_n (lv1 := [_, _, _, _]) dX10_safe_51 rfl (Nat.le_of_ble_eq_true rfl) rfl rfl ?_
        refine A_inc 1 (lv1 := [_, _, _, _]) dX10_safe_52 rfl (by decide) rfl rfl ?_
        refine A_goto 23 dX10_safe_55 (by decide) ?_
        rw [nI_1]
        exact ih (i + 1) _ (by omega) E2

theorem k_safe (G : GX) {b : Nat} {c m : CT} {ml : Nat → Nat → Int64} {r : Nat → Option AE} {n : Nat} {nv nc nf nl wk : Nat} (h : BL nv nc nf nl wk c m) : MA G 5 yX10_safe cX10_safe 4 (some .int) 0 0 [.ref b] (HM b m ml r n) (qI fun x9 h1 => x9 = safeA c nv nf ∧ ∃ m1 ml1, h1 = HM b m1 ml1 r n ∧ KM m ml m1 ml1) := by
  refine MA.of (own := RX10) false [some (.ref b), none, none, none] (by decide +kernel) rfl (fun h => by cases h) (Nat.le_of_ble_eq_true rfl) rfl (fun X => ?_)
  have hX := h.ix
  obtain ⟨xv, xv6, xc, xc8, xf, xf3, xl, xl8, xw, xw30, xC, xL⟩ := id hX
  have hI := h.im
  obtain ⟨hv, hv6, hc, hc8, hf, hf3, hl, hl8, hw, hw30, gC, gL⟩ := id hI
  have hT := h.tm
  refine A_aload_n dX10_safe_0 rfl rfl ?_
  refine A_callVi dX10_safe_1 m_X10_322 cb_X10_isPlain (As := []) rfl HM_at0 rfl (k_isPlain G) rfl ⟨by decide, by decide⟩ (Nat.le_of_ble_eq_true rfl) ⟨by decide, by decide⟩ (fun x1 h1 hq => ?_)
  obtain ⟨rfl, rfl⟩ := hq
  refine A_eqI (pl_i h) ?_
  refine A_if_ne 10 dX10_safe_4 (by decide) (fun c4 => ?_) (fun c4 => ?_)
  · refine A_aload_n dX10_safe_10 rfl rfl ?_
    refine A_callVv dX10_safe_11 m_X10_333 cb_X10_keepsTakers (As := []) rfl HM_at0 rfl (k_keepsTakers G) rfl ⟨by decide, by decide⟩ (Nat.le_of_ble_eq_true rfl) ⟨by decide, by decide⟩ (fun h11 hq => ?_)
    obtain ⟨g, rfl, hg⟩ := hq
    refine A_iconst (v := 0) dX10_safe_14 (by decide) ?_
    refine A_istore_n (lv1 := [_, _, _, _]) dX10_safe_15 rfl (Nat.le_of_ble_eq_true rfl) rfl rfl ?_
    refine A_aload_n dX10_safe_16 rfl rfl ?_
    refine A_callVi dX10_safe_17 m_X10_339 cb_X10_takersMany (As := []) rfl HM_at0 rfl (k_takersMany G ((EM.mk hg).im hI)) rfl ⟨by decide, by decide⟩ (Nat.le_of_ble_eq_true rfl) ⟨by decide, by decide⟩ (fun x17 h17 hq => ?_)
    obtain ⟨rfl, rfl⟩ := hq
    refine A_istore_n (lv1 := [_, _, _, _]) dX10_safe_20 rfl (Nat.le_of_ble_eq_true rfl) rfl rfl ?_
    refine A_iconst (v := 0) dX10_safe_21 (by decide) ?_
    refine A_istore_n (lv1 := [_, _, _, _]) dX10_safe_22 rfl (Nat.le_of_ble_eq_true rfl) rfl rfl ?_
    exact safe_loop G X ⟨rfl, rfl⟩ h (by by_cases z : 0 < c 6 5; exact z; exact absurd (if_neg z) c4) (tot nv nf) 0 _ (by omega) (EM.mk hg)
  · refine A_bipush (v := (-2)) dX10_safe_7 (by decide) ?_
    exact A_iret dX10_safe_9 ⟨by rw [safeA, if_neg (fun z => by rw [if_pos z] at c4; exact absurd c4 (by decide))], ⟨_, _, rfl, KM.rf⟩⟩ ⟨by decide, by decide⟩
