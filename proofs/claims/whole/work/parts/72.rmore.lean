/-! THE REFERENCE: more, takes, count, the TAPE's end, faults, feed -/
def moreM (c m : CT) (v : Int32) : CT := if 0 < c 6 5 ∧ ¬ v < 0 ∧ v ≤ 100 then put m 1 6 v else m
def takesM (c m : CT) (f v : Int32) : CT := if inI f (c 11 2) = 0 ∨ (¬ v = -1 ∧ inI v (c 7 2) = 0) then m else put m 1 (157 + tcl f) v
theorem hundred_i {x : Int32} : inL x.toInt64 0 100 = if ¬ x < 0 ∧ x ≤ 100 then 1 else 0 := by
  have e0 : (x.toInt64 < 0) ↔ x < 0 := i64_lt (y := 0)
  have e1 : (100 : Int64) < x.toInt64 ↔ (100 : Int32) < x := i64_lt (x := 100)
  have e2 : (100 : Int32) < x ↔ ¬ x ≤ 100 := by rw [Int32.lt_iff_toInt_lt, Int32.le_iff_toInt_le]; omega
  simp only [inL, e0, e1, e2]
  by_cases a : x < 0 <;> by_cases b : x ≤ 100 <;> simp [a, b]
theorem k_more (G : GX) {b : Nat} {c m : CT} {ml : Nat → Nat → Int64} {r : Nat → Option AE} {n : Nat} {nv nc nf nl wk : Nat} {v : Int32} (h : BL nv nc nf nl wk c m) : MA G 1 yX10_more cX10_more 3 (some .int) 0 0 [.ref b, .int v] (HM b m ml r n) (qI fun x9 h1 => x9 = (moreA c v).1 ∧ h1 = HM b (moreM c m v) ml r n) := by
  refine MA.of (own := RX10) false [some (.ref b), some (.int v), none] (by decide +kernel) rfl (fun h => by cases h) (Nat.le_of_ble_eq_true rfl) rfl (fun X => ?_)
  have hX := h.ix
  obtain ⟨xv, xv6, xc, xc8, xf, xf3, xl, xl8, xw, xw30, xC, xL⟩ := id hX
  have hI := h.im
  obtain ⟨hv, hv6, hc, hc8, hf, hf3, hl, hl8, hw, hw30, gC, gL⟩ := id hI
  have hT := h.tm
  refine A_aload_n dX10_more_0 rfl rfl ?_
  refine A_callVi dX10_more_1 m_X10_322 cb_X10_isPlain (As := []) rfl HM_at0 rfl (k_isPlain G) rfl ⟨by decide, by decide⟩ (Nat.le_of_ble_eq_true rfl) ⟨by decide, by decide⟩ (fun x1 h1 hq => ?_)
  obtain ⟨rfl, rfl⟩ := hq
  refine A_eqI (pl_i h) ?_
  refine A_if_eq 19 dX10_more_4 (by decide) (fun c4 => ?_) (fun c4 => ?_)
  · refine A_bipush (v := (-2)) dX10_more_19 (by decide) ?_
    exact A_iret dX10_more_21 ⟨by rw [moreA, if_neg (fun z => (fun z => by rw [if_pos z] at c4; exact absurd c4 (by decide)) z.1)], by rw [moreM, if_neg (fun z => (fun z => by rw [if_pos z] at c4; exact absurd c4 (by decide)) z.1)]⟩ ⟨by decide, by decide⟩
  · refine A_iload_n dX10_more_7 rfl rfl ?_
    refine A_i2l dX10_more_8 ?_
    refine A_lconst (v := 0) dX10_more_9 (by decide) ?_
    refine A_ldc2 dX10_more_10 w_1602 ?_
    refine A_callSi dX10_more_13 m_X10_85 cb_X10_in (As := [_, _, _]) rfl (k_in G) rfl ⟨by decide, by decide⟩ (Nat.le_of_ble_eq_true rfl) ⟨by decide, by decide⟩ (fun x13 h13 hq => ?_)
    obtain ⟨rfl, rfl⟩ := hq
    refine A_eqI hundred_i ?_
    refine A_if_ne 22 dX10_more_16 (by decide) (fun c16 => ?_) (fun c16 => ?_)
    · have hc9 : 0 < c 6 5 ∧ ¬ v < 0 ∧ v ≤ 100 := ⟨(by by_cases z : 0 < c 6 5; exact z; exact absurd (if_neg z) c4), by by_cases z : ¬ v < 0 ∧ v ≤ 100; exact z; exact absurd (if_neg z) c16⟩
      refine A_aload_n dX10_more_22 rfl rfl ?_
      refine A_get dX10_more_23 f_X10_9 HM_at0 rfl ?_
      refine A_bipush (v := 6) dX10_more_26 (by decide) ?_
      refine A_ialdK (i := 6) dX10_more_28 (HM_at (by decide)) rfl (by omega) (by decide) ?_
      refine A_istore_n (lv1 := [_, _, _]) dX10_more_29 rfl (Nat.le_of_ble_eq_true rfl) rfl rfl ?_
      refine A_aload_n dX10_more_30 rfl rfl ?_
      refine A_get dX10_more_31 f_X10_9 HM_at0 rfl ?_
      refine A_bipush (v := 6) dX10_more_34 (by decide) ?_
      refine A_iload_n dX10_more_36 rfl rfl ?_
      refine A_iastMK (i := 6) dX10_more_37 (by decide) (fun _ => rfl) rfl (by omega) (by decide) ?_
      refine A_iload_n dX10_more_38 rfl rfl ?_
      exact A_iret dX10_more_39 ⟨by rw [moreA, if_pos hc9]; exact h.mo.symm, by rw [moreM, if_pos hc9]⟩ ⟨by decide, by decide⟩
    · refine A_bipush (v := (-2)) dX10_more_19 (by decide) ?_
      exact A_iret dX10_more_21 ⟨by rw [moreA, if_neg (fun z => by rw [if_pos z.2] at c16; exact absurd c16 (by decide))], by rw [moreM, if_neg (fun z => by rw [if_pos z.2] at c16; exact absurd c16 (by decide))]⟩ ⟨by decide, by decide⟩

theorem more_BL {nv nc nf nl wk : Nat} {c m : CT} {v : Int32} (h : BL nv nc nf nl wk c m) : BL nv nc nf nl wk (moreA c v).2 (moreM c m v) := by
  unfold moreA moreM
  by_cases z : 0 < c 6 5 ∧ ¬ v < 0 ∧ v ≤ 100
  · rw [if_pos z, if_pos z]
    show BL nv nc nf nl wk (forgetF (put c 6 7 v)) (put m 1 6 v)
    have e : ∀ l, l ≤ 15 → l ≠ 6 → forgetF (put c 6 7 v) l = c l := fun l hl h6 => by rw [forgetF, st1_ne (by omega), put_ne h6]
    have e6 : ∀ j, j ≠ 7 → forgetF (put c 6 7 v) 6 j = c 6 j := fun j hj => by rw [forgetF, st1_ne (by decide), put_no hj]
    have e67 : forgetF (put c 6 7 v) 6 7 = v := by rw [forgetF, st1_ne (by decide), put_at]
    have w : ∀ j, j ≠ 6 → put m 1 6 v 1 j = m 1 j := fun j hj => put_no hj
    obtain ⟨h1, h2, h3, h4, h5, h6, h7, h8, h9, h10, h11, h12⟩ := h
    have hb := h1
    obtain ⟨xv, xv6, xc, xc8, xf, xf3, xl, xl8, xw, xw30, xC, xL⟩ := hb
    refine ⟨?_, ?_, ?_, ?_, ?_, ?_, ?_, ?_, ?_, ?_, ?_, ?_⟩
    · unfold IX at *; rw [e 7 (by decide) (by decide), e 9 (by decide) (by decide), e 11 (by decide) (by decide), e 13 (by decide) (by decide), e6 6 (by decide), e 10 (by decide) (by decide), e 14 (by decide) (by decide)]; exact h1
    · unfold KX tkn at *; rw [e 12 (by decide) (by decide)]; exact h2
    · unfold PRC at *; rw [e 8 (by decide) (by decide), e 10 (by decide) (by decide), e 12 (by decide) (by decide), e 14 (by decide) (by decide), e 15 (by decide) (by decide)]; exact h3
    · obtain ⟨hv, hv6, hc, hc8, hf, hf3, hl, hl8, hw, hw30, gC, gL⟩ := h4
      unfold IM
      refine ⟨(w _ (by decide)).trans hv, hv6, (w _ (by decide)).trans hc, hc8, (w _ (by decide)).trans hf, hf3, (w _ (by decide)).trans hl, hl8, (w _ (by decide)).trans hw, hw30, fun i hi => ?_, fun i hi => ?_⟩
      · rw [w _ (by omega)]; exact gC i hi
      · rw [w _ (by omega), w _ (by omega)]; exact gL i hi
    · obtain ⟨p1, p2, p3, p4, p5, p6⟩ := h5
      refine ⟨fun v hv k hk => ?_, fun v hv k hk => ?_, fun v hv k hk => ?_, fun v hv k hk => ?_, fun v hv => ?_, ?_⟩
      · rw [e 8 (by decide) (by decide), w _ (by omega)]; exact p1 v hv k hk
      · rw [e 10 (by decide) (by decide), w _ (by omega)]; exact p2 v hv k hk
      · rw [e 12 (by decide) (by decide), w _ (by omega)]; exact p3 v hv k hk
      · rw [e 14 (by decide) (by decide), w _ (by omega)]; exact p4 v hv k hk
      · rw [e 15 (by decide) (by decide), w _ (by omega)]; exact p5 v hv
      · rw [e6 8 (by decide), w _ (by decide)]; exact p6
    · intro v hv; rw [e 8 (by decide) (by decide), w _ (by omega)]; exact h6 v hv
    · intro v hv; rw [e 12 (by decide) (by decide), w _ (by omega)]; exact h7 v hv
    · rw [e67, put_at]
    · rw [e67]
      have z1 : ¬ v.toInt < 0 := fun q => z.2.1 (Int32.lt_iff_toInt_lt.mpr q)
      have z2 := Int32.le_iff_toInt_le.mp z.2.2
      exact ⟨by omega, z2⟩
    · rw [put_ne (by decide)]; exact h10
    · rw [e6 5 (by decide), w _ (by decide)]; exact h11
    · rw [e6 5 (by decide), w _ (by decide)]; exact h12
  · rw [if_neg z, if_neg z]; exact h
theorem takes_BL {nv nc nf nl wk : Nat} {c m : CT} {f v : Int32} (h : BL nv nc nf nl wk c m) : BL nv nc nf nl wk (takesA c f v).2 (takesM c m f v) := by
  unfold takesA takesM
  by_cases z : inI f (c 11 2) = 0 ∨ (¬ v = -1 ∧ inI v (c 7 2) = 0)
  · rw [if_pos z, if_pos z]; exact h
  · rw [if_neg z, if_neg z]
    show BL nv nc nf nl wk (put c 12 (4 * tcl f + 3) v) (put m 1 (157 + tcl f) v)
    obtain ⟨h1, h2, h3, h4, h5, h6, h7, h8, h9, h10, h11, h12⟩ := h
    have hb := h1
    obtain ⟨xv, xv6, xc, xc8, xf, xf3, xl, xl8, xw, xw30, xC, xL⟩ := hb
    obtain ⟨j, hj, rfl⟩ := inI_of xf (fun q => z (Or.inl q)) (by omega)
    have hv9 : v = -1 ∨ ∃ u, u < nv ∧ v = nI u := by
      by_cases q : v = -1
      · exact Or.inl q
      · exact Or.inr (inI_of xv (fun q2 => z (Or.inr ⟨q, q2⟩)) (by omega))
    rw [tcl_nI (by omega)]
    have e : ∀ l, l ≠ 12 → put c 12 (4 * j + 3) v l = c l := fun l hl => put_ne hl
    have w : ∀ q, q ≠ 157 + j → put m 1 (157 + j) v 1 q = m 1 q := fun q hq => put_no hq
    refine ⟨?_, ?_, ?_, ?_, ?_, ?_, ?_, ?_, ?_, ?_, ?_, ?_⟩
    · unfold IX at *; rw [e 7 (by decide), e 9 (by decide), e 11 (by decide), e 13 (by decide), e 6 (by decide), e 10 (by decide), e 14 (by decide)]; exact h1
    · intro i hi
      unfold tkn
      by_cases q : i = j
      · subst q
        rw [put_at]
        rcases hv9 with rfl | ⟨u, hu, rfl⟩
        · exact ⟨by decide, by show tcl ((-1 : Int32) + 1) ≤ nv; rw [show tcl ((-1 : Int32) + 1) = 0 by decide]; omega⟩
        · rw [nI_1, tcl_nI (by omega)]; exact ⟨rfl, by omega⟩
      · rw [put_no (by omega)]; exact h2 i hi
    · unfold PRC at *
      rw [e 8 (by decide), e 10 (by decide), e 14 (by decide), e 15 (by decide)]
      refine ⟨h3.1, h3.2.1, fun i hi => ?_, h3.2.2.2⟩
      rw [put_no (by omega), put_no (by omega)]
      exact h3.2.2.1 i hi
    · obtain ⟨hv, hv6, hc, hc8, hf, hf3, hl, hl8, hw, hw30, gC, gL⟩ := h4
      unfold IM
      refine ⟨(w _ (by omega)).trans hv, hv6, (w _ (by omega)).trans hc, hc8, (w _ (by omega)).trans hf, hf3, (w _ (by omega)).trans hl, hl8, (w _ (by omega)).trans hw, hw30, fun i hi => ?_, fun i hi => ?_⟩
      · rw [w _ (by omega)]; exact gC i hi
      · rw [w _ (by omega), w _ (by omega)]; exact gL i hi
    · obtain ⟨p1, p2, p3, p4, p5, p6⟩ := h5
      refine ⟨fun v hv k hk => ?_, fun v hv k hk => ?_, fun v hv k hk => ?_, fun v hv k hk => ?_, fun v hv => ?_, ?_⟩
      · rw [e 8 (by decide), w _ (by omega)]; exact p1 v hv k hk
      · rw [e 10 (by decide), w _ (by omega)]; exact p2 v hv k hk
      · rw [put_no (by omega), w _ (by omega)]; exact p3 v hv k hk
      · rw [e 14 (by decide), w _ (by omega)]; exact p4 v hv k hk
      · rw [e 15 (by decide), w _ (by omega)]; exact p5 v hv
      · rw [e 6 (by decide), w _ (by omega)]; exact p6
    · intro v hv; rw [e 8 (by decide), w _ (by omega)]; exact h6 v hv
    · intro i hi
      by_cases q : i = j
      · subst q; rw [put_at, put_at]
      · rw [put_no (by omega), w _ (by omega)]; exact h7 i hi
    · rw [e 6 (by decide), w _ (by omega)]; exact h8
    · rw [e 6 (by decide)]; exact h9
    · rw [put_ne (by decide)]; exact h10
    · rw [e 6 (by decide), w _ (by omega)]; exact h11
    · rw [e 6 (by decide), w _ (by omega)]; exact h12
theorem k_takes_ (G : GX) {b : Nat} {c m : CT} {ml : Nat → Nat → Int64} {r : Nat → Option AE} {n : Nat} {nv nc nf nl wk : Nat} {f v : Int32} (h : BL nv nc nf nl wk c m) : MA G 2 yX10_takes_ cX10_takes_ 4 (some .int) 0 0 [.ref b, .int f, .int v] (HM b m ml r n) (qI fun x9 h1 => x9 = (takesA c f v).1 ∧ h1 = HM b (takesM c m f v) ml r n) := by
  refine MA.of (own := RX10) false [some (.ref b), some (.int f), some (.int v), none] (by decide +kernel) rfl (fun h => by cases h) (Nat.le_of_ble_eq_true rfl) rfl (fun X => ?_)
  have hX := h.ix
  obtain ⟨xv, xv6, xc, xc8, xf, xf3, xl, xl8, xw, xw30, xC, xL⟩ := id hX
  have hI := h.im
  obtain ⟨hv, hv6, hc, hc8, hf, hf3, hl, hl8, hw, hw30, gC, gL⟩ := id hI
  have hT := h.tm
  refine A_aload_n dX10_takes__0 rfl rfl ?_
  refine A_iload_n dX10_takes__1 rfl rfl ?_
  refine A_callVi dX10_takes__2 m_X10_311 cb_X10_isFlood (As := [_]) rfl HM_at0 rfl (k_isFlood G hf (by omega)) rfl ⟨by decide, by decide⟩ (Nat.le_of_ble_eq_true rfl) ⟨by decide, by decide⟩ (fun x2 h2 hq => ?_)
  obtain ⟨rfl, rfl⟩ := hq
  refine A_if_eq 21 dX10_takes__5 (by decide) (fun c5 => ?_) (fun c5 => ?_)
  · refine A_bipush (v := (-2)) dX10_takes__21 (by decide) ?_
    exact A_iret dX10_takes__23 ⟨by rw [takesA, xf, xv, if_pos (show inI f (nI nf) = 0 ∨ (¬ v = -1 ∧ inI v (nI nv) = 0) from Or.inl c5)], by rw [takesM, xf, xv, if_pos (show inI f (nI nf) = 0 ∨ (¬ v = -1 ∧ inI v (nI nv) = 0) from Or.inl c5)]⟩ ⟨by decide, by decide⟩
  · refine A_iload_n dX10_takes__8 rfl rfl ?_
    refine A_iconst (v := (-1)) dX10_takes__9 (by decide) ?_
    refine A_icmp_eq 24 dX10_takes__10 (by decide) (fun c10 => ?_) (fun c10 => ?_)
    · have hz : ¬ (inI f (nI nf) = 0 ∨ (¬ v = -1 ∧ inI v (nI nv) = 0)) := fun z => z.elim c5 (fun z => z.1 c10)
      have eA : takesA c f v = (c 12 (4 * tcl f + 3), put c 12 (4 * tcl f + 3) v) := by rw [takesA, xf, xv]; exact if_neg hz
      have eM : takesM c m f v = put m 1 (157 + tcl f) v := by rw [takesM, xf, xv]; exact if_neg hz
      rw [eA, eM]
      obtain ⟨j, hj, rfl⟩ := inI_of rfl c5 (by omega)
      rw [tcl_nI (by omega)]
      refine A_aload_n dX10_takes__24 rfl rfl ?_
      refine A_get dX10_takes__25 f_X10_9 HM_at0 rfl ?_
      refine A_sipush (v := 157) dX10_takes__28 (by decide) ?_
      refine A_iload_n dX10_takes__31 rfl rfl ?_
      refine A_iadd dX10_takes__32 ?_
      refine A_ialdK (i := (157 + j)) dX10_takes__33 (HM_at (by decide)) (ixA rfl rfl) (by omega) (by decide) ?_
      refine A_istore_n (lv1 := [_, _, _, _]) dX10_takes__34 rfl (Nat.le_of_ble_eq_true rfl) rfl rfl ?_
      refine A_aload_n dX10_takes__35 rfl rfl ?_
      refine A_get dX10_takes__36 f_X10_9 HM_at0 rfl ?_
      refine A_sipush (v := 157) dX10_takes__39 (by decide) ?_
      refine A_iload_n dX10_takes__42 rfl rfl ?_
      refine A_iadd dX10_takes__43 ?_
      refine A_iload_n dX10_takes__44 rfl rfl ?_
      refine A_iastMK (i := (157 + j)) dX10_takes__45 (by decide) (fun _ => rfl) (ixA rfl rfl) (by omega) (by decide) ?_
      refine A_iload_n dX10_takes__46 rfl rfl ?_
      exact A_iret dX10_takes__47 ⟨(h.tk j hj).symm, rfl⟩ ⟨by decide, by decide⟩
    · refine A_aload_n dX10_takes__13 rfl rfl ?_
      refine A_iload_n dX10_takes__14 rfl rfl ?_
      refine A_callVi dX10_takes__15 m_X10_93 cb_X10_isVillage (As := [_]) rfl HM_at0 rfl (k_isVillage G hv (by omega)) rfl ⟨by decide, by decide⟩ (Nat.le_of_ble_eq_true rfl) ⟨by decide, by decide⟩ (fun x15 h15 hq => ?_)
      obtain ⟨rfl, rfl⟩ := hq
      refine A_if_ne 24 dX10_takes__18 (by decide) (fun c18 => ?_) (fun c18 => ?_)
      · have hz : ¬ (inI f (nI nf) = 0 ∨ (¬ v = -1 ∧ inI v (nI nv) = 0)) := fun z => z.elim c5 (fun z => c18 z.2)
        have eA : takesA c f v = (c 12 (4 * tcl f + 3), put c 12 (4 * tcl f + 3) v) := by rw [takesA, xf, xv]; exact if_neg hz
        have eM : takesM c m f v = put m 1 (157 + tcl f) v := by rw [takesM, xf, xv]; exact if_neg hz
        rw [eA, eM]
        obtain ⟨j, hj, rfl⟩ := inI_of rfl c5 (by omega)
        rw [tcl_nI (by omega)]
        refine A_aload_n dX10_takes__24 rfl rfl ?_
        refine A_get dX10_takes__25 f_X10_9 HM_at0 rfl ?_
        refine A_sipush (v := 157) dX10_takes__28 (by decide) ?_
        refine A_iload_n dX10_takes__31 rfl rfl ?_
        refine A_iadd dX10_takes__32 ?_
        refine A_ialdK (i := (157 + j)) dX10_takes__33 (HM_at (by decide)) (ixA rfl rfl) (by omega) (by decide) ?_
        refine A_istore_n (lv1 := [_, _, _, _]) dX10_takes__34 rfl (Nat.le_of_ble_eq_true rfl) rfl rfl ?_
        refine A_aload_n dX10_takes__35 rfl rfl ?_
        refine A_get dX10_takes__36 f_X10_9 HM_at0 rfl ?_
        refine A_sipush (v := 157) dX10_takes__39 (by decide) ?_
        refine A_iload_n dX10_takes__42 rfl rfl ?_
        refine A_iadd dX10_takes__43 ?_
        refine A_iload_n dX10_takes__44 rfl rfl ?_
        refine A_iastMK (i := (157 + j)) dX10_takes__45 (by decide) (fun _ => rfl) (ixA rfl rfl) (by omega) (by decide) ?_
        refine A_iload_n dX10_takes__46 rfl rfl ?_
        exact A_iret dX10_takes__47 ⟨(h.tk j hj).symm, rfl⟩ ⟨by decide, by decide⟩
      · refine A_bipush (v := (-2)) dX10_takes__21 (by decide) ?_
        exact A_iret dX10_takes__23 ⟨by rw [takesA, xf, xv, if_pos (show inI f (nI nf) = 0 ∨ (¬ v = -1 ∧ inI v (nI nv) = 0) from Or.inr ⟨c10, c18⟩)], by rw [takesM, xf, xv, if_pos (show inI f (nI nf) = 0 ∨ (¬ v = -1 ∧ inI v (nI nv) = 0) from Or.inr ⟨c10, c18⟩)]⟩ ⟨by decide, by decide⟩

/-- SLOTS: who has a row -/
def SN (m : CT) (co : Nat → Nat → Option Nat) : Prop := ∀ s, s < 4 → (m 17 s = -1 ↔ co 27 s = none)
theorem k_count (G : GX) {b : Nat} {c m : CT} {ml : Nat → Nat → Int64} {r : Nat → Option AE} {n : Nat} {nv nc nf nl wk : Nat} {co : Nat → Nat → Option Nat} {t : Int32} (h : BL nv nc nf nl wk c m) (hSN : SN m co) (htp : c 1 1 = m 0 5) : MA G 1 yX10_count cX10_count 4 (some .int) 0 0 [.ref b, .int t] (HM b m ml r n) (qI fun x9 h1 => x9 = countA c co t ∧ h1 = HM b m ml r n) := by
  refine MA.of (own := RX10) false [some (.ref b), some (.int t), none, none] (by decide +kernel) rfl (fun h => by cases h) (Nat.le_of_ble_eq_true rfl) rfl (fun X => ?_)
  have hX := h.ix
  obtain ⟨xv, xv6, xc, xc8, xf, xf3, xl, xl8, xw, xw30, xC, xL⟩ := id hX
  have hI := h.im
  obtain ⟨hv, hv6, hc, hc8, hf, hf3, hl, hl8, hw, hw30, gC, gL⟩ := id hI
  have hT := h.tm
  refine A_iconst (v := 0) dX10_count_0 (by decide) ?_
  refine A_istore_n (lv1 := [_, _, _, _]) dX10_count_1 rfl (Nat.le_of_ble_eq_true rfl) rfl rfl ?_
  refine A_iload_n dX10_count_2 rfl rfl ?_
  by_cases s3_0 : t = 0
  · subst s3_0
    refine A_tableIn 56 dX10_count_3 (by decide) (by decide) rfl (by decide) ?_
    refine A_aload_n dX10_count_56 rfl rfl ?_
    refine A_get dX10_count_57 f_X10_9 HM_at0 rfl ?_
    refine A_iconst (v := 5) dX10_count_60 (by decide) ?_
    refine A_ialdK (i := 5) dX10_count_61 (HM_at (by decide)) rfl (by omega) (by decide) ?_
    exact A_iret dX10_count_62 ⟨hw.trans xw.symm, rfl⟩ ⟨by decide, by decide⟩
  by_cases s3_1 : t = 1
  · subst s3_1
    refine A_tableIn 63 dX10_count_3 (by decide) (by decide) rfl (by decide) ?_
    refine A_aload_n dX10_count_63 rfl rfl ?_
    refine A_callVi dX10_count_64 m_X10_89 cb_X10_villages (As := []) rfl HM_at0 rfl (k_villages G) rfl ⟨by decide, by decide⟩ (Nat.le_of_ble_eq_true rfl) ⟨by decide, by decide⟩ (fun x64 h64 hq => ?_)
    obtain ⟨rfl, rfl⟩ := hq
    exact A_iret dX10_count_67 ⟨hv.trans xv.symm, rfl⟩ ⟨by decide, by decide⟩
  by_cases s3_2 : t = 2
  · subst s3_2
    refine A_tableIn 68 dX10_count_3 (by decide) (by decide) rfl (by decide) ?_
    refine A_aload_n dX10_count_68 rfl rfl ?_
    refine A_get dX10_count_69 f_X10_9 HM_at0 rfl ?_
    refine A_iconst (v := 1) dX10_count_72 (by decide) ?_
    refine A_ialdK (i := 1) dX10_count_73 (HM_at (by decide)) rfl (by omega) (by decide) ?_
    exact A_iret dX10_count_74 ⟨hc.trans xc.symm, rfl⟩ ⟨by decide, by decide⟩
  by_cases s3_3 : t = 3
  · subst s3_3
    refine A_tableIn 75 dX10_count_3 (by decide) (by decide) rfl (by decide) ?_
    refine A_aload_n dX10_count_75 rfl rfl ?_
    refine A_get dX10_count_76 f_X10_9 HM_at0 rfl ?_
    refine A_iconst (v := 2) dX10_count_79 (by decide) ?_
    refine A_ialdK (i := 2) dX10_count_80 (HM_at (by decide)) rfl (by omega) (by decide) ?_
    exact A_iret dX10_count_81 ⟨hf.trans xf.symm, rfl⟩ ⟨by decide, by decide⟩
  by_cases s3_4 : t = 4
  · subst s3_4
    refine A_tableIn 82 dX10_count_3 (by decide) (by decide) rfl (by decide) ?_
    refine A_aload_n dX10_count_82 rfl rfl ?_
    refine A_get dX10_count_83 f_X10_9 HM_at0 rfl ?_
    refine A_iconst (v := 3) dX10_count_86 (by decide) ?_
    refine A_ialdK (i := 3) dX10_count_87 (HM_at (by decide)) rfl (by omega) (by decide) ?_
    exact A_iret dX10_count_88 ⟨hl.trans xl.symm, rfl⟩ ⟨by decide, by decide⟩
  by_cases s3_5 : t = 5
  · subst s3_5
    refine A_tableIn 89 dX10_count_3 (by decide) (by decide) rfl (by decide) ?_
    refine A_aload_n dX10_count_89 rfl rfl ?_
    refine A_get dX10_count_90 f_X10_9 HM_at0 rfl ?_
    refine A_iconst (v := 4) dX10_count_93 (by decide) ?_
    refine A_ialdK (i := 4) dX10_count_94 (HM_at (by decide)) rfl (by omega) (by decide) ?_
    exact A_iret dX10_count_95 ⟨h.li.symm, rfl⟩ ⟨by decide, by decide⟩
  by_cases s3_6 : t = 6
  · subst s3_6
    refine A_tableIn 96 dX10_count_3 (by decide) (by decide) rfl (by decide) ?_
    refine A_aload_n dX10_count_96 rfl rfl ?_
    refine A_get dX10_count_97 f_X10_97 HM_at0 rfl ?_
    exact A_iret dX10_count_100 ⟨htp.symm, rfl⟩ ⟨by decide, by decide⟩
  by_cases s3_7 : t = 7
  · subst s3_7
    refine A_tableIn 101 dX10_count_3 (by decide) (by decide) rfl (by decide) ?_
    refine A_aload_n dX10_count_101 rfl rfl ?_
    refine A_get dX10_count_102 f_X10_9 HM_at0 rfl ?_
    refine A_bipush (v := 6) dX10_count_105 (by decide) ?_
    refine A_ialdK (i := 6) dX10_count_107 (HM_at (by decide)) rfl (by omega) (by decide) ?_
    exact A_iret dX10_count_108 ⟨h.mo.symm, rfl⟩ ⟨by decide, by decide⟩
  by_cases s3_8 : t = 8
  · subst s3_8
    refine A_tableIn 109 dX10_count_3 (by decide) (by decide) rfl (by decide) ?_
    refine A_aload_n dX10_count_109 rfl rfl ?_
    refine A_get dX10_count_110 f_X10_9 HM_at0 rfl ?_
    refine A_bipush (v := 7) dX10_count_113 (by decide) ?_
    refine A_ialdK (i := 7) dX10_count_115 (HM_at (by decide)) rfl (by omega) (by decide) ?_
    exact A_iret dX10_count_116 ⟨h.sp.2.2.2.2.2.symm, rfl⟩ ⟨by decide, by decide⟩
  by_cases s3_9 : t = 9
  · subst s3_9
    refine A_tableIn 117 dX10_count_3 (by decide) (by decide) rfl (by decide) ?_
    refine A_iconst (v := 0) dX10_count_117 (by decide) ?_
    refine A_istore_n (lv1 := [_, _, _, _]) dX10_count_118 rfl (Nat.le_of_ble_eq_true rfl) rfl rfl ?_
    have loop : ∀ (k i : Nat) , i + k = 4 → WA X G RX10 cX10_count false (some .int) (qI fun x9 h1 => x9 = nI (slF (co 27) 4) ∧ h1 = HM b m ml r n) 1 0 0 (HM b m ml r n) 0 0 119 [some (.ref b), some (.int (nI 9)), some (.int (nI (slF (co 27) i))), some (.int (nI i))] [] := by
      intro k
      induction k with
      | zero =>
        intro i  hk 
        refine A_iload_n dX10_count_119 rfl rfl ?_
        refine A_iconst (v := 4) dX10_count_120 (by decide) ?_
        refine A_icmp_ge 148 dX10_count_121 (by decide) (fun c121 => ?_) (fun c121 => ?_)
        · refine A_iload_n dX10_count_148 rfl rfl ?_
          exact A_iret dX10_count_149 ⟨by rw [show i = 4 by omega], rfl⟩ ⟨by decide, by decide⟩
        · exact absurd (nI_le (a := 4) (b := i) (by omega) (by omega)) c121
      | succ k ih =>
        intro i  hk 
        have hi : i < 4 := by omega
        refine A_iload_n dX10_count_119 rfl rfl ?_
        refine A_iconst (v := 4) dX10_count_120 (by decide) ?_
        refine A_icmp_ge 148 dX10_count_121 (by decide) (fun c121 => ?_) (fun c121 => ?_)
        · exact absurd c121 (nI_ge (b := 4) (by omega) (by decide))
        · refine A_iload_n dX10_count_124 rfl rfl ?_
          refine A_aload_n dX10_count_125 rfl rfl ?_
          refine A_get dX10_count_126 f_X10_67 HM_at0 rfl ?_
          refine A_iload_n dX10_count_129 rfl rfl ?_
          refine A_ialdK (i := i) dX10_count_130 (HM_at (by decide)) rfl (by omega) (by decide) ?_
          refine A_iconst (v := (-1)) dX10_count_131 (by decide) ?_
          refine A_icmp_ne 139 dX10_count_132 (by decide) (fun c132 => ?_) (fun c132 => ?_)
          · refine A_iconst (v := 1) dX10_count_139 (by decide) ?_
            refine A_iadd dX10_count_140 ?_
            refine A_eqI (y := nI (slF (co 27) (i + 1))) (by rw [slF, if_neg (fun z => c132 ((hSN i hi).mpr z))]; exact nI_1 _) ?_
            refine A_istore_n (lv1 := [_, _, _, _]) dX10_count_141 rfl (Nat.le_of_ble_eq_true rfl) rfl rfl ?_
            refine A_inc 1 (lv1 := [_, _, _, _]) dX10_count_142 rfl (by decide) rfl rfl ?_
            refine A_goto 119 dX10_count_145 (by decide) ?_
            rw [nI_1]
            exact ih (i + 1) (by omega)
          · refine A_iconst (v := 0) dX10_count_135 (by decide) ?_
            refine A_goto 140 dX10_count_136 (by decide) ?_
            refine A_iadd dX10_count_140 ?_
            refine A_eqI (y := nI (slF (co 27) (i + 1))) (by rw [slF, if_pos ((hSN i hi).mp c132)]; exact nI_add _ 0) ?_
            refine A_istore_n (lv1 := [_, _, _, _]) dX10_count_141 rfl (Nat.le_of_ble_eq_true rfl) rfl rfl ?_
            refine A_inc 1 (lv1 := [_, _, _, _]) dX10_count_142 rfl (by decide) rfl rfl ?_
            refine A_goto 119 dX10_count_145 (by decide) ?_
            rw [nI_1]
            exact ih (i + 1) (by omega)
    exact loop 4 0 (by omega)
  refine A_tableOut 150 dX10_count_3 (sw_out10 s3_0 s3_1 s3_2 s3_3 s3_4 s3_5 s3_6 s3_7 s3_8 s3_9) (by decide) ?_
  refine A_iconst (v := (-1)) dX10_count_150 (by decide) ?_
  exact A_iret dX10_count_151 ⟨by rw [countA, if_neg s3_0, if_neg s3_1, if_neg s3_2, if_neg s3_3, if_neg s3_4, if_neg s3_5, if_neg s3_6, if_neg s3_7, if_neg s3_8, if_neg s3_9], rfl⟩ ⟨by decide, by decide⟩

theorem k_end (G : GX) {b : Nat} {c m : CT} {ml : Nat → Nat → Int64} {r : Nat → Option AE} {n : Nat} {v : Int32} (htp : c 1 1 = m 0 5) : MA G 1 yX10_end cX10_end 2 (some .int) 0 0 [.ref b, .int v] (HM b m ml r n) (qI fun x9 h1 => x9 = (endA c v).1 ∧ h1 = HM b (if v < 0 ∨ c 1 1 < v then m else put m 0 5 v) ml r n) := by
  refine MA.of (own := RX10) false [some (.ref b), some (.int v)] (by decide +kernel) rfl (fun h => by cases h) (Nat.le_of_ble_eq_true rfl) rfl (fun X => ?_)
  refine A_iload_n dX10_end_0 rfl rfl ?_
  refine A_i2l dX10_end_1 ?_
  refine A_lconst (v := 0) dX10_end_2 (by decide) ?_
  refine A_aload_n dX10_end_3 rfl rfl ?_
  refine A_get dX10_end_4 f_X10_97 HM_at0 rfl ?_
  refine A_i2l dX10_end_7 ?_
  refine A_callSi dX10_end_8 m_X10_85 cb_X10_in (As := [_, _, _]) rfl (k_in G) rfl ⟨by decide, by decide⟩ (Nat.le_of_ble_eq_true rfl) ⟨by decide, by decide⟩ (fun x8 h8 hq => ?_)
  obtain ⟨rfl, rfl⟩ := hq
  have ei : inL v.toInt64 0 (m 0 5).toInt64 = if v < 0 ∨ c 1 1 < v then 0 else 1 := by
    have e0 : (v.toInt64 < 0) ↔ v < 0 := i64_lt (y := 0)
    simp only [inL, e0, i64_lt, htp]
  refine A_eqI ei ?_
  refine A_if_ne 16 dX10_end_11 (by decide) (fun c11 => ?_) (fun c11 => ?_)
  · refine A_aload_n dX10_end_16 rfl rfl ?_
    refine A_iload_n dX10_end_17 rfl rfl ?_
    refine A_putM0 dX10_end_18 p_X10_97 rfl (Nat.le_of_ble_eq_true rfl) rfl ?_
    refine A_iload_n dX10_end_21 rfl rfl ?_
    exact A_iret dX10_end_22 ⟨by rw [endA, if_neg (fun z => c11 (if_pos z))], by rw [if_neg (fun z => c11 (if_pos z))]⟩ ⟨by decide, by decide⟩
  · refine A_iconst (v := (-1)) dX10_end_14 (by decide) ?_
    exact A_iret dX10_end_15 ⟨by rw [endA, if_pos (by by_cases z : v < 0 ∨ c 1 1 < v; exact z; rw [if_neg z] at c11; exact absurd c11 (by decide))], by rw [if_pos (by by_cases z : v < 0 ∨ c 1 1 < v; exact z; rw [if_neg z] at c11; exact absurd c11 (by decide))]⟩ ⟨by decide, by decide⟩

theorem k_fault (G : GX) {b : Nat} {c m : CT} {ml : Nat → Nat → Int64} {r : Nat → Option AE} {n : Nat} {t : Int32} (hf1 : c 3 3 = m 0 12) (hf2 : c 3 4 = m 0 13) : MA G 0 yX10_fault cX10_fault 2 (some .int) 0 0 [.ref b, .int t] (HM b m ml r n) (qI fun x9 h1 => x9 = faultA c t ∧ h1 = HM b m ml r n) := by
  refine MA.of (own := RX10) false [some (.ref b), some (.int t)] (by decide +kernel) rfl (fun h => by cases h) (Nat.le_of_ble_eq_true rfl) rfl (fun X => ?_)
  refine A_iload_n dX10_fault_0 rfl rfl ?_
  refine A_if_ne 11 dX10_fault_1 (by decide) (fun c1 => ?_) (fun c1 => ?_)
  · refine A_iload_n dX10_fault_11 rfl rfl ?_
    refine A_iconst (v := 1) dX10_fault_12 (by decide) ?_
    refine A_icmp_ne 23 dX10_fault_13 (by decide) (fun c13 => ?_) (fun c13 => ?_)
    · refine A_iconst (v := (-1)) dX10_fault_23 (by decide) ?_
      exact A_iret dX10_fault_24 ⟨by rw [faultA, if_neg c1, if_neg c13], rfl⟩ ⟨by decide, by decide⟩
    · refine A_aload_n dX10_fault_16 rfl rfl ?_
      refine A_get dX10_fault_17 f_X10_27 HM_at0 rfl ?_
      refine A_goto 24 dX10_fault_20 (by decide) ?_
      exact A_iret dX10_fault_24 ⟨by rw [faultA, if_neg c1, if_pos c13]; exact hf2.symm, rfl⟩ ⟨by decide, by decide⟩
  · refine A_aload_n dX10_fault_4 rfl rfl ?_
    refine A_get dX10_fault_5 f_X10_134 HM_at0 rfl ?_
    refine A_goto 24 dX10_fault_8 (by decide) ?_
    exact A_iret dX10_fault_24 ⟨by rw [faultA, if_pos c1]; exact hf1.symm, rfl⟩ ⟨by decide, by decide⟩
