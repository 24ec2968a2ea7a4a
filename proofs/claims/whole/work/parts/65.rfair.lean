/-! THE REFERENCE: fair, enough -/
theorem SPm.to7 {nv nc nf nl : Nat} {y y' m m' : CT} (h : SPm nv nc nf nl y m) (e : ∀ l, l ≤ 15 → y' l = y l) (e2 : ∀ j, 7 ≤ j → j < 157 → (∀ v, v < nv → j ≠ 8 + 5 * v + 1) → m' 1 j = m 1 j) (hb : nv ≤ 6 ∧ nc ≤ 8 ∧ nf ≤ 3 ∧ nl ≤ 8) : SPm nv nc nf nl y' m' := by
  obtain ⟨h1, h2, h3, h4, h5, h6⟩ := h
  refine ⟨fun v hv k hk => ?_, fun v hv k hk => ?_, fun v hv k hk => ?_, fun v hv k hk => ?_, fun v hv => ?_, ?_⟩
  · rw [e 8 (by decide), e2 _ (by omega) (by omega) (fun u hu => by omega)]; exact h1 v hv k hk
  · rw [e 10 (by decide), e2 _ (by omega) (by omega) (fun u hu => by omega)]; exact h2 v hv k hk
  · rw [e 12 (by decide), e2 _ (by omega) (by omega) (fun u hu => by omega)]; exact h3 v hv k hk
  · rw [e 14 (by decide), e2 _ (by omega) (by omega) (fun u hu => by omega)]; exact h4 v hv k hk
  · rw [e 15 (by decide), e2 _ (by omega) (by omega) (fun u hu => by omega)]; exact h5 v hv
  · rw [e 6 (by decide), e2 _ (by omega) (by omega) (fun u hu => by omega)]; exact h6
theorem bit7 {i : Nat} (hi : i < 3) : (7 : Nat).testBit i = true := by
  match i, hi with
  | 0, _ => decide
  | 1, _ => decide
  | 2, _ => decide
/-- one number of the reference's world is another -/
def XM (q : Nat) (m m' : CT) : Prop := (∀ j, j ≠ q → m' 1 j = m 1 j) ∧ (∀ l, l = 2 ∨ l = 3 ∨ l = 4 ∨ 17 ≤ l → m' l = m l) ∧ ∀ j, j = 5 ∨ j = 12 ∨ j = 13 → m' 0 j = m 0 j
theorem XM.rf {q : Nat} {m : CT} : XM q m m := ⟨fun _ _ => rfl, fun _ _ => rfl, fun _ _ => rfl⟩
theorem XM.pu {q : Nat} {m m' : CT} {x : Int32} (h : XM q m m') : XM q m (put m' 1 q x) := ⟨fun j hj => by rw [put_no hj]; exact h.1 j hj, fun l hl => (put_ne (by omega)).trans (h.2.1 l hl), fun j hj => by rw [put_ne (by decide)]; exact h.2.2 j hj⟩
theorem XM.p25 {q : Nat} {m m' : CT} {x : Int32} (h : XM q m m') : XM q m (put m' 0 25 x) := ⟨fun j hj => by rw [put_ne (by decide)]; exact h.1 j hj, fun l hl => (put_ne (by omega)).trans (h.2.1 l hl), fun j hj => by rw [put_no (by omega)]; exact h.2.2 j hj⟩
theorem XM.run {q fl : Nat} {m m' : CT} (h : XM q m m') : XM q m (runM fl m') := by
  have k := runM_R (fl := fl) (m := m')
  exact ⟨fun j hj => by rw [k.w]; exact h.1 j hj, fun l hl => (k.1 l (by omega) (by omega)).trans (h.2.1 l hl), fun j hj => (k.2 j (by omega)).trans (h.2.2 j hj)⟩
theorem XM.back {q : Nat} {m m' : CT} (h : XM q m m') (hl : m' 0 25 = m 0 25) : kM m (put m' 1 q (m 1 q)) := by
  have e : (put m' 1 q (m 1 q)) 1 = m 1 := by
    funext j
    by_cases z : j = q
    · subst z; rw [put_at]
    · rw [put_no z]; exact h.1 j z
  refine ⟨fun l x y => ?_, fun j hj => ?_⟩
  · by_cases z : l = 1
    · subst z; exact e
    · rw [put_ne z]; exact h.2.1 l (by omega)
  · rw [put_ne (by decide)]
    rcases hj with rfl | rfl | rfl | rfl
    · exact h.2.2 5 (by decide)
    · exact h.2.2 12 (by decide)
    · exact h.2.2 13 (by decide)
    · exact hl
theorem XM.im {q : Nat} {m m' : CT} {nv nc nf nl wk : Nat} (h : XM q m m') (hI : IM m nv nc nf nl wk) (hq : ¬ (q = 0 ∨ q = 1 ∨ q = 2 ∨ q = 3 ∨ q = 5 ∨ 38 ≤ q)) : IM m' nv nc nf nl wk := by
  obtain ⟨hv, hv6, hc, hc8, hf, hf3, hl, hl8, hw, hw30, gC, gL⟩ := hI
  unfold IM
  have e := h.1
  refine ⟨(e _ (by omega)).trans hv, hv6, (e _ (by omega)).trans hc, hc8, (e _ (by omega)).trans hf, hf3, (e _ (by omega)).trans hl, hl8, (e _ (by omega)).trans hw, hw30, fun i hi => ?_, fun i hi => ?_⟩
  · rw [e _ (by omega)]; exact gC i hi
  · rw [e _ (by omega), e _ (by omega)]; exact gL i hi
theorem XM.tm {q : Nat} {m m' : CT} {nv nf : Nat} (h : XM q m m') (hT : TM m nv nf) (hq : q < 157) : TM m' nv nf := by
  intro i hi z
  rw [h.1 _ (by omega)] at z ⊢
  exact hT i hi z
theorem wl_sim {nv nc nf nl wk p : Nat} {c m m' : CT} {z : Int32} (h : BL nv nc nf nl wk c m) (E : XM 6 m m') (hp : p ≤ 100) (h6 : m' 1 6 = nI p) (hz : m' 0 25 = z) : SimY nv nc nf nl 7 wk (wlY c (nI p) z) (runM 7 m') ∧ DY nv nc nf nl wk wk (wlY c (nI p) z) := by
  have hI := h.ix
  have hv := hI.nvf.1
  have hf := hI.nvf.2.1
  have hb := h.nb
  have el : ∀ l, l ≠ 28 → wlC c (nI p) z l = beginF c l := fun l hl => by rw [wlC, put_ne hl, put_ne hl]
  have e15 : ∀ l, l ≤ 15 → wlC c (nI p) z l = c l := fun l hl => (el l (by omega)).trans (beginF_l (by omega))
  have hZ := beg_Z (c := c)
  refine beg_run (E.im h.im (by decide)) (by rw [h6, nI_toInt (by omega)]; omega) ⟨hI.to e15, ?_, h.pr.to e15⟩ (h.sp.to7 e15 (fun j h7 h157 _ => E.1 j (by omega)) hb) ?_ ?_ ?_ ?_ ?_ ?_ ?_
  · have := TX.bg hI h.kx; unfold TX at *; rw [el 29 (by decide)]; exact this
  · intro i hi
    rw [el 29 (by decide), beginF_29, tkF, hf, if_pos hi, tnM, if_pos (bit7 (by omega)), E.1 _ (by omega)]
    exact h.tk i hi
  · rw [wlC, put_no (by decide), put_at]; exact h6.symm
  · rw [wlC, put_at]; exact hz.symm
  · intro v hv1
    rw [el 30 (by decide), beg_30, waF, hv, if_pos hv1, E.1 _ (by omega)]
    exact h.wa v hv1
  · exact (waF_W hI h.pr).to (el 30 (by decide)) (el 8 (by decide))
  · intro v hv1
    rw [el 30 (by decide), beg_30, waF, hv, if_neg (by omega)]
  · unfold ZY at hZ ⊢
    rw [el 32 (by decide), el 33 (by decide), el 34 (by decide), el 35 (by decide), el 36 (by decide), el 37 (by decide), el 38 (by decide), el 39 (by decide), el 40 (by decide), el 41 (by decide)]
    obtain ⟨a1, a2, a3, a4, a5, a6, a7, a8, a9, a10, a11, a12, a13, a14⟩ := hZ
    refine ⟨a1, a2, a3, a4, a5, a6, a7, a8, a9, a10, ?_, ?_, ?_, ?_⟩
    all_goals (unfold wlC; rw [put_no (by decide), put_no (by decide)]; assumption)
def hvF (m : CT) (j : Int32) (s : Int32) : Nat → Int32
  | 0 => s
  | i + 1 => hvF m j s i + (if m 1 (38 + 5 * i + 0) = j then m 11 (3 * i + 0) else 0)
theorem hv_sim {nv nc nf nl wk fl : Nat} {y m : CT} (S : SimY nv nc nf nl fl wk y m) (j s : Int32) : ∀ k, k ≤ nc → hvF m j s k = wlS y j s k
  | 0, _ => rfl
  | k + 1, hk => by
    rw [hvF, wlS, hv_sim S j s k (by omega), S.s2 k (by omega) 0 (by decide), S.d8 k (by omega)]
    split
    · rfl
    · rw [Int32.add_zero]
theorem k_haveOf (G : GX) {b : Nat} {m : CT} {ml : Nat → Nat → Int64} {r : Nat → Option AE} {n : Nat} {nv nc nf nl wk : Nat} {j : Nat} (hI : IM m nv nc nf nl wk) (hj : j < nv) : MA G 1 yX10_haveOf cX10_haveOf 4 (some .int) 0 0 [.ref b, .int (nI j)] (HM b m ml r n) (qI fun x9 h1 => x9 = hvF m (nI j) (m 7 j) nc ∧ h1 = HM b m ml r n) := by
  refine MA.of (own := RX10) false [some (.ref b), some (.int (nI j)), none, none] (by decide +kernel) rfl (fun h => by cases h) (Nat.le_of_ble_eq_true rfl) rfl (fun X => ?_)
  obtain ⟨hv, hv6, hc, hc8, hf, hf3, hl, hl8, hw, hw30, gC, gL⟩ := id hI
  have loop : ∀ (k i : Nat) , i + k = nc → WA X G RX10 cX10_haveOf false (some .int) (qI fun x9 h1 => x9 = hvF m (nI j) (m 7 j) nc ∧ h1 = HM b m ml r n) 1 0 0 (HM b m ml r n) 0 0 9 [some (.ref b), some (.int (nI j)), some (.int (hvF m (nI j) (m 7 j) i)), some (.int (nI i))] [] := by
    intro k
    induction k with
    | zero =>
      intro i  hk 
      refine A_iload_n dX10_haveOf_9 rfl rfl ?_
      refine A_aload_n dX10_haveOf_10 rfl rfl ?_
      refine A_get dX10_haveOf_11 f_X10_9 HM_at0 rfl ?_
      refine A_iconst (v := 1) dX10_haveOf_14 (by decide) ?_
      refine A_ialdK (i := 1) dX10_haveOf_15 (HM_at (by decide)) rfl (by omega) (by decide) ?_
      refine A_icmp_ge 52 dX10_haveOf_16 (by decide) (fun c16 => ?_) (fun c16 => ?_)
      · refine A_iload_n dX10_haveOf_52 rfl rfl ?_
        exact A_iret dX10_haveOf_53 ⟨by rw [show nc = i by omega], rfl⟩ ⟨by decide, by decide⟩
      · exact absurd (by rw [hc]; exact nI_le (by omega) (by omega)) c16
    | succ k ih =>
      intro i  hk 
      have hi : i < nc := by omega
      refine A_iload_n dX10_haveOf_9 rfl rfl ?_
      refine A_aload_n dX10_haveOf_10 rfl rfl ?_
      refine A_get dX10_haveOf_11 f_X10_9 HM_at0 rfl ?_
      refine A_iconst (v := 1) dX10_haveOf_14 (by decide) ?_
      refine A_ialdK (i := 1) dX10_haveOf_15 (HM_at (by decide)) rfl (by omega) (by decide) ?_
      refine A_icmp_ge 52 dX10_haveOf_16 (by decide) (fun c16 => ?_) (fun c16 => ?_)
      · exact absurd c16 (by rw [hc]; exact nI_ge (by omega) (by omega))
      · refine A_iload_n dX10_haveOf_19 rfl rfl ?_
        refine A_aload_n dX10_haveOf_20 rfl rfl ?_
        refine A_iload_n dX10_haveOf_21 rfl rfl ?_
        refine A_iconst (v := 0) dX10_haveOf_22 (by decide) ?_
        refine A_callVi dX10_haveOf_23 m_X10_267 cb_X10_ofCrop (As := [_, _]) rfl HM_at0 rfl (k_ofCrop G 0 (by omega) (by decide)) rfl ⟨by decide, by decide⟩ (Nat.le_of_ble_eq_true rfl) ⟨by decide, by decide⟩ (fun x23 h23 hq => ?_)
        obtain ⟨rfl, rfl⟩ := hq
        refine A_iload_n dX10_haveOf_26 rfl rfl ?_
        refine A_icmp_ne 43 dX10_haveOf_27 (by decide) (fun c27 => ?_) (fun c27 => ?_)
        · refine A_iconst (v := 0) dX10_haveOf_43 (by decide) ?_
          refine A_iadd dX10_haveOf_44 ?_
          refine A_eqI (y := hvF m (nI j) (m 7 j) (i + 1)) (by rw [hvF, if_neg c27]) ?_
          refine A_istore_n (lv1 := [_, _, _, _]) dX10_haveOf_45 rfl (Nat.le_of_ble_eq_true rfl) rfl rfl ?_
          refine A_inc 1 (lv1 := [_, _, _, _]) dX10_haveOf_46 rfl (by decide) rfl rfl ?_
          refine A_goto 9 dX10_haveOf_49 (by decide) ?_
          rw [nI_1]
          exact ih (i + 1) (by omega)
        · refine A_aload_n dX10_haveOf_30 rfl rfl ?_
          refine A_get dX10_haveOf_31 f_X10_46 HM_at0 rfl ?_
          refine A_iconst (v := 3) dX10_haveOf_34 (by decide) ?_
          refine A_iload_n dX10_haveOf_35 rfl rfl ?_
          refine A_imul dX10_haveOf_36 ?_
          refine A_iconst (v := 0) dX10_haveOf_37 (by decide) ?_
          refine A_iadd dX10_haveOf_38 ?_
          refine A_ialdK (i := ((3 * i) + 0)) dX10_haveOf_39 (HM_at (by decide)) (ixA (ixU rfl rfl) rfl) (by omega) (by decide) ?_
          refine A_goto 44 dX10_haveOf_40 (by decide) ?_
          refine A_iadd dX10_haveOf_44 ?_
          refine A_eqI (y := hvF m (nI j) (m 7 j) (i + 1)) (by rw [hvF, if_pos c27]) ?_
          refine A_istore_n (lv1 := [_, _, _, _]) dX10_haveOf_45 rfl (Nat.le_of_ble_eq_true rfl) rfl rfl ?_
          refine A_inc 1 (lv1 := [_, _, _, _]) dX10_haveOf_46 rfl (by decide) rfl rfl ?_
          refine A_goto 9 dX10_haveOf_49 (by decide) ?_
          rw [nI_1]
          exact ih (i + 1) (by omega)
  refine A_aload_n dX10_haveOf_0 rfl rfl ?_
  refine A_get dX10_haveOf_1 f_X10_34 HM_at0 rfl ?_
  refine A_iload_n dX10_haveOf_4 rfl rfl ?_
  refine A_ialdK (i := j) dX10_haveOf_5 (HM_at (by decide)) rfl (by omega) (by decide) ?_
  refine A_istore_n (lv1 := [_, _, _, _]) dX10_haveOf_6 rfl (Nat.le_of_ble_eq_true rfl) rfl rfl ?_
  refine A_iconst (v := 0) dX10_haveOf_7 (by decide) ?_
  refine A_istore_n (lv1 := [_, _, _, _]) dX10_haveOf_8 rfl (Nat.le_of_ble_eq_true rfl) rfl rfl ?_
  exact loop nc 0 (by omega)

theorem fair_exit (G : GX) (X : XC) {b : Nat} {m : CT} {ml : Nat → Nat → Int64} {r : Nat → Option AE} {n : Nat} {u1 u2 : Nat} (hu : u1 = 0 ∧ u2 = 0) {j i : Nat} {f A : Int32} {m' : CT} (E : XM 6 m m') (hl : m' 0 25 = m 0 25) (hf : f = A) : WA X G RX10 cX10_fair false (some .int) (qI fun x9 h1 => x9 = A ∧ ∃ m1 ml1, h1 = HM b m1 ml1 r n ∧ KM m ml m1 ml1) 5 0 0 (HM b m' ml r n) u1 u2 93 [some (.ref b), some (.int (nI j)), some (.int (m 1 6)), some (.int (f)), some (.int (nI (i))), none] [] := by
  obtain ⟨rfl, rfl⟩ := hu
  refine A_aload_n dX10_fair_93 rfl rfl ?_
  refine A_get dX10_fair_94 f_X10_9 HM_at0 rfl ?_
  refine A_bipush (v := 6) dX10_fair_97 (by decide) ?_
  refine A_iload_n dX10_fair_99 rfl rfl ?_
  refine A_iastMK (i := 6) dX10_fair_100 (by decide) (fun _ => rfl) rfl (by omega) (by decide) ?_
  refine A_iload_n dX10_fair_101 rfl rfl ?_
  exact A_iret dX10_fair_102 ⟨hf, _, _, rfl, E.back hl, rfl⟩ ⟨by decide, by decide⟩
theorem hvF_c {m m' : CT} {j s : Int32} (e : m' 1 = m 1) (e2 : m' 11 = m 11) : ∀ k, hvF m' j s k = hvF m j s k
  | 0 => rfl
  | k + 1 => by rw [hvF, hvF, hvF_c e e2 k, e, e2]
theorem fair_found (G : GX) (X : XC) {b : Nat} {m : CT} {ml : Nat → Nat → Int64} {r : Nat → Option AE} {n : Nat} {u1 u2 : Nat} (hu : u1 = 0 ∧ u2 = 0) {j i q : Nat} {A : Int32} {m' : CT} (E : XM 6 m m') (hl : m' 0 25 = m 0 25) (hi : i ≤ 101) (hq : q ≤ 100) (hA : nI q = A) : WA X G RX10 cX10_fair false (some .int) (qI fun x9 h1 => x9 = A ∧ ∃ m1 ml1, h1 = HM b m1 ml1 r n ∧ KM m ml m1 ml1) 5 0 0 (HM b m' ml r n) u1 u2 24 [some (.ref b), some (.int (nI j)), some (.int (m 1 6)), some (.int (nI q)), some (.int (nI (i))), none] [] := by
  obtain ⟨rfl, rfl⟩ := hu
  refine A_iload dX10_fair_24 rfl ?_
  refine A_bipush (v := 100) dX10_fair_26 (by decide) ?_
  refine A_icmp_gt 93 dX10_fair_28 (by decide) (fun c28 => ?_) (fun c28 => ?_)
  · exact fair_exit G X ⟨rfl, rfl⟩ E hl hA
  · refine A_iload_n dX10_fair_31 rfl rfl ?_
    refine A_iconst (v := (-1)) dX10_fair_32 (by decide) ?_
    refine A_icmp_ne 93 dX10_fair_33 (by decide) (fun c33 => ?_) (fun c33 => ?_)
    · exact fair_exit G X ⟨rfl, rfl⟩ E hl hA
    · exact absurd c33 (fun z => by have e := congrArg Int32.toInt z; rw [nI_toInt (by omega)] at e; have : (-1 : Int32).toInt = -1 := rfl; omega)

theorem fair_loop (G : GX) (X : XC) {b : Nat} {c m : CT} {ml : Nat → Nat → Int64} {r : Nat → Option AE} {n : Nat} {nv nc nf nl wk : Nat} {u1 u2 : Nat} (hu : u1 = 0 ∧ u2 = 0) (h : BL nv nc nf nl wk c m) {j : Nat} (hj : j < nv) : ∀ (k i : Nat) (m' : CT), i + k = 101 → XM 6 m m' → m' 0 25 = m 0 25 → WA X G RX10 cX10_fair false (some .int) (qI fun x9 h1 => x9 = enF (faP c nc j) i k ∧ ∃ m1 ml1, h1 = HM b m1 ml1 r n ∧ KM m ml m1 ml1) 5 0 0 (HM b m' ml r n) u1 u2 24 [some (.ref b), some (.int (nI j)), some (.int (m 1 6)), some (.int (-1)), some (.int (nI (i))), none] [] := by
  obtain ⟨rfl, rfl⟩ := hu
  have hb := h.nb
  intro k
  induction k with
  | zero =>
    intro i m' hk E hl
    refine A_iload dX10_fair_24 rfl ?_
    refine A_bipush (v := 100) dX10_fair_26 (by decide) ?_
    refine A_icmp_gt 93 dX10_fair_28 (by decide) (fun c28 => ?_) (fun c28 => ?_)
    · exact fair_exit G X ⟨rfl, rfl⟩ E hl rfl
    · exact absurd (nI_lt (a := 100) (show 100 < i by omega) (by omega)) c28
  | succ k ih =>
    intro i m' hk E hl
    have E1 : XM 6 m (put m' 1 6 (nI i)) := E.pu
    have l1 : put m' 1 6 (nI i) 0 25 = -1 := by rw [put_ne (by decide), hl]; exact h.ln
    obtain ⟨S1, D1⟩ := wl_sim h E1 (by omega) put_at l1
    have M1 := E1.im h.im (by decide)
    have T1 := E1.tm h.tm (by decide)
    have R1 := E1.run (fl := 7)
    have R25 : runM 7 (put m' 1 6 (nI i)) 0 25 = -1 := (runM_R.2 25 (by decide)).trans l1
    have R6 : runM 7 (put m' 1 6 (nI i)) 1 6 = nI i := by rw [runM_R.w, put_at]
    have H1 : hvF (runM 7 (put m' 1 6 (nI i))) (nI j) (runM 7 (put m' 1 6 (nI i)) 7 j) nc = wlA c nc j (nI i) (-1) := by rw [hv_sim S1 _ _ nc (Nat.le_refl _), wlA, S1.d1 j hj]
    refine A_iload dX10_fair_24 rfl ?_
    refine A_bipush (v := 100) dX10_fair_26 (by decide) ?_
    refine A_icmp_gt 93 dX10_fair_28 (by decide) (fun c28 => ?_) (fun c28 => ?_)
    · exact absurd c28 (nI_nlt (b := i) (a := 100) (by omega) (by omega))
    · refine A_iload_n dX10_fair_31 rfl rfl ?_
      refine A_iconst (v := (-1)) dX10_fair_32 (by decide) ?_
      refine A_icmp_ne 93 dX10_fair_33 (by decide) (fun c33 => ?_) (fun c33 => ?_)
      · exact absurd rfl c33
      · refine A_aload_n dX10_fair_36 rfl rfl ?_
        refine A_get dX10_fair_37 f_X10_9 HM_at0 rfl ?_
        refine A_bipush (v := 6) dX10_fair_40 (by decide) ?_
        refine A_iload dX10_fair_42 rfl ?_
        refine A_iastMK (i := 6) dX10_fair_44 (by decide) (fun _ => rfl) rfl (by omega) (by decide) ?_
        refine A_aload_n dX10_fair_45 rfl rfl ?_
        refine A_callVv dX10_fair_46 m_X10_317 cb_X10_year (As := []) rfl HM_at0 rfl (k_year G M1 T1) rfl ⟨by decide, by decide⟩ (Nat.le_of_ble_eq_true rfl) ⟨by decide, by decide⟩ (fun h46 hq => ?_)
        obtain rfl := hq
        obtain ⟨y1, ey1⟩ : ∃ y, runM 7 (put m' 1 6 (nI i)) = y := ⟨_, rfl⟩
        rw [ey1] at S1 R1 R25 R6 H1 ⊢
        have E2 : XM 6 m (put y1 0 25 (nI j)) := R1.p25
        obtain ⟨S2, D2⟩ := wl_sim (p := i) (z := nI j) h E2 (by omega) ((congrFun (put_ne (by decide)) 6).trans R6) put_at
        have M2 := E2.im h.im (by decide)
        have T2 := E2.tm h.tm (by decide)
        have R2 := E2.run (fl := 7)
        have H2 : hvF (runM 7 (put y1 0 25 (nI j))) (nI j) (runM 7 (put y1 0 25 (nI j)) 7 j) nc = wlA c nc j (nI i) (nI j) := by rw [hv_sim S2 _ _ nc (Nat.le_refl _), wlA, S2.d1 j hj]
        refine A_aload_n dX10_fair_49 rfl rfl ?_
        refine A_iload_n dX10_fair_50 rfl rfl ?_
        refine A_callVi dX10_fair_51 m_X10_397 cb_X10_haveOf (As := [_]) rfl HM_at0 rfl (k_haveOf G (R1.im h.im (by decide)) hj) rfl ⟨by decide, by decide⟩ (Nat.le_of_ble_eq_true rfl) ⟨by decide, by decide⟩ (fun x51 h51 hq => ?_)
        obtain ⟨rfl, rfl⟩ := hq
        refine A_eqI H1 ?_
        refine A_istore (lv1 := [_, _, _, _, _, _]) dX10_fair_54 (Nat.le_of_ble_eq_true rfl) rfl rfl ?_
        refine A_aload_n dX10_fair_56 rfl rfl ?_
        refine A_iload_n dX10_fair_57 rfl rfl ?_
        refine A_putM0 dX10_fair_58 p_X10_49 rfl (Nat.le_of_ble_eq_true rfl) rfl ?_
        refine A_aload_n dX10_fair_61 rfl rfl ?_
        refine A_callVv dX10_fair_62 m_X10_317 cb_X10_year (As := []) rfl HM_at0 rfl (k_year G M2 T2) rfl ⟨by decide, by decide⟩ (Nat.le_of_ble_eq_true rfl) ⟨by decide, by decide⟩ (fun h62 hq => ?_)
        obtain rfl := hq
        obtain ⟨y2, ey2⟩ : ∃ y, runM 7 (put y1 0 25 (nI j)) = y := ⟨_, rfl⟩
        rw [ey2] at S2 R2 H2 ⊢
        have H3 : hvF (put y2 0 25 (-1)) (nI j) ((put y2 0 25 (-1)) 7 j) nc = wlA c nc j (nI i) (nI j) := by rw [← H2, put_ne (by decide)]; exact hvF_c (put_ne (by decide)) (put_ne (by decide)) nc
        have E3 : XM 6 m (put y2 0 25 (-1)) := R2.p25
        have l3 : (put y2 0 25 (-1)) 0 25 = m 0 25 := put_at.trans h.ln.symm
        refine A_aload_n dX10_fair_65 rfl rfl ?_
        refine A_iconst (v := (-1)) dX10_fair_66 (by decide) ?_
        refine A_putM0 dX10_fair_67 p_X10_49 rfl (Nat.le_of_ble_eq_true rfl) rfl ?_
        refine A_iload dX10_fair_70 rfl ?_
        refine A_aload_n dX10_fair_72 rfl rfl ?_
        refine A_iload_n dX10_fair_73 rfl rfl ?_
        refine A_callVi dX10_fair_74 m_X10_397 cb_X10_haveOf (As := [_]) rfl HM_at0 rfl (k_haveOf G (E3.im h.im (by decide)) hj) rfl ⟨by decide, by decide⟩ (Nat.le_of_ble_eq_true rfl) ⟨by decide, by decide⟩ (fun x74 h74 hq => ?_)
        obtain ⟨rfl, rfl⟩ := hq
        refine A_eqI H3 ?_
        refine A_icmp_lt 85 dX10_fair_77 (by decide) (fun c77 => ?_) (fun c77 => ?_)
        · refine A_iconst (v := (-1)) dX10_fair_85 (by decide) ?_
          refine A_istore_n (lv1 := [_, _, _, _, _, _]) dX10_fair_86 rfl (Nat.le_of_ble_eq_true rfl) rfl rfl ?_
          refine A_inc 1 (lv1 := [_, _, _, _, _, _]) dX10_fair_87 rfl (by decide) rfl rfl ?_
          refine A_goto 24 dX10_fair_90 (by decide) ?_
          refine A_fg 5 (lv1 := [_, _, _, _, _, _]) rfl ?_
          rw [nI_1]
          rw [enF, if_neg (by rw [faP, decide_eq_true c77]; decide)]
          exact ih (i + 1) _ (by omega) E3 l3
        · refine A_iload dX10_fair_80 rfl ?_
          refine A_goto 86 dX10_fair_82 (by decide) ?_
          refine A_istore_n (lv1 := [_, _, _, _, _, _]) dX10_fair_86 rfl (Nat.le_of_ble_eq_true rfl) rfl rfl ?_
          refine A_inc 1 (lv1 := [_, _, _, _, _, _]) dX10_fair_87 rfl (by decide) rfl rfl ?_
          refine A_goto 24 dX10_fair_90 (by decide) ?_
          refine A_fg 5 (lv1 := [_, _, _, _, _, _]) rfl ?_
          rw [nI_1]
          rw [enF, if_pos (by rw [faP, decide_eq_false c77]; rfl)]
          exact fair_found G X ⟨rfl, rfl⟩ E3 l3 (by omega) (by omega) rfl

theorem k_fair (G : GX) {b : Nat} {c m : CT} {ml : Nat → Nat → Int64} {r : Nat → Option AE} {n : Nat} {nv nc nf nl wk : Nat} {v : Int32} (h : BL nv nc nf nl wk c m) : MA G 5 yX10_fair cX10_fair 6 (some .int) 0 0 [.ref b, .int v] (HM b m ml r n) (qI fun x9 h1 => x9 = fairA c nc v ∧ ∃ m1 ml1, h1 = HM b m1 ml1 r n ∧ KM m ml m1 ml1) := by
  refine MA.of (own := RX10) false [some (.ref b), some (.int v), none, none, none, none] (by decide +kernel) rfl (fun h => by cases h) (Nat.le_of_ble_eq_true rfl) rfl (fun X => ?_)
  have hX := h.ix
  obtain ⟨xv, xv6, xc, xc8, xf, xf3, xl, xl8, xw, xw30, xC, xL⟩ := id hX
  have hI := h.im
  obtain ⟨hv, hv6, hc, hc8, hf, hf3, hl, hl8, hw, hw30, gC, gL⟩ := id hI
  have hT := h.tm
  refine A_aload_n dX10_fair_0 rfl rfl ?_
  refine A_iload_n dX10_fair_1 rfl rfl ?_
  refine A_callVi dX10_fair_2 m_X10_93 cb_X10_isVillage (As := [_]) rfl HM_at0 rfl (k_isVillage G hv (by omega)) rfl ⟨by decide, by decide⟩ (Nat.le_of_ble_eq_true rfl) ⟨by decide, by decide⟩ (fun x2 h2 hq => ?_)
  obtain ⟨rfl, rfl⟩ := hq
  refine A_if_ne 11 dX10_fair_5 (by decide) (fun c5 => ?_) (fun c5 => ?_)
  · obtain ⟨j, hj, rfl⟩ := inI_of rfl c5 (by omega)
    refine A_aload_n dX10_fair_11 rfl rfl ?_
    refine A_get dX10_fair_12 f_X10_9 HM_at0 rfl ?_
    refine A_bipush (v := 6) dX10_fair_15 (by decide) ?_
    refine A_ialdK (i := 6) dX10_fair_17 (HM_at (by decide)) rfl (by omega) (by decide) ?_
    refine A_istore_n (lv1 := [_, _, _, _, _, _]) dX10_fair_18 rfl (Nat.le_of_ble_eq_true rfl) rfl rfl ?_
    refine A_iconst (v := (-1)) dX10_fair_19 (by decide) ?_
    refine A_istore_n (lv1 := [_, _, _, _, _, _]) dX10_fair_20 rfl (Nat.le_of_ble_eq_true rfl) rfl rfl ?_
    refine A_iconst (v := 0) dX10_fair_21 (by decide) ?_
    refine A_istore (lv1 := [_, _, _, _, _, _]) dX10_fair_22 (Nat.le_of_ble_eq_true rfl) rfl rfl ?_
    have e := fair_loop G X (b := b) (ml := ml) (r := r) (n := n) ⟨rfl, rfl⟩ h hj 101 0 m (by omega) XM.rf rfl
    rw [show enF (faP c nc j) 0 101 = fairA c nc (nI j) by rw [fairA, xv, if_neg c5, tcl_nI (by omega)]] at e
    exact e
  · refine A_bipush (v := (-2)) dX10_fair_8 (by decide) ?_
    exact A_iret dX10_fair_10 ⟨by rw [fairA, xv]; exact (if_pos (by assumption)).symm, ⟨_, _, rfl, KM.rf⟩⟩ ⟨by decide, by decide⟩
