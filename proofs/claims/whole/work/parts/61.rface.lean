/-! THE REFERENCE'S FACE answers as the class does: the YEAR by TAKERS as they are -/
def kM (m m1 : CT) : Prop := (∀ l, l ≠ 0 → l < 5 ∨ 17 ≤ l → m1 l = m l) ∧ ∀ j, j = 5 ∨ j = 12 ∨ j = 13 ∨ j = 25 → m1 0 j = m 0 j
theorem kM.rf {m : CT} : kM m m := ⟨fun _ _ _ => rfl, fun _ _ => rfl⟩
theorem kM.tr {a b c : CT} (h : kM a b) (h2 : kM b c) : kM a c := ⟨fun l x y => (h2.1 l x y).trans (h.1 l x y), fun j x => (h2.2 j x).trans (h.2 j x)⟩
def KM (m : CT) (ml : Nat → Nat → Int64) (m1 : CT) (ml1 : Nat → Nat → Int64) : Prop := kM m m1 ∧ ml1 19 = ml 19
theorem KM.rf {m : CT} {ml : Nat → Nat → Int64} : KM m ml m ml := ⟨kM.rf, rfl⟩
theorem sameM.k {m m1 : CT} (h : sameM m m1) : kM m m1 := ⟨fun l x y => h.1 l x (by omega), fun j x => h.2 j (by omega)⟩
theorem begM_k {fl : Nat} {m : CT} : kM m (begM fl m) := by
  refine ⟨fun l x y => ?_, fun j x => ?_⟩
  · unfold begM
    rw [put_ne x, put_ne x, put_ne x, put_ne x, st1_ne (by omega), st1_ne (by omega), st1_ne (by omega), st1_ne (by omega), put_ne x]
  · unfold begM
    rw [put_no (by omega), put_no (by omega), put_no (by omega), put_no (by omega), st1_ne (by decide), st1_ne (by decide), st1_ne (by decide), st1_ne (by decide), put_no (by omega)]
theorem runM_k {fl : Nat} {m : CT} : kM m (runM fl m) := begM_k.tr (sameM.k (forR_s (fun _ _ => weekM_s)))
theorem BL.to {nv nc nf nl wk : Nat} {c m c1 m1 : CT} (h : BL nv nc nf nl wk c m) (e : ∀ l, l ≤ 15 → c1 l = c l) (e2 : kM m m1) : BL nv nc nf nl wk c1 m1 := by
  have e1 := e2.1 1 (by decide) (by decide)
  refine ⟨h.ix.to e, ?_, h.pr.to e, h.im.to e1, h.sp.to e (fun j _ _ => by rw [e1]) h.nb, ?_, ?_, ?_, ?_, ?_, ?_, ?_⟩
  · have := h.kx; unfold KX tkn at *; rw [e 12 (by decide)]; exact this
  · rw [e 8 (by decide), e1]; exact h.wa
  · rw [e 12 (by decide), e1]; exact h.tk
  · rw [e 6 (by decide), e1]; exact h.mo
  · rw [e 6 (by decide)]; exact h.2.2.2.2.2.2.2.2.1
  · rw [e2.2 25 (by decide)]; exact h.ln
  · rw [e 6 (by decide), e1]; exact h.pl
  · rw [e 6 (by decide), e1]; exact h.li
theorem acc3 {f : Nat → Int32} {g w p : Int32} {a q : Nat} (h0 : g = f (a + 0)) (h1 : w = f (a + 1)) (h2 : p = f (a + 2)) (hq : q < 3) : f (a + q) = accI g w p (nI q) := by
  match q, hq with
  | 0, _ => exact h0.symm
  | 1, _ => exact h1.symm
  | 2, _ => exact h2.symm
theorem inL_n {x : Int32} {hi : Int64} (k : Nat) (hh : hi = (nI k).toInt64) (hk : k + 1 < 2 ^ 31) : inL x.toInt64 0 hi = inI x (nI (k + 1)) := inL_c hh hk
theorem pl_i {nv nc nf nl wk : Nat} {c m : CT} (h : BL nv nc nf nl wk c m) : (if 0 < m 1 5 then (1 : Int32) else 0) = if 0 < c 6 5 then 1 else 0 := by
  by_cases z : 0 < c 6 5
  · rw [if_pos z, if_pos (h.pl.mp z)]
  · rw [if_neg z, if_neg (fun q => z (h.pl.mpr q))]
theorem BL_c8 {nv nc nf nl wk j k : Nat} {c m : CT} (h : BL nv nc nf nl wk c m) (hj : j < nv) (hk : k < 5) : c 8 (5 * j + k) = m 1 (8 + 5 * j + k) := by
  by_cases e : k = 1
  · subst e; exact h.wa j hj
  · exact h.sp.1 j hj k ⟨hk, e⟩
theorem k_village (G : GX) {b : Nat} {c m : CT} {ml : Nat → Nat → Int64} {r : Nat → Option AE} {n : Nat} {nv nc nf nl wk : Nat} {v t : Int32} (h : BL nv nc nf nl wk c m) : MA G 2 yX10_village cX10_village 3 (some .int) 0 0 [.ref b, .int v, .int t] (HM b m ml r n) (qI fun x9 h1 => x9 = villageA c v t ∧ h1 = HM b m ml r n) := by
  refine MA.of (own := RX10) false [some (.ref b), some (.int v), some (.int t)] (by decide +kernel) rfl (fun h => by cases h) (Nat.le_of_ble_eq_true rfl) rfl (fun X => ?_)
  have hX := h.ix
  obtain ⟨xv, xv6, xc, xc8, xf, xf3, xl, xl8, xw, xw30, xC, xL⟩ := id hX
  have hI := h.im
  obtain ⟨hv, hv6, hc, hc8, hf, hf3, hl, hl8, hw, hw30, gC, gL⟩ := id hI
  have hT := h.tm
  refine A_aload_n dX10_village_0 rfl rfl ?_
  refine A_iload_n dX10_village_1 rfl rfl ?_
  refine A_callVi dX10_village_2 m_X10_93 cb_X10_isVillage (As := [_]) rfl HM_at0 rfl (k_isVillage G hv (by omega)) rfl ⟨by decide, by decide⟩ (Nat.le_of_ble_eq_true rfl) ⟨by decide, by decide⟩ (fun x2 h2 hq => ?_)
  obtain ⟨rfl, rfl⟩ := hq
  refine A_if_eq 29 dX10_village_5 (by decide) (fun c5 => ?_) (fun c5 => ?_)
  · refine A_bipush (v := (-2)) dX10_village_29 (by decide) ?_
    exact A_iret dX10_village_31 ⟨by rw [villageA, xv]; exact (if_pos (by first | exact Or.inl (by assumption) | exact Or.inr (by assumption))).symm, rfl⟩ ⟨by decide, by decide⟩
  · refine A_iload_n dX10_village_8 rfl rfl ?_
    refine A_i2l dX10_village_9 ?_
    refine A_lconst (v := 0) dX10_village_10 (by decide) ?_
    refine A_ldc2 dX10_village_11 w_1423 ?_
    refine A_callSi dX10_village_14 m_X10_85 cb_X10_in (As := [_, _, _]) rfl (k_in G) rfl ⟨by decide, by decide⟩ (Nat.le_of_ble_eq_true rfl) ⟨by decide, by decide⟩ (fun x14 h14 hq => ?_)
    obtain ⟨rfl, rfl⟩ := hq
    refine A_eqI (inL_n 4 (by decide) (by decide)) ?_
    refine A_if_eq 29 dX10_village_17 (by decide) (fun c17 => ?_) (fun c17 => ?_)
    · refine A_bipush (v := (-2)) dX10_village_29 (by decide) ?_
      exact A_iret dX10_village_31 ⟨by rw [villageA, xv]; exact (if_pos (by first | exact Or.inl (by assumption) | exact Or.inr (by assumption))).symm, rfl⟩ ⟨by decide, by decide⟩
    · obtain ⟨j, hj, rfl⟩ := inI_of rfl c5 (by omega)
      obtain ⟨k, hk, rfl⟩ := inI_of rfl c17 (by decide)
      refine A_aload_n dX10_village_20 rfl rfl ?_
      refine A_iload_n dX10_village_21 rfl rfl ?_
      refine A_iload_n dX10_village_22 rfl rfl ?_
      refine A_callVi dX10_village_23 m_X10_241 cb_X10_of (As := [_, _]) rfl HM_at0 rfl (k_of G k (by omega) hk) rfl ⟨by decide, by decide⟩ (Nat.le_of_ble_eq_true rfl) ⟨by decide, by decide⟩ (fun x23 h23 hq => ?_)
      obtain ⟨rfl, rfl⟩ := hq
      refine A_goto 31 dX10_village_26 (by decide) ?_
      exact A_iret dX10_village_31 ⟨by rw [villageA, xv, if_neg (fun z => z.elim c5 (fun z => c17 z)), tcl_nI (by omega), tcl_nI (by omega)]; first | exact ((BL_c8 h hj hk).symm) | rfl, rfl⟩ ⟨by decide, by decide⟩

theorem k_water (G : GX) {b : Nat} {c m : CT} {ml : Nat → Nat → Int64} {r : Nat → Option AE} {n : Nat} {nv nc nf nl wk : Nat} {v w : Int32} (h : BL nv nc nf nl wk c m) : MA G 5 yX10_water cX10_water 3 (some .int) 0 0 [.ref b, .int v, .int w] (HM b m ml r n) (qI fun x9 h1 => x9 = waterA c v w ∧ ∃ m1 ml1, h1 = HM b m1 ml1 r n ∧ KM m ml m1 ml1) := by
  refine MA.of (own := RX10) false [some (.ref b), some (.int v), some (.int w)] (by decide +kernel) rfl (fun h => by cases h) (Nat.le_of_ble_eq_true rfl) rfl (fun X => ?_)
  have hX := h.ix
  obtain ⟨xv, xv6, xc, xc8, xf, xf3, xl, xl8, xw, xw30, xC, xL⟩ := id hX
  have hI := h.im
  obtain ⟨hv, hv6, hc, hc8, hf, hf3, hl, hl8, hw, hw30, gC, gL⟩ := id hI
  have hT := h.tm
  refine A_aload_n dX10_water_0 rfl rfl ?_
  refine A_iload_n dX10_water_1 rfl rfl ?_
  refine A_callVi dX10_water_2 m_X10_93 cb_X10_isVillage (As := [_]) rfl HM_at0 rfl (k_isVillage G hv (by omega)) rfl ⟨by decide, by decide⟩ (Nat.le_of_ble_eq_true rfl) ⟨by decide, by decide⟩ (fun x2 h2 hq => ?_)
  obtain ⟨rfl, rfl⟩ := hq
  refine A_if_eq 16 dX10_water_5 (by decide) (fun c5 => ?_) (fun c5 => ?_)
  · refine A_bipush (v := (-2)) dX10_water_16 (by decide) ?_
    exact A_iret dX10_water_18 ⟨by rw [waterA, xv, xw]; exact (if_pos (by first | exact Or.inl (by assumption) | exact Or.inr (by assumption))).symm, ⟨_, _, rfl, KM.rf⟩⟩ ⟨by decide, by decide⟩
  · refine A_aload_n dX10_water_8 rfl rfl ?_
    refine A_iload_n dX10_water_9 rfl rfl ?_
    refine A_callVi dX10_water_10 m_X10_314 cb_X10_isWeek (As := [_]) rfl HM_at0 rfl (k_isWeek G hw (by omega)) rfl ⟨by decide, by decide⟩ (Nat.le_of_ble_eq_true rfl) ⟨by decide, by decide⟩ (fun x10 h10 hq => ?_)
    obtain ⟨rfl, rfl⟩ := hq
    refine A_if_ne 19 dX10_water_13 (by decide) (fun c13 => ?_) (fun c13 => ?_)
    · obtain ⟨j, hj, rfl⟩ := inI_of rfl c5 (by omega)
      obtain ⟨k, hk, rfl⟩ := inI_of rfl c13 (by omega)
      refine A_aload_n dX10_water_19 rfl rfl ?_
      refine A_callVv dX10_water_20 m_X10_317 cb_X10_year (As := []) rfl HM_at0 rfl (k_year G hI hT) rfl ⟨by decide, by decide⟩ (Nat.le_of_ble_eq_true rfl) ⟨by decide, by decide⟩ (fun h20 hq => ?_)
      obtain rfl := hq
      obtain ⟨S, D⟩ := yr_sim h
      refine A_aload_n dX10_water_23 rfl rfl ?_
      refine A_get dX10_water_24 f_X10_37 HM_at0 rfl ?_
      refine A_bipush (v := 30) dX10_water_27 (by decide) ?_
      refine A_iload_n dX10_water_29 rfl rfl ?_
      refine A_imul dX10_water_30 ?_
      refine A_iload_n dX10_water_31 rfl rfl ?_
      refine A_iadd dX10_water_32 ?_
      refine A_ialdK (i := ((30 * j) + k)) dX10_water_33 (HM_at (by decide)) (ixA (ixU rfl rfl) rfl) (by omega) (by decide) ?_
      exact A_iret dX10_water_34 ⟨by rw [waterA, xv, xw, if_neg (fun z => z.elim c5 c13), tcl_nI (by omega), tcl_nI (by omega)]; exact (S.f0 j hj k hk).symm, ⟨_, _, rfl, runM_k, rfl⟩⟩ ⟨by decide, by decide⟩
    · refine A_bipush (v := (-2)) dX10_water_16 (by decide) ?_
      exact A_iret dX10_water_18 ⟨by rw [waterA, xv, xw]; exact (if_pos (by first | exact Or.inl (by assumption) | exact Or.inr (by assumption))).symm, ⟨_, _, rfl, KM.rf⟩⟩ ⟨by decide, by decide⟩

theorem acc_out {g w p t : Int32} (h : inI t (nI 4) = 0) : accI g w p t = -2 := by
  have hn : ∀ k : Nat, k < 4 → ¬ t = nI k := fun k hk e => by
    subst e
    rw [inI, if_neg (fun z => z.elim (nI_pos (by omega)) (nI_ge hk (by decide)))] at h
    exact absurd h (by decide)
  rw [accI, if_neg (show ¬ t = 0 from hn 0 (by decide)), if_neg (show ¬ t = 1 from hn 1 (by decide)), if_neg (show ¬ t = 2 from hn 2 (by decide)), if_neg (show ¬ t = 3 from hn 3 (by decide))]
theorem in_out {t : Int32} {N : Nat} (h : inI t (nI N) = 0) (hN : N < 2 ^ 31) (k : Nat) (hk : k < N) : ¬ t = nI k := fun e => by
  subst e
  rw [inI, if_neg (fun z => z.elim (nI_pos (by omega)) (nI_ge hk hN))] at h
  exact absurd h (by decide)
theorem k_flood (G : GX) {b : Nat} {c m : CT} {ml : Nat → Nat → Int64} {r : Nat → Option AE} {n : Nat} {nv nc nf nl wk : Nat} {v t : Int32} (h : BL nv nc nf nl wk c m) : MA G 5 yX10_flood cX10_flood 3 (some .int) 0 0 [.ref b, .int v, .int t] (HM b m ml r n) (qI fun x9 h1 => x9 = floodA c v t ∧ ∃ m1 ml1, h1 = HM b m1 ml1 r n ∧ KM m ml m1 ml1) := by
  refine MA.of (own := RX10) false [some (.ref b), some (.int v), some (.int t)] (by decide +kernel) rfl (fun h => by cases h) (Nat.le_of_ble_eq_true rfl) rfl (fun X => ?_)
  have hX := h.ix
  obtain ⟨xv, xv6, xc, xc8, xf, xf3, xl, xl8, xw, xw30, xC, xL⟩ := id hX
  have hI := h.im
  obtain ⟨hv, hv6, hc, hc8, hf, hf3, hl, hl8, hw, hw30, gC, gL⟩ := id hI
  have hT := h.tm
  refine A_aload_n dX10_flood_0 rfl rfl ?_
  refine A_iload_n dX10_flood_1 rfl rfl ?_
  refine A_callVi dX10_flood_2 m_X10_311 cb_X10_isFlood (As := [_]) rfl HM_at0 rfl (k_isFlood G hf (by omega)) rfl ⟨by decide, by decide⟩ (Nat.le_of_ble_eq_true rfl) ⟨by decide, by decide⟩ (fun x2 h2 hq => ?_)
  obtain ⟨rfl, rfl⟩ := hq
  refine A_if_eq 20 dX10_flood_5 (by decide) (fun c5 => ?_) (fun c5 => ?_)
  · refine A_bipush (v := (-2)) dX10_flood_20 (by decide) ?_
    exact A_iret dX10_flood_22 ⟨by rw [floodA, xf]; first | exact (if_pos (by assumption)).symm | (split; rfl; exact (acc_out (by assumption)).symm), ⟨_, _, rfl, KM.rf⟩⟩ ⟨by decide, by decide⟩
  · refine A_iload_n dX10_flood_8 rfl rfl ?_
    refine A_i2l dX10_flood_9 ?_
    refine A_lconst (v := 0) dX10_flood_10 (by decide) ?_
    refine A_ldc2 dX10_flood_11 w_1504 ?_
    refine A_callSi dX10_flood_14 m_X10_85 cb_X10_in (As := [_, _, _]) rfl (k_in G) rfl ⟨by decide, by decide⟩ (Nat.le_of_ble_eq_true rfl) ⟨by decide, by decide⟩ (fun x14 h14 hq => ?_)
    obtain ⟨rfl, rfl⟩ := hq
    refine A_eqI (inL_n 3 (by decide) (by decide)) ?_
    refine A_if_ne 23 dX10_flood_17 (by decide) (fun c17 => ?_) (fun c17 => ?_)
    · obtain ⟨j, hj, rfl⟩ := inI_of rfl c5 (by omega)
      obtain ⟨q, hq3, rfl⟩ := inI_of rfl c17 (by decide)
      refine A_aload_n dX10_flood_23 rfl rfl ?_
      refine A_callVv dX10_flood_24 m_X10_317 cb_X10_year (As := []) rfl HM_at0 rfl (k_year G hI hT) rfl ⟨by decide, by decide⟩ (Nat.le_of_ble_eq_true rfl) ⟨by decide, by decide⟩ (fun h24 hq => ?_)
      obtain rfl := hq
      obtain ⟨S, D⟩ := yr_sim h
      refine A_iload_n dX10_flood_27 rfl rfl ?_
      refine A_iconst (v := 3) dX10_flood_28 (by decide) ?_
      refine A_icmp_ne 40 dX10_flood_29 (by decide) (fun c29 => ?_) (fun c29 => ?_)
      · have hq9 : q < 3 := by rcases Nat.lt_or_ge q 3 with z | z; exact z; exact absurd (by rw [show q = 3 by omega]; rfl) c29
        refine A_aload_n dX10_flood_40 rfl rfl ?_
        refine A_get dX10_flood_41 f_X10_40 HM_at0 rfl ?_
        refine A_iconst (v := 3) dX10_flood_44 (by decide) ?_
        refine A_iload_n dX10_flood_45 rfl rfl ?_
        refine A_imul dX10_flood_46 ?_
        refine A_iload_n dX10_flood_47 rfl rfl ?_
        refine A_iadd dX10_flood_48 ?_
        refine A_ialdK (i := ((3 * j) + q)) dX10_flood_49 (HM_at (by decide)) (ixA (ixU rfl rfl) rfl) (by omega) (by decide) ?_
        exact A_iret dX10_flood_50 ⟨by rw [floodA, xf, if_neg c5, tcl_nI (by omega)]; exact acc3 (S.d2 j hj) (S.d3 j hj) (S.d4 j hj) hq9, ⟨_, _, rfl, runM_k, rfl⟩⟩ ⟨by decide, by decide⟩
      · have eq3 : q = 3 := (nI_eq (b := 3) (by omega) (by decide)).mp c29
        refine A_aload_n dX10_flood_32 rfl rfl ?_
        refine A_iload_n dX10_flood_33 rfl rfl ?_
        refine A_callVi dX10_flood_34 m_X10_297 cb_X10_shortOfFlood (As := [_]) rfl HM_at0 rfl (k_shortOfFlood G (by omega)) rfl ⟨by decide, by decide⟩ (Nat.le_of_ble_eq_true rfl) ⟨by decide, by decide⟩ (fun x34 h34 hq => ?_)
        obtain ⟨rfl, rfl⟩ := hq
        refine A_goto 50 dX10_flood_37 (by decide) ?_
        exact A_iret dX10_flood_50 ⟨by rw [floodA, xf, if_neg c5, tcl_nI (by omega)]; subst eq3; show _ = yrF c 33 j - yrF c 34 j; rw [S.d3 j hj, S.d4 j hj], ⟨_, _, rfl, runM_k, rfl⟩⟩ ⟨by decide, by decide⟩
    · refine A_bipush (v := (-2)) dX10_flood_20 (by decide) ?_
      exact A_iret dX10_flood_22 ⟨by rw [floodA, xf]; first | exact (if_pos (by assumption)).symm | (split; rfl; exact (acc_out (by assumption)).symm), ⟨_, _, rfl, KM.rf⟩⟩ ⟨by decide, by decide⟩

theorem k_loan (G : GX) {b : Nat} {c m : CT} {ml : Nat → Nat → Int64} {r : Nat → Option AE} {n : Nat} {nv nc nf nl wk : Nat} {v t : Int32} (h : BL nv nc nf nl wk c m) : MA G 5 yX10_loan cX10_loan 3 (some .int) 0 0 [.ref b, .int v, .int t] (HM b m ml r n) (qI fun x9 h1 => x9 = loanA c v t ∧ ∃ m1 ml1, h1 = HM b m1 ml1 r n ∧ KM m ml m1 ml1) := by
  refine MA.of (own := RX10) false [some (.ref b), some (.int v), some (.int t)] (by decide +kernel) rfl (fun h => by cases h) (Nat.le_of_ble_eq_true rfl) rfl (fun X => ?_)
  have hX := h.ix
  obtain ⟨xv, xv6, xc, xc8, xf, xf3, xl, xl8, xw, xw30, xC, xL⟩ := id hX
  have hI := h.im
  obtain ⟨hv, hv6, hc, hc8, hf, hf3, hl, hl8, hw, hw30, gC, gL⟩ := id hI
  have hT := h.tm
  refine A_iload_n dX10_loan_0 rfl rfl ?_
  refine A_i2l dX10_loan_1 ?_
  refine A_lconst (v := 0) dX10_loan_2 (by decide) ?_
  refine A_aload_n dX10_loan_3 rfl rfl ?_
  refine A_get dX10_loan_4 f_X10_9 HM_at0 rfl ?_
  refine A_iconst (v := 3) dX10_loan_7 (by decide) ?_
  refine A_ialdK (i := 3) dX10_loan_8 (HM_at (by decide)) rfl (by omega) (by decide) ?_
  refine A_iconst (v := 1) dX10_loan_9 (by decide) ?_
  refine A_isub dX10_loan_10 ?_
  refine A_i2l dX10_loan_11 ?_
  refine A_callSi dX10_loan_12 m_X10_85 cb_X10_in (As := [_, _, _]) rfl (k_in G) rfl ⟨by decide, by decide⟩ (Nat.le_of_ble_eq_true rfl) ⟨by decide, by decide⟩ (fun x12 h12 hq => ?_)
  obtain ⟨rfl, rfl⟩ := hq
  refine A_eqI (y := inI v (nI nl)) (by rw [hl]; exact inL_b (by omega)) ?_
  refine A_if_eq 30 dX10_loan_15 (by decide) (fun c15 => ?_) (fun c15 => ?_)
  · refine A_bipush (v := (-2)) dX10_loan_30 (by decide) ?_
    exact A_iret dX10_loan_32 ⟨by rw [loanA, xl]; first | exact (if_pos (by assumption)).symm | (split; rfl; exact (acc_out (by assumption)).symm), ⟨_, _, rfl, KM.rf⟩⟩ ⟨by decide, by decide⟩
  · refine A_iload_n dX10_loan_18 rfl rfl ?_
    refine A_i2l dX10_loan_19 ?_
    refine A_lconst (v := 0) dX10_loan_20 (by decide) ?_
    refine A_ldc2 dX10_loan_21 w_1504 ?_
    refine A_callSi dX10_loan_24 m_X10_85 cb_X10_in (As := [_, _, _]) rfl (k_in G) rfl ⟨by decide, by decide⟩ (Nat.le_of_ble_eq_true rfl) ⟨by decide, by decide⟩ (fun x24 h24 hq => ?_)
    obtain ⟨rfl, rfl⟩ := hq
    refine A_eqI (inL_n 3 (by decide) (by decide)) ?_
    refine A_if_ne 33 dX10_loan_27 (by decide) (fun c27 => ?_) (fun c27 => ?_)
    · obtain ⟨j, hj, rfl⟩ := inI_of rfl c15 (by omega)
      obtain ⟨q, hq3, rfl⟩ := inI_of rfl c27 (by decide)
      refine A_aload_n dX10_loan_33 rfl rfl ?_
      refine A_callVv dX10_loan_34 m_X10_317 cb_X10_year (As := []) rfl HM_at0 rfl (k_year G hI hT) rfl ⟨by decide, by decide⟩ (Nat.le_of_ble_eq_true rfl) ⟨by decide, by decide⟩ (fun h34 hq => ?_)
      obtain rfl := hq
      obtain ⟨S, D⟩ := yr_sim h
      refine A_iload_n dX10_loan_37 rfl rfl ?_
      refine A_iconst (v := 3) dX10_loan_38 (by decide) ?_
      refine A_icmp_ne 50 dX10_loan_39 (by decide) (fun c39 => ?_) (fun c39 => ?_)
      · have hq9 : q < 3 := by rcases Nat.lt_or_ge q 3 with z | z; exact z; exact absurd (by rw [show q = 3 by omega]; rfl) c39
        refine A_aload_n dX10_loan_50 rfl rfl ?_
        refine A_get dX10_loan_51 f_X10_43 HM_at0 rfl ?_
        refine A_iconst (v := 3) dX10_loan_54 (by decide) ?_
        refine A_iload_n dX10_loan_55 rfl rfl ?_
        refine A_imul dX10_loan_56 ?_
        refine A_iload_n dX10_loan_57 rfl rfl ?_
        refine A_iadd dX10_loan_58 ?_
        refine A_ialdK (i := ((3 * j) + q)) dX10_loan_59 (HM_at (by decide)) (ixA (ixU rfl rfl) rfl) (by omega) (by decide) ?_
        exact A_iret dX10_loan_60 ⟨by rw [loanA, xl, if_neg c15, tcl_nI (by omega)]; exact acc3 (S.d5 j hj) (S.d6 j hj) (S.d7 j hj) hq9, ⟨_, _, rfl, runM_k, rfl⟩⟩ ⟨by decide, by decide⟩
      · have eq3 : q = 3 := (nI_eq (b := 3) (by omega) (by decide)).mp c39
        refine A_aload_n dX10_loan_42 rfl rfl ?_
        refine A_iload_n dX10_loan_43 rfl rfl ?_
        refine A_callVi dX10_loan_44 m_X10_300 cb_X10_shortOfLoan (As := [_]) rfl HM_at0 rfl (k_shortOfLoan G (by omega)) rfl ⟨by decide, by decide⟩ (Nat.le_of_ble_eq_true rfl) ⟨by decide, by decide⟩ (fun x44 h44 hq => ?_)
        obtain ⟨rfl, rfl⟩ := hq
        refine A_goto 60 dX10_loan_47 (by decide) ?_
        exact A_iret dX10_loan_60 ⟨by rw [loanA, xl, if_neg c15, tcl_nI (by omega)]; subst eq3; show _ = yrF c 36 j - yrF c 37 j; rw [S.d6 j hj, S.d7 j hj], ⟨_, _, rfl, runM_k, rfl⟩⟩ ⟨by decide, by decide⟩
    · refine A_bipush (v := (-2)) dX10_loan_30 (by decide) ?_
      exact A_iret dX10_loan_32 ⟨by rw [loanA, xl]; first | exact (if_pos (by assumption)).symm | (split; rfl; exact (acc_out (by assumption)).symm), ⟨_, _, rfl, KM.rf⟩⟩ ⟨by decide, by decide⟩

theorem crop3 {f : Nat → Int32} {g w p : Int32} {a q : Nat} (h0 : g = f (a + 0)) (h1 : w = f (a + 1)) (h2 : p = f (a + 2)) (hq : q < 3) : f (a + q) = if nI q = 0 then g else if nI q = 1 then w else if nI q = 2 then p else -2 := by
  match q, hq with
  | 0, _ => exact h0.symm
  | 1, _ => exact h1.symm
  | 2, _ => exact h2.symm
theorem k_crop (G : GX) {b : Nat} {c m : CT} {ml : Nat → Nat → Int64} {r : Nat → Option AE} {n : Nat} {nv nc nf nl wk : Nat} {v t : Int32} (h : BL nv nc nf nl wk c m) : MA G 5 yX10_crop cX10_crop 3 (some .int) 0 0 [.ref b, .int v, .int t] (HM b m ml r n) (qI fun x9 h1 => x9 = cropA c v t ∧ ∃ m1 ml1, h1 = HM b m1 ml1 r n ∧ KM m ml m1 ml1) := by
  refine MA.of (own := RX10) false [some (.ref b), some (.int v), some (.int t)] (by decide +kernel) rfl (fun h => by cases h) (Nat.le_of_ble_eq_true rfl) rfl (fun X => ?_)
  have hX := h.ix
  obtain ⟨xv, xv6, xc, xc8, xf, xf3, xl, xl8, xw, xw30, xC, xL⟩ := id hX
  have hI := h.im
  obtain ⟨hv, hv6, hc, hc8, hf, hf3, hl, hl8, hw, hw30, gC, gL⟩ := id hI
  have hT := h.tm
  refine A_iload_n dX10_crop_0 rfl rfl ?_
  refine A_i2l dX10_crop_1 ?_
  refine A_lconst (v := 0) dX10_crop_2 (by decide) ?_
  refine A_aload_n dX10_crop_3 rfl rfl ?_
  refine A_get dX10_crop_4 f_X10_9 HM_at0 rfl ?_
  refine A_iconst (v := 1) dX10_crop_7 (by decide) ?_
  refine A_ialdK (i := 1) dX10_crop_8 (HM_at (by decide)) rfl (by omega) (by decide) ?_
  refine A_iconst (v := 1) dX10_crop_9 (by decide) ?_
  refine A_isub dX10_crop_10 ?_
  refine A_i2l dX10_crop_11 ?_
  refine A_callSi dX10_crop_12 m_X10_85 cb_X10_in (As := [_, _, _]) rfl (k_in G) rfl ⟨by decide, by decide⟩ (Nat.le_of_ble_eq_true rfl) ⟨by decide, by decide⟩ (fun x12 h12 hq => ?_)
  obtain ⟨rfl, rfl⟩ := hq
  refine A_eqI (y := inI v (nI nc)) (by rw [hc]; exact inL_b (by omega)) ?_
  refine A_if_eq 30 dX10_crop_15 (by decide) (fun c15 => ?_) (fun c15 => ?_)
  · refine A_bipush (v := (-2)) dX10_crop_30 (by decide) ?_
    exact A_iret dX10_crop_32 ⟨by rw [cropA, xc]; first | exact (if_pos (by assumption)).symm | (rw [if_neg (by assumption), if_neg (show ¬ t = 0 from in_out (by assumption) (by decide) 0 (by decide)), if_neg (show ¬ t = 1 from in_out (by assumption) (by decide) 1 (by decide)), if_neg (show ¬ t = 2 from in_out (by assumption) (by decide) 2 (by decide))]), ⟨_, _, rfl, KM.rf⟩⟩ ⟨by decide, by decide⟩
  · refine A_iload_n dX10_crop_18 rfl rfl ?_
    refine A_i2l dX10_crop_19 ?_
    refine A_lconst (v := 0) dX10_crop_20 (by decide) ?_
    refine A_ldc2 dX10_crop_21 w_1291 ?_
    refine A_callSi dX10_crop_24 m_X10_85 cb_X10_in (As := [_, _, _]) rfl (k_in G) rfl ⟨by decide, by decide⟩ (Nat.le_of_ble_eq_true rfl) ⟨by decide, by decide⟩ (fun x24 h24 hq => ?_)
    obtain ⟨rfl, rfl⟩ := hq
    refine A_eqI (inL_n 2 (by decide) (by decide)) ?_
    refine A_if_ne 33 dX10_crop_27 (by decide) (fun c27 => ?_) (fun c27 => ?_)
    · obtain ⟨j, hj, rfl⟩ := inI_of rfl c15 (by omega)
      obtain ⟨q, hq3, rfl⟩ := inI_of rfl c27 (by decide)
      refine A_aload_n dX10_crop_33 rfl rfl ?_
      refine A_callVv dX10_crop_34 m_X10_317 cb_X10_year (As := []) rfl HM_at0 rfl (k_year G hI hT) rfl ⟨by decide, by decide⟩ (Nat.le_of_ble_eq_true rfl) ⟨by decide, by decide⟩ (fun h34 hq => ?_)
      obtain rfl := hq
      obtain ⟨S, D⟩ := yr_sim h
      refine A_aload_n dX10_crop_37 rfl rfl ?_
      refine A_get dX10_crop_38 f_X10_46 HM_at0 rfl ?_
      refine A_iconst (v := 3) dX10_crop_41 (by decide) ?_
      refine A_iload_n dX10_crop_42 rfl rfl ?_
      refine A_imul dX10_crop_43 ?_
      refine A_iload_n dX10_crop_44 rfl rfl ?_
      refine A_iadd dX10_crop_45 ?_
      refine A_ialdK (i := ((3 * j) + q)) dX10_crop_46 (HM_at (by decide)) (ixA (ixU rfl rfl) rfl) (by omega) (by decide) ?_
      exact A_iret dX10_crop_47 ⟨by rw [cropA, xc, if_neg c15, tcl_nI (by omega)]; exact crop3 (S.d8 j hj) (S.d9 j hj) (S.d10 j hj) hq3, ⟨_, _, rfl, runM_k, rfl⟩⟩ ⟨by decide, by decide⟩
    · refine A_bipush (v := (-2)) dX10_crop_30 (by decide) ?_
      exact A_iret dX10_crop_32 ⟨by rw [cropA, xc]; first | exact (if_pos (by assumption)).symm | (rw [if_neg (by assumption), if_neg (show ¬ t = 0 from in_out (by assumption) (by decide) 0 (by decide)), if_neg (show ¬ t = 1 from in_out (by assumption) (by decide) 1 (by decide)), if_neg (show ¬ t = 2 from in_out (by assumption) (by decide) 2 (by decide))]), ⟨_, _, rfl, KM.rf⟩⟩ ⟨by decide, by decide⟩

theorem k_first (G : GX) {b : Nat} {c m : CT} {ml : Nat → Nat → Int64} {r : Nat → Option AE} {n : Nat} {nv nc nf nl wk : Nat} (h : BL nv nc nf nl wk c m) : MA G 5 yX10_first cX10_first 1 (some .int) 0 0 [.ref b] (HM b m ml r n) (qI fun x9 h1 => x9 = (if 0 < c 6 5 then yrF c 28 19 else -2) ∧ ∃ m1 ml1, h1 = HM b m1 ml1 r n ∧ KM m ml m1 ml1) := by
  refine MA.of (own := RX10) false [some (.ref b)] (by decide +kernel) rfl (fun h => by cases h) (Nat.le_of_ble_eq_true rfl) rfl (fun X => ?_)
  have hX := h.ix
  obtain ⟨xv, xv6, xc, xc8, xf, xf3, xl, xl8, xw, xw30, xC, xL⟩ := id hX
  have hI := h.im
  obtain ⟨hv, hv6, hc, hc8, hf, hf3, hl, hl8, hw, hw30, gC, gL⟩ := id hI
  have hT := h.tm
  refine A_aload_n dX10_first_0 rfl rfl ?_
  refine A_callVi dX10_first_1 m_X10_322 cb_X10_isPlain (As := []) rfl HM_at0 rfl (k_isPlain G) rfl ⟨by decide, by decide⟩ (Nat.le_of_ble_eq_true rfl) ⟨by decide, by decide⟩ (fun x1 h1 hq => ?_)
  obtain ⟨rfl, rfl⟩ := hq
  refine A_eqI (pl_i h) ?_
  refine A_if_ne 10 dX10_first_4 (by decide) (fun c4 => ?_) (fun c4 => ?_)
  · refine A_aload_n dX10_first_10 rfl rfl ?_
    refine A_callVv dX10_first_11 m_X10_317 cb_X10_year (As := []) rfl HM_at0 rfl (k_year G hI hT) rfl ⟨by decide, by decide⟩ (Nat.le_of_ble_eq_true rfl) ⟨by decide, by decide⟩ (fun h11 hq => ?_)
    obtain rfl := hq
    obtain ⟨S, D⟩ := yr_sim h
    refine A_aload_n dX10_first_14 rfl rfl ?_
    refine A_get dX10_first_15 f_X10_246 HM_at0 rfl ?_
    exact A_iret dX10_first_18 ⟨by rw [if_pos (by by_cases z : 0 < c 6 5; exact z; exact absurd (if_neg z) c4)]; exact S.e3.symm, ⟨_, _, rfl, runM_k, rfl⟩⟩ ⟨by decide, by decide⟩
  · refine A_bipush (v := (-2)) dX10_first_7 (by decide) ?_
    exact A_iret dX10_first_9 ⟨by rw [if_neg (fun z => by rw [if_pos z] at c4; exact absurd c4 (by decide))], ⟨_, _, rfl, KM.rf⟩⟩ ⟨by decide, by decide⟩

theorem tot_out {y : CT} {t : Int32} (h : inI t (nI 9) = 0) : totF y t = -2 := by
  have hn := in_out h (by decide)
  rw [totF, if_neg (show ¬ t = 0 from hn 0 (by decide)), if_neg (show ¬ t = 1 from hn 1 (by decide)), if_neg (show ¬ t = 2 from hn 2 (by decide)), if_neg (show ¬ t = 3 from hn 3 (by decide)), if_neg (show ¬ t = 4 from hn 4 (by decide)), if_neg (show ¬ t = 5 from hn 5 (by decide)), if_neg (show ¬ t = 6 from hn 6 (by decide)), if_neg (show ¬ t = 7 from hn 7 (by decide)), if_neg (show ¬ t = 8 from hn 8 (by decide))]
theorem fs_sim {nv nc nf nl wk fl : Nat} {y m : CT} (S : SimY nv nc nf nl fl wk y m) (Z : YZ nv nc nf nl y) (hb : nv ≤ 6 ∧ nc ≤ 8 ∧ nf ≤ 3 ∧ nl ≤ 8) : sumI (fun i => m 9 (3 * i + 0)) nf = sumI (y 32) 3 := by
  rw [sumI_to (f := y 32) (N := 3) hb.2.2.1 (fun i hi => (Z.1 i hi).1)]
  exact sumI_ext nf (fun i hi => (S.d2 i hi).symm)
theorem fp_sim {nv nc nf nl wk fl : Nat} {y m : CT} (S : SimY nv nc nf nl fl wk y m) (Z : YZ nv nc nf nl y) (hb : nv ≤ 6 ∧ nc ≤ 8 ∧ nf ≤ 3 ∧ nl ≤ 8) : sumI (fun i => m 9 (3 * i + 2)) nf = sumI (y 34) 3 := by
  rw [sumI_to (f := y 34) (N := 3) hb.2.2.1 (fun i hi => (Z.1 i hi).2.2)]
  exact sumI_ext nf (fun i hi => (S.d4 i hi).symm)
theorem wt_sim {nv nc nf nl wk fl : Nat} {y m : CT} (S : SimY nv nc nf nl fl wk y m) (Z : YZ nv nc nf nl y) (hb : nv ≤ 6 ∧ nc ≤ 8 ∧ nf ≤ 3 ∧ nl ≤ 8) : sumI (fun i => m 7 i) nv = sumI (y 30) 6 := by
  rw [sumI_to (f := y 30) (N := 6) hb.1 Z.2.2.2]
  exact sumI_ext nv (fun i hi => (S.d1 i hi).symm)
theorem sw_out8 {x : Int32} (h0 : ¬ x = 0) (h1 : ¬ x = 1) (h2 : ¬ x = 2) (h3 : ¬ x = 3) (h4 : ¬ x = 4) (h5 : ¬ x = 5) (h6 : ¬ x = 6) (h7 : ¬ x = 7) : x.toInt < 0 ∨ 7 < x.toInt := by
  have e0 : x.toInt ≠ 0 := fun e => h0 (Int32.toInt_inj.mp e)
  have e1 : x.toInt ≠ 1 := fun e => h1 (Int32.toInt_inj.mp e)
  have e2 : x.toInt ≠ 2 := fun e => h2 (Int32.toInt_inj.mp e)
  have e3 : x.toInt ≠ 3 := fun e => h3 (Int32.toInt_inj.mp e)
  have e4 : x.toInt ≠ 4 := fun e => h4 (Int32.toInt_inj.mp e)
  have e5 : x.toInt ≠ 5 := fun e => h5 (Int32.toInt_inj.mp e)
  have e6 : x.toInt ≠ 6 := fun e => h6 (Int32.toInt_inj.mp e)
  have e7 : x.toInt ≠ 7 := fun e => h7 (Int32.toInt_inj.mp e)
  omega
theorem sum_loop (G : GX) (X : XC) {b : Nat} {c m : CT} {ml : Nat → Nat → Int64} {r : Nat → Option AE} {n : Nat} {nv nc nf nl wk : Nat} {u1 u2 : Nat} (hu : u1 = 0 ∧ u2 = 0) (h : BL nv nc nf nl wk c m) (hp : 0 < c 6 5) (S : SimY nv nc nf nl 7 wk (yrF c) (runM 7 m)) (D : DY nv nc nf nl wk wk (yrF c)) : ∀ k i : Nat, i + k = nv → WA X G RX10 cX10_sum false (some .int) (qI fun x9 h1 => x9 = (if 0 < c 6 5 then totF (yrF c) (nI 8) else -2) ∧ ∃ m1 ml1, h1 = HM b m1 ml1 r n ∧ KM m ml m1 ml1) 5 0 0 (HM b (runM 7 m) ml r n) u1 u2 118 [some (.ref b), some (.int (nI 8)), some (.int (sumI (fun i => runM 7 m 7 i) i)), some (.int (nI i))] [] := by
  obtain ⟨rfl, rfl⟩ := hu
  have hv : runM 7 m 1 0 = nI nv := by rw [runM_k.1 1 (by decide) (by decide)]; exact h.im.1
  have hv6 := h.nb.1
  intro k
  induction k with
  | zero =>
    intro i hk
    refine A_iload_n dX10_sum_118 rfl rfl ?_
    refine A_aload_n dX10_sum_119 rfl rfl ?_
    refine A_callVi dX10_sum_120 m_X10_89 cb_X10_villages (As := []) rfl HM_at0 rfl (k_villages G) rfl ⟨by decide, by decide⟩ (Nat.le_of_ble_eq_true rfl) ⟨by decide, by decide⟩ (fun x120 h120 hq => ?_)
    obtain ⟨rfl, rfl⟩ := hq
    refine A_icmp_ge 141 dX10_sum_123 (by decide) (fun c123 => ?_) (fun c123 => ?_)
    · refine A_iload_n dX10_sum_141 rfl rfl ?_
      exact A_iret dX10_sum_142 ⟨by rw [if_pos hp, show i = nv by omega]; exact wt_sim S D.2.2.2.2.2.2.2.2 h.nb, ⟨_, _, rfl, runM_k, rfl⟩⟩ ⟨by decide, by decide⟩
    · exact absurd (by rw [hv]; exact nI_le (by omega) (by omega)) c123
  | succ k ih =>
    intro i hk
    refine A_iload_n dX10_sum_118 rfl rfl ?_
    refine A_aload_n dX10_sum_119 rfl rfl ?_
    refine A_callVi dX10_sum_120 m_X10_89 cb_X10_villages (As := []) rfl HM_at0 rfl (k_villages G) rfl ⟨by decide, by decide⟩ (Nat.le_of_ble_eq_true rfl) ⟨by decide, by decide⟩ (fun x120 h120 hq => ?_)
    obtain ⟨rfl, rfl⟩ := hq
    refine A_icmp_ge 141 dX10_sum_123 (by decide) (fun c123 => ?_) (fun c123 => ?_)
    · exact absurd c123 (by rw [hv]; exact nI_ge (by omega) (by omega))
    · refine A_iload_n dX10_sum_126 rfl rfl ?_
      refine A_aload_n dX10_sum_127 rfl rfl ?_
      refine A_get dX10_sum_128 f_X10_34 HM_at0 rfl ?_
      refine A_iload_n dX10_sum_131 rfl rfl ?_
      refine A_ialdK (i := i) dX10_sum_132 (HM_at (by decide)) rfl (by omega) (by decide) ?_
      refine A_iadd dX10_sum_133 ?_
      refine A_istore_n (lv1 := [_, _, _, _]) dX10_sum_134 rfl (Nat.le_of_ble_eq_true rfl) rfl rfl ?_
      refine A_inc 1 (lv1 := [_, _, _, _]) dX10_sum_135 rfl (by decide) rfl rfl ?_
      refine A_goto 118 dX10_sum_138 (by decide) ?_
      rw [nI_1]
      exact ih (i + 1) (by omega)

theorem k_sum (G : GX) {b : Nat} {c m : CT} {ml : Nat → Nat → Int64} {r : Nat → Option AE} {n : Nat} {nv nc nf nl wk : Nat} {t : Int32} (h : BL nv nc nf nl wk c m) : MA G 5 yX10_sum cX10_sum 4 (some .int) 0 0 [.ref b, .int t] (HM b m ml r n) (qI fun x9 h1 => x9 = (if 0 < c 6 5 then totF (yrF c) t else -2) ∧ ∃ m1 ml1, h1 = HM b m1 ml1 r n ∧ KM m ml m1 ml1) := by
  refine MA.of (own := RX10) false [some (.ref b), some (.int t), none, none] (by decide +kernel) rfl (fun h => by cases h) (Nat.le_of_ble_eq_true rfl) rfl (fun X => ?_)
  have hX := h.ix
  obtain ⟨xv, xv6, xc, xc8, xf, xf3, xl, xl8, xw, xw30, xC, xL⟩ := id hX
  have hI := h.im
  obtain ⟨hv, hv6, hc, hc8, hf, hf3, hl, hl8, hw, hw30, gC, gL⟩ := id hI
  have hT := h.tm
  refine A_aload_n dX10_sum_0 rfl rfl ?_
  refine A_callVi dX10_sum_1 m_X10_322 cb_X10_isPlain (As := []) rfl HM_at0 rfl (k_isPlain G) rfl ⟨by decide, by decide⟩ (Nat.le_of_ble_eq_true rfl) ⟨by decide, by decide⟩ (fun x1 h1 hq => ?_)
  obtain ⟨rfl, rfl⟩ := hq
  refine A_eqI (pl_i h) ?_
  refine A_if_eq 19 dX10_sum_4 (by decide) (fun c4 => ?_) (fun c4 => ?_)
  · refine A_bipush (v := (-2)) dX10_sum_19 (by decide) ?_
    exact A_iret dX10_sum_21 ⟨by first | (rw [if_neg (fun z => by rw [if_pos z] at c4; exact absurd c4 (by decide))]) | (split; exact (tot_out (by assumption)).symm; rfl), ⟨_, _, rfl, KM.rf⟩⟩ ⟨by decide, by decide⟩
  · refine A_iload_n dX10_sum_7 rfl rfl ?_
    refine A_i2l dX10_sum_8 ?_
    refine A_lconst (v := 0) dX10_sum_9 (by decide) ?_
    refine A_ldc2 dX10_sum_10 w_1529 ?_
    refine A_callSi dX10_sum_13 m_X10_85 cb_X10_in (As := [_, _, _]) rfl (k_in G) rfl ⟨by decide, by decide⟩ (Nat.le_of_ble_eq_true rfl) ⟨by decide, by decide⟩ (fun x13 h13 hq => ?_)
    obtain ⟨rfl, rfl⟩ := hq
    refine A_eqI (inL_n 8 (by decide) (by decide)) ?_
    refine A_if_ne 22 dX10_sum_16 (by decide) (fun c16 => ?_) (fun c16 => ?_)
    · have hp : 0 < c 6 5 := by by_cases z : 0 < c 6 5; exact z; exact absurd (if_neg z) c4
      have hM := hI.to ((runM_k (fl := 7) (m := m)).1 1 (by decide) (by decide))
      refine A_aload_n dX10_sum_22 rfl rfl ?_
      refine A_callVv dX10_sum_23 m_X10_317 cb_X10_year (As := []) rfl HM_at0 rfl (k_year G hI hT) rfl ⟨by decide, by decide⟩ (Nat.le_of_ble_eq_true rfl) ⟨by decide, by decide⟩ (fun h23 hq => ?_)
      obtain rfl := hq
      obtain ⟨S, D⟩ := yr_sim h
      refine A_iload_n dX10_sum_26 rfl rfl ?_
      by_cases s27_0 : t = 0
      · subst s27_0
        refine A_tableIn 72 dX10_sum_27 (by decide) (by decide) rfl (by decide) ?_
        refine A_aload_n dX10_sum_72 rfl rfl ?_
        refine A_callVi dX10_sum_73 m_X10_327 cb_X10_brought (As := []) rfl HM_at0 rfl (k_brought G hM) rfl ⟨by decide, by decide⟩ (Nat.le_of_ble_eq_true rfl) ⟨by decide, by decide⟩ (fun x73 h73 hq => ?_)
        obtain ⟨rfl, rfl⟩ := hq
        exact A_iret dX10_sum_76 ⟨by rw [if_pos hp]; exact br_sim ⟨S, D⟩ h.nb, ⟨_, _, rfl, runM_k, rfl⟩⟩ ⟨by decide, by decide⟩
      by_cases s27_1 : t = 1
      · subst s27_1
        refine A_tableIn 77 dX10_sum_27 (by decide) (by decide) rfl (by decide) ?_
        refine A_aload_n dX10_sum_77 rfl rfl ?_
        refine A_callVi dX10_sum_78 m_X10_303 cb_X10_shortOfFloods (As := []) rfl HM_at0 rfl (k_shortOfFloods G hM) rfl ⟨by decide, by decide⟩ (Nat.le_of_ble_eq_true rfl) ⟨by decide, by decide⟩ (fun x78 h78 hq => ?_)
        obtain ⟨rfl, rfl⟩ := hq
        exact A_iret dX10_sum_81 ⟨by rw [if_pos hp]; exact sf_sim ⟨S, D⟩ h.nb, ⟨_, _, rfl, runM_k, rfl⟩⟩ ⟨by decide, by decide⟩
      by_cases s27_2 : t = 2
      · subst s27_2
        refine A_tableIn 82 dX10_sum_27 (by decide) (by decide) rfl (by decide) ?_
        refine A_aload_n dX10_sum_82 rfl rfl ?_
        refine A_callVi dX10_sum_83 m_X10_306 cb_X10_shortOfLoans (As := []) rfl HM_at0 rfl (k_shortOfLoans G hM) rfl ⟨by decide, by decide⟩ (Nat.le_of_ble_eq_true rfl) ⟨by decide, by decide⟩ (fun x83 h83 hq => ?_)
        obtain ⟨rfl, rfl⟩ := hq
        exact A_iret dX10_sum_86 ⟨by rw [if_pos hp]; exact sl_sim ⟨S, D⟩ h.nb, ⟨_, _, rfl, runM_k, rfl⟩⟩ ⟨by decide, by decide⟩
      by_cases s27_3 : t = 3
      · subst s27_3
        refine A_tableIn 87 dX10_sum_27 (by decide) (by decide) rfl (by decide) ?_
        refine A_aload_n dX10_sum_87 rfl rfl ?_
        refine A_get dX10_sum_88 f_X10_273 HM_at0 rfl ?_
        exact A_iret dX10_sum_91 ⟨by rw [if_pos hp]; exact S.e0.symm, ⟨_, _, rfl, runM_k, rfl⟩⟩ ⟨by decide, by decide⟩
      by_cases s27_4 : t = 4
      · subst s27_4
        refine A_tableIn 92 dX10_sum_27 (by decide) (by decide) rfl (by decide) ?_
        refine A_aload_n dX10_sum_92 rfl rfl ?_
        refine A_get dX10_sum_93 f_X10_276 HM_at0 rfl ?_
        exact A_iret dX10_sum_96 ⟨by rw [if_pos hp]; exact S.e1.symm, ⟨_, _, rfl, runM_k, rfl⟩⟩ ⟨by decide, by decide⟩
      by_cases s27_5 : t = 5
      · subst s27_5
        refine A_tableIn 97 dX10_sum_27 (by decide) (by decide) rfl (by decide) ?_
        refine A_aload_n dX10_sum_97 rfl rfl ?_
        refine A_get dX10_sum_98 f_X10_270 HM_at0 rfl ?_
        exact A_iret dX10_sum_101 ⟨by rw [if_pos hp]; exact S.e2.symm, ⟨_, _, rfl, runM_k, rfl⟩⟩ ⟨by decide, by decide⟩
      by_cases s27_6 : t = 6
      · subst s27_6
        refine A_tableIn 102 dX10_sum_27 (by decide) (by decide) rfl (by decide) ?_
        refine A_aload_n dX10_sum_102 rfl rfl ?_
        refine A_iconst (v := 0) dX10_sum_103 (by decide) ?_
        refine A_callVi dX10_sum_104 m_X10_330 cb_X10_floodSum (As := [_]) rfl HM_at0 rfl (k_floodSum (q := 0) G hM (by decide)) rfl ⟨by decide, by decide⟩ (Nat.le_of_ble_eq_true rfl) ⟨by decide, by decide⟩ (fun x104 h104 hq => ?_)
        obtain ⟨rfl, rfl⟩ := hq
        exact A_iret dX10_sum_107 ⟨by rw [if_pos hp]; exact fs_sim S D.2.2.2.2.2.2.2.2 h.nb, ⟨_, _, rfl, runM_k, rfl⟩⟩ ⟨by decide, by decide⟩
      by_cases s27_7 : t = 7
      · subst s27_7
        refine A_tableIn 108 dX10_sum_27 (by decide) (by decide) rfl (by decide) ?_
        refine A_aload_n dX10_sum_108 rfl rfl ?_
        refine A_iconst (v := 2) dX10_sum_109 (by decide) ?_
        refine A_callVi dX10_sum_110 m_X10_330 cb_X10_floodSum (As := [_]) rfl HM_at0 rfl (k_floodSum (q := 2) G hM (by decide)) rfl ⟨by decide, by decide⟩ (Nat.le_of_ble_eq_true rfl) ⟨by decide, by decide⟩ (fun x110 h110 hq => ?_)
        obtain ⟨rfl, rfl⟩ := hq
        exact A_iret dX10_sum_113 ⟨by rw [if_pos hp]; exact fp_sim S D.2.2.2.2.2.2.2.2 h.nb, ⟨_, _, rfl, runM_k, rfl⟩⟩ ⟨by decide, by decide⟩
      refine A_tableOut 114 dX10_sum_27 (sw_out8 s27_0 s27_1 s27_2 s27_3 s27_4 s27_5 s27_6 s27_7) (by decide) ?_
      have e8 : t = nI 8 := by
        obtain ⟨q, hq9, rfl⟩ := inI_of rfl c16 (by decide)
        match q, hq9 with
        | 0, _ => exact absurd rfl s27_0
        | 1, _ => exact absurd rfl s27_1
        | 2, _ => exact absurd rfl s27_2
        | 3, _ => exact absurd rfl s27_3
        | 4, _ => exact absurd rfl s27_4
        | 5, _ => exact absurd rfl s27_5
        | 6, _ => exact absurd rfl s27_6
        | 7, _ => exact absurd rfl s27_7
        | 8, _ => rfl
      subst e8
      refine A_iconst (v := 0) dX10_sum_114 (by decide) ?_
      refine A_istore_n (lv1 := [_, _, _, _]) dX10_sum_115 rfl (Nat.le_of_ble_eq_true rfl) rfl rfl ?_
      refine A_iconst (v := 0) dX10_sum_116 (by decide) ?_
      refine A_istore_n (lv1 := [_, _, _, _]) dX10_sum_117 rfl (Nat.le_of_ble_eq_true rfl) rfl rfl ?_
      exact sum_loop G X ⟨rfl, rfl⟩ h hp S D nv 0 (by omega)
    · refine A_bipush (v := (-2)) dX10_sum_19 (by decide) ?_
      exact A_iret dX10_sum_21 ⟨by first | (rw [if_neg (fun z => by rw [if_pos z] at c4; exact absurd c4 (by decide))]) | (split; exact (tot_out (by assumption)).symm; rfl), ⟨_, _, rfl, KM.rf⟩⟩ ⟨by decide, by decide⟩
