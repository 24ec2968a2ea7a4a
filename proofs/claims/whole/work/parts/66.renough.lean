/-! THE REFERENCE: enough, melons, share -/
theorem pass41 {nc w v : Nat} {y : CT} (hc : tcl (y 9 2) = nc) (hc8 : nc ≤ 8) (hw : w < 30) (h0 : 0 ≤ (y 41 v).toInt) (h1 : (y 41 v).toInt ≤ 1) : (y 41 v).toInt ≤ (passF w y 41 v).toInt ∧ (passF w y 41 v).toInt ≤ 1 := by
  unfold passF
  try dsimp only
  have a1 : takeA (nI w) y 41 = y 41 := forR_keep (fun z : CT => z 41 = y 41) (fun i z hz => (takeS_l (by decide)).trans hz) _ _ _ rfl
  have b1 : takeA (nI w) y 9 = y 9 := forR_keep (fun z : CT => z 9 = y 9) (fun i z hz => (takeS_l (by decide)).trans hz) _ _ _ rfl
  generalize takeA (nI w) y = y1 at a1 b1 ⊢
  have a2 : lendA (nI w) y1 41 = y1 41 := forR_keep (fun z : CT => z 41 = y1 41) (fun i z hz => (lendS_l (by decide)).trans hz) _ _ _ rfl
  have b2 : lendA (nI w) y1 9 = y1 9 := forR_keep (fun z : CT => z 9 = y1 9) (fun i z hz => (lendS_l (by decide)).trans hz) _ _ _ rfl
  generalize lendA (nI w) y1 = y2 at a2 b2 ⊢
  have a3 : repayA (nI w) y2 41 = y2 41 := forR_keep (fun z : CT => z 41 = y2 41) (fun i z hz => (repayS_l (by decide)).trans hz) _ _ _ rfl
  have b3 : repayA (nI w) y2 9 = y2 9 := forR_keep (fun z : CT => z 9 = y2 9) (fun i z hz => (repayS_l (by decide)).trans hz) _ _ _ rfl
  generalize repayA (nI w) y2 = y3 at a3 b3 ⊢
  have X4 : ∃ y4, y4 = (if nI w = y3 6 8 then giveA (nI w) y3 else y3) ∧ y4 41 = y3 41 ∧ y4 9 = y3 9 := by
    refine ⟨_, rfl, ?_, ?_⟩
    · split
      · exact forR_keep (fun z : CT => z 41 = y3 41) (fun i z hz => (giveS_l (by decide)).trans hz) _ _ _ rfl
      · rfl
    · split
      · exact forR_keep (fun z : CT => z 9 = y3 9) (fun i z hz => (giveS_l (by decide)).trans hz) _ _ _ rfl
      · rfl
  obtain ⟨y4, e4, a4, b4⟩ := X4
  rw [← e4]
  have e41 : y4 41 = y 41 := a4.trans (a3.trans (a2.trans a1))
  have e9 : y4 9 = y 9 := b4.trans (b3.trans (b2.trans b1))
  have hD : (y 41 v).toInt ≤ (drinkA (nI w) y4 41 v).toInt ∧ (drinkA (nI w) y4 41 v).toInt ≤ 1 := by
    have R := forR_inv (f := drinkS (nI w)) (fun i z => (y 41 v).toInt ≤ (z 41 v).toInt ∧ (z 41 v).toInt ≤ 1) nc (fun i z hi hz => by
      have hk : ∀ g : Nat, (dryF (nI w) i g z 41 v) = (if v = g then 1 else z 41 v) := by
        intro g
        unfold dryF
        try dsimp only
        rw [noteF_ne (by decide)]
        have e : ∀ l, l ≠ 40 → (if z 39 i = 0 then put z 40 i (nI w) else z) l = z l := by
          intro l hl; split
          · exact put_ne hl
          · rfl
        by_cases q : v = g
        · subst q; rw [put_at, if_pos rfl]
        · rw [put_no q, if_neg q, put_ne (show (41 : Nat) ≠ 39 by decide), e 41 (by decide)]
      unfold drinkS
      split
      · omega
      · split
        · omega
        · split
          · rw [hk]
            split
            · next q => rw [show (1 : Int32).toInt = 1 from rfl]; omega
            · omega
          · dsimp only
            simp (decide := true) only [put_ne]
            omega) nc 0 y4 (by omega) (by rw [e41]; omega)
    unfold drinkA
    rw [e9, hc]
    omega
  have c1 : wbA w (seepA (skyA w (drinkA (nI w) y4))) 41 = drinkA (nI w) y4 41 := by
    have s1 : skyA w (drinkA (nI w) y4) 41 = drinkA (nI w) y4 41 := forR_keep (fun z : CT => z 41 = drinkA (nI w) y4 41) (fun i z hz => (skyS_l (by decide)).trans hz) _ _ _ rfl
    have s2 : ∀ (N k : Nat) (z : CT), seepR N k z 41 = z 41 := by
      intro N k
      induction k with
      | zero => intro z; rfl
      | succ k ih => intro z; rw [seepR, ih]; exact seepS_l (by decide)
    have s3 : wbA w (seepA (skyA w (drinkA (nI w) y4))) 41 = seepA (skyA w (drinkA (nI w) y4)) 41 := forR_keep (fun z : CT => z 41 = seepA (skyA w (drinkA (nI w) y4)) 41) (fun i z hz => (put_ne (by decide)).trans hz) _ _ _ rfl
    exact s3.trans ((s2 _ _ _).trans s1)
  rw [c1]
  exact hD
theorem ndR_end {nc v : Nat} (hc8 : nc ≤ 8) : ∀ (k w : Nat) (y : CT), w + k ≤ 30 → tcl (y 9 2) = nc → 0 ≤ (y 41 v).toInt → (y 41 v).toInt ≤ 1 → ((y 41 v).toInt ≤ (forR passF w k y 41 v).toInt) ∧ (y 41 v = 0 → ((ndR v w k y).1 = true ↔ forR passF w k y 41 v = 0))
  | 0, w, y, _, _, _, _ => ⟨Int.le_refl _, fun z => ⟨fun _ => z, fun _ => rfl⟩⟩
  | k + 1, w, y, hk, hc, h0, h1 => by
    have h2 := pass41 (v := v) hc hc8 (show w < 30 by omega) h0 h1
    have hc2 : tcl (passF w y 9 2) = nc := by rw [show passF w y 9 = y 9 from passF_P 9 (Or.inl (by decide))]; exact hc
    obtain ⟨i1, i2⟩ := ndR_end hc8 k (w + 1) (passF w y) (by omega) hc2 (by omega) h2.2
    refine ⟨by show _ ≤ (forR passF (w + 1) k (passF w y) 41 v).toInt; omega, fun z => ?_⟩
    show _ ↔ forR passF (w + 1) k (passF w y) 41 v = 0
    rw [ndR]
    by_cases q : ¬ passF w y 41 v = 0
    · rw [if_pos q]
      rw [eqT0] at q
      refine ⟨fun z => Bool.noConfusion z, fun z => ?_⟩
      rw [eqT0] at z
      omega
    · rw [if_neg q]
      exact i2 (Decidable.of_not_not q)
theorem XM.im' {j : Nat} {m m' : CT} {nv nc nf nl wk : Nat} (h : XM (8 + 5 * j + 1) m m') (hI : IM m nv nc nf nl wk) (hj : j < nv) (hv6 : nv ≤ 6) : IM m' nv nc nf nl wk := h.im hI (by omega)
theorem nd_sim {nv nc nf nl wk j l p : Nat} {c m m' : CT} (h : BL nv nc nf nl wk c m) (hj : j < nv) (E : XM (8 + 5 * j + 1) m m') (hp : c 8 (5 * j + 0) = nI p) (hl : l ≤ p) (hp9 : p ≤ 9999) (hw : m' 1 (8 + 5 * j + 1) = nI l) (h25 : m' 0 25 = m 0 25) : SimY nv nc nf nl 7 wk (runF (ndS c j l)) (runM 7 m') ∧ DY nv nc nf nl wk wk (runF (ndS c j l)) := by
  have hI := h.ix
  have hv := hI.nvf.1
  have hf := hI.nvf.2.1
  have hb := h.nb
  have el : ∀ k, k ≠ 30 → ndS c j l k = beginF c k := fun k hk => by rw [ndS, put_ne hk]
  have e15 : ∀ k, k ≤ 15 → ndS c j l k = c k := fun k hk => (el k (by omega)).trans (beginF_l (by omega))
  have hZ := beg_Z (c := c)
  refine beg_run (E.im' h.im hj hb.1) (by rw [E.1 6 (by omega)]; exact h.mb) ⟨hI.to e15, ?_, h.pr.to e15⟩ (h.sp.to7 e15 (fun q h7 h157 hq => E.1 q (hq j hj)) hb) ?_ ?_ ?_ ?_ ?_ ?_ ?_
  · have := TX.bg hI h.kx; unfold TX at *; rw [el 29 (by decide)]; exact this
  · intro i hi
    rw [el 29 (by decide), beginF_29, tkF, hf, if_pos hi, tnM, if_pos (bit7 (by omega)), E.1 _ (by omega)]
    exact h.tk i hi
  · rw [el 28 (by decide), beg_28.1, E.1 6 (by omega)]; exact h.mo
  · rw [el 28 (by decide), beg_28.2, h25]; exact h.ln.symm
  · intro v hv1
    by_cases e : v = j
    · subst e; rw [ndS, put_at, hw]
    · rw [ndS, put_no e, beg_30, waF, hv, if_pos hv1, E.1 _ (by omega)]
      exact h.wa v hv1
  · refine YW.pu (waF_W hI h.pr) (by rw [nI_toInt (by omega)]; omega) (fun _ => ?_)
    rw [beginF_l (by decide), hp, nI_toInt (by omega), nI_toInt (by omega)]; omega
  · intro v hv1
    rw [ndS, put_no (by omega), beg_30, waF, hv, if_neg (by omega)]
  · unfold ZY at hZ ⊢
    rw [el 32 (by decide), el 33 (by decide), el 34 (by decide), el 35 (by decide), el 36 (by decide), el 37 (by decide), el 38 (by decide), el 39 (by decide), el 40 (by decide), el 41 (by decide), el 28 (by decide)]
    exact hZ
theorem nd_iff {nv nc nf nl wk j l p : Nat} {c m m' : CT} (h : BL nv nc nf nl wk c m) (hj : j < nv) (hw30 : wk ≤ 30) (S : SimY nv nc nf nl 7 wk (runF (ndS c j l)) m') (D : DY nv nc nf nl wk wk (runF (ndS c j l))) : (ndP c j wk l = true ↔ ∀ i, i < nc → m' 1 (38 + 5 * i + 0) = nI j → ¬ 0 < m' 11 (3 * i + 1)) := by
  have hI := h.ix
  have hc8 := h.nb.2.1
  have hz : ndS c j l 41 j = 0 := by
    rw [ndS, put_ne (by decide)]
    exact (beg_Z (c := c)).2.2.2.2.2.2.2.2.2.1 j
  have h9 : tcl (ndS c j l 9 2) = nc := by
    rw [ndS, put_ne (by decide), beginF_l (by decide)]
    exact hI.nvf.2.2.1
  have e := (ndR_end (v := j) hc8 wk 0 (ndS c j l) (by omega) h9 (by rw [hz]; decide) (by rw [hz]; decide)).2 hz
  have h6 : tcl (ndS c j l 6 6) = wk := by
    rw [ndS, put_ne (by decide), beginF_l (by decide)]
    exact hI.nvf.2.2.2.2
  have er : runF (ndS c j l) = forR passF 0 wk (ndS c j l) := by rw [runF, h6]
  unfold ndP
  rw [e, ← er]
  have hd := (D.2.2.2.2.2.1 j hj).2.2
  rw [hd]
  have hC := D.2.2.2.2.1
  have gC := D.1.1.2.2.2.2.2.2.2.2.2.2.1
  constructor
  · intro z i hi hq
    rw [← S.s2 i hi 0 (by decide)] at hq
    rw [← S.d9 i hi, z i hi (by rw [hq, tcl_nI (by have := h.nb.1; omega)])]
    decide
  · intro z i hi hq
    have hv := vp_in_of (gC i hi) (by have := h.nb.1; omega)
    obtain ⟨q, hq1, hq2⟩ := hv
    have hqj : q = j := by rw [hq2, tcl_nI (by have := h.nb.1; omega)] at hq; exact hq
    have h1 := z i hi (by rw [← S.s2 i hi 0 (by decide), hq2, hqj])
    rw [← S.d9 i hi, Int32.lt_iff_toInt_lt, T0] at h1
    have h2 := hC i hi
    exact eqT0.mpr (by omega)
theorem k_isNeverDry (G : GX) {b : Nat} {m : CT} {ml : Nat → Nat → Int64} {r : Nat → Option AE} {n : Nat} {nv nc nf nl wk : Nat} {j : Nat} (hI : IM m nv nc nf nl wk) : MA G 1 yX10_isNeverDry cX10_isNeverDry 3 (some .boolean) 0 0 [.ref b, .int (nI j)] (HM b m ml r n) (qI fun x9 h1 => ((x9 = 0 ∨ x9 = 1) ∧ (¬ x9 = 0 ↔ ∀ i, i < nc → m 1 (38 + 5 * i + 0) = nI j → ¬ 0 < m 11 (3 * i + 1))) ∧ h1 = HM b m ml r n) := by
  refine MA.of (own := RX10) false [some (.ref b), some (.int (nI j)), none] (by decide +kernel) rfl (fun h => by cases h) (Nat.le_of_ble_eq_true rfl) rfl (fun X => ?_)
  obtain ⟨hv, hv6, hc, hc8, hf, hf3, hl, hl8, hw, hw30, gC, gL⟩ := id hI
  have loop : ∀ (k i : Nat) , i + k = nc → (∀ a, a < i → m 1 (38 + 5 * a + 0) = nI j → ¬ 0 < m 11 (3 * a + 1)) → WA X G RX10 cX10_isNeverDry false (some .boolean) (qI fun x9 h1 => ((x9 = 0 ∨ x9 = 1) ∧ (¬ x9 = 0 ↔ ∀ i, i < nc → m 1 (38 + 5 * i + 0) = nI j → ¬ 0 < m 11 (3 * i + 1))) ∧ h1 = HM b m ml r n) 1 0 0 (HM b m ml r n) 0 0 2 [some (.ref b), some (.int (nI j)), some (.int (nI i))] [] := by
    intro k
    induction k with
    | zero =>
      intro i  hk hp
      refine A_iload_n dX10_isNeverDry_2 rfl rfl ?_
      refine A_aload_n dX10_isNeverDry_3 rfl rfl ?_
      refine A_get dX10_isNeverDry_4 f_X10_9 HM_at0 rfl ?_
      refine A_iconst (v := 1) dX10_isNeverDry_7 (by decide) ?_
      refine A_ialdK (i := 1) dX10_isNeverDry_8 (HM_at (by decide)) rfl (by omega) (by decide) ?_
      refine A_icmp_ge 43 dX10_isNeverDry_9 (by decide) (fun c9 => ?_) (fun c9 => ?_)
      · refine A_iconst (v := 1) dX10_isNeverDry_43 (by decide) ?_
        exact A_zret dX10_isNeverDry_44 rfl ⟨⟨Or.inr rfl, ⟨fun _ a ha => hp a (by omega), fun _ => by decide⟩⟩, rfl⟩ ⟨by decide, by decide⟩
      · exact absurd (by rw [hc]; exact nI_le (by omega) (by omega)) c9
    | succ k ih =>
      intro i  hk hp
      have hi : i < nc := by omega
      refine A_iload_n dX10_isNeverDry_2 rfl rfl ?_
      refine A_aload_n dX10_isNeverDry_3 rfl rfl ?_
      refine A_get dX10_isNeverDry_4 f_X10_9 HM_at0 rfl ?_
      refine A_iconst (v := 1) dX10_isNeverDry_7 (by decide) ?_
      refine A_ialdK (i := 1) dX10_isNeverDry_8 (HM_at (by decide)) rfl (by omega) (by decide) ?_
      refine A_icmp_ge 43 dX10_isNeverDry_9 (by decide) (fun c9 => ?_) (fun c9 => ?_)
      · exact absurd c9 (by rw [hc]; exact nI_ge (by omega) (by omega))
      · refine A_aload_n dX10_isNeverDry_12 rfl rfl ?_
        refine A_iload_n dX10_isNeverDry_13 rfl rfl ?_
        refine A_iconst (v := 0) dX10_isNeverDry_14 (by decide) ?_
        refine A_callVi dX10_isNeverDry_15 m_X10_267 cb_X10_ofCrop (As := [_, _]) rfl HM_at0 rfl (k_ofCrop G 0 (by omega) (by decide)) rfl ⟨by decide, by decide⟩ (Nat.le_of_ble_eq_true rfl) ⟨by decide, by decide⟩ (fun x15 h15 hq => ?_)
        obtain ⟨rfl, rfl⟩ := hq
        refine A_iload_n dX10_isNeverDry_18 rfl rfl ?_
        refine A_icmp_ne 37 dX10_isNeverDry_19 (by decide) (fun c19 => ?_) (fun c19 => ?_)
        · refine A_inc 1 (lv1 := [_, _, _]) dX10_isNeverDry_37 rfl (by decide) rfl rfl ?_
          refine A_goto 2 dX10_isNeverDry_40 (by decide) ?_
          rw [nI_1]
          exact ih (i + 1) (by omega) (fun a ha hq => by by_cases e : a = i; (subst e; exact absurd hq c19); (exact hp a (by omega) hq))
        · refine A_aload_n dX10_isNeverDry_22 rfl rfl ?_
          refine A_get dX10_isNeverDry_23 f_X10_46 HM_at0 rfl ?_
          refine A_iconst (v := 3) dX10_isNeverDry_26 (by decide) ?_
          refine A_iload_n dX10_isNeverDry_27 rfl rfl ?_
          refine A_imul dX10_isNeverDry_28 ?_
          refine A_iconst (v := 1) dX10_isNeverDry_29 (by decide) ?_
          refine A_iadd dX10_isNeverDry_30 ?_
          refine A_ialdK (i := ((3 * i) + 1)) dX10_isNeverDry_31 (HM_at (by decide)) (ixA (ixU rfl rfl) rfl) (by omega) (by decide) ?_
          refine A_if_le 37 dX10_isNeverDry_32 (by decide) (fun c32 => ?_) (fun c32 => ?_)
          · refine A_inc 1 (lv1 := [_, _, _]) dX10_isNeverDry_37 rfl (by decide) rfl rfl ?_
            refine A_goto 2 dX10_isNeverDry_40 (by decide) ?_
            rw [nI_1]
            exact ih (i + 1) (by omega) (fun a ha hq => by by_cases e : a = i; (subst e; exact Int32.not_lt.mpr c32); (exact hp a (by omega) hq))
          · refine A_iconst (v := 0) dX10_isNeverDry_35 (by decide) ?_
            exact A_zret dX10_isNeverDry_36 rfl ⟨⟨Or.inl rfl, ⟨fun z => absurd rfl z, fun z => absurd (Int32.not_le.mp c32) (z i hi c19)⟩⟩, rfl⟩ ⟨by decide, by decide⟩
  refine A_iconst (v := 0) dX10_isNeverDry_0 (by decide) ?_
  refine A_istore_n (lv1 := [_, _, _]) dX10_isNeverDry_1 rfl (Nat.le_of_ble_eq_true rfl) rfl rfl ?_
  exact loop nc 0 (by omega) (fun a ha => absurd ha (by omega))

theorem enough_exit (G : GX) (X : XC) {b : Nat} {m : CT} {ml : Nat → Nat → Int64} {r : Nat → Option AE} {n : Nat} {u1 u2 : Nat} (hu : u1 = 0 ∧ u2 = 0) {j i : Nat} (hj : j < 6) {f A : Int32} {m' : CT} (E : XM (8 + 5 * j + 1) m m') (hl : m' 0 25 = m 0 25) (hf : f = A) : WA X G RX10 cX10_enough false (some .int) (qI fun x9 h1 => x9 = A ∧ ∃ m1 ml1, h1 = HM b m1 ml1 r n ∧ KM m ml m1 ml1) 5 0 0 (HM b m' ml r n) u1 u2 84 [some (.ref b), some (.int (nI j)), some (.int (nI (8 + 5 * j + 1))), some (.int (m 1 (8 + 5 * j + 1))), some (.int (f)), some (.int (nI i))] [] := by
  obtain ⟨rfl, rfl⟩ := hu
  refine A_aload_n dX10_enough_84 rfl rfl ?_
  refine A_get dX10_enough_85 f_X10_9 HM_at0 rfl ?_
  refine A_iload_n dX10_enough_88 rfl rfl ?_
  refine A_iload_n dX10_enough_89 rfl rfl ?_
  refine A_iastMK (i := (8 + 5 * j + 1)) dX10_enough_90 (by decide) (fun _ => rfl) rfl (by omega) (by decide) ?_
  refine A_iload dX10_enough_91 rfl ?_
  exact A_iret dX10_enough_93 ⟨hf, _, _, rfl, E.back hl, rfl⟩ ⟨by decide, by decide⟩
theorem enough_found (G : GX) (X : XC) {b : Nat} {m : CT} {ml : Nat → Nat → Int64} {r : Nat → Option AE} {n : Nat} {u1 u2 : Nat} (hu : u1 = 0 ∧ u2 = 0) {j i q : Nat} {A : Int32} {m' : CT} (hj : j < 6) (E : XM (8 + 5 * j + 1) m m') (hl : m' 0 25 = m 0 25) (hq : q ≤ 9999) (hA : nI q = A) : WA X G RX10 cX10_enough false (some .int) (qI fun x9 h1 => x9 = A ∧ ∃ m1 ml1, h1 = HM b m1 ml1 r n ∧ KM m ml m1 ml1) 5 0 0 (HM b m' ml r n) u1 u2 33 [some (.ref b), some (.int (nI j)), some (.int (nI (8 + 5 * j + 1))), some (.int (m 1 (8 + 5 * j + 1))), some (.int (nI q)), some (.int (nI i))] [] := by
  obtain ⟨rfl, rfl⟩ := hu
  refine A_iload dX10_enough_33 rfl ?_
  refine A_aload_n dX10_enough_35 rfl rfl ?_
  refine A_iload_n dX10_enough_36 rfl rfl ?_
  refine A_iconst (v := 0) dX10_enough_37 (by decide) ?_
  refine A_callVi dX10_enough_38 m_X10_241 cb_X10_of (As := [_, _]) rfl HM_at0 rfl (k_of G 0 hj (by decide)) rfl ⟨by decide, by decide⟩ (Nat.le_of_ble_eq_true rfl) ⟨by decide, by decide⟩ (fun x38 h38 hq => ?_)
  obtain ⟨rfl, rfl⟩ := hq
  refine A_icmp_gt 84 dX10_enough_41 (by decide) (fun c41 => ?_) (fun c41 => ?_)
  · exact enough_exit G X ⟨rfl, rfl⟩ hj E hl hA
  · refine A_iload dX10_enough_44 rfl ?_
    refine A_iconst (v := (-1)) dX10_enough_46 (by decide) ?_
    refine A_icmp_ne 84 dX10_enough_47 (by decide) (fun c47 => ?_) (fun c47 => ?_)
    · exact enough_exit G X ⟨rfl, rfl⟩ hj E hl hA
    · exact absurd c47 (fun z => by have e := congrArg Int32.toInt z; rw [nI_toInt (by omega)] at e; have : (-1 : Int32).toInt = -1 := rfl; omega)
theorem enough_loop (G : GX) (X : XC) {b : Nat} {c m : CT} {ml : Nat → Nat → Int64} {r : Nat → Option AE} {n : Nat} {nv nc nf nl wk : Nat} {u1 u2 : Nat} (hu : u1 = 0 ∧ u2 = 0) (h : BL nv nc nf nl wk c m) {j p : Nat} (hj : j < nv) (hp : c 8 (5 * j + 0) = nI p) (hp9 : p ≤ 9999) : ∀ (k i : Nat) (m' : CT), i + k = p + 1 → XM (8 + 5 * j + 1) m m' → m' 0 25 = m 0 25 → WA X G RX10 cX10_enough false (some .int) (qI fun x9 h1 => x9 = enF (ndP c j wk) i k ∧ ∃ m1 ml1, h1 = HM b m1 ml1 r n ∧ KM m ml m1 ml1) 5 0 0 (HM b m' ml r n) u1 u2 33 [some (.ref b), some (.int (nI j)), some (.int (nI (8 + 5 * j + 1))), some (.int (m 1 (8 + 5 * j + 1))), some (.int (-1)), some (.int (nI i))] [] := by
  obtain ⟨rfl, rfl⟩ := hu
  have hb := h.nb
  have hw30 := h.ix.2.2.2.2.2.2.2.2.2.1
  intro k
  induction k with
  | zero =>
    intro i m' hk E hl
    have eP : m' 1 (8 + 5 * j + 0) = nI p := by rw [E.1 _ (by omega), ← hp]; exact (BL_c8 h hj (by decide)).symm
    refine A_iload dX10_enough_33 rfl ?_
    refine A_aload_n dX10_enough_35 rfl rfl ?_
    refine A_iload_n dX10_enough_36 rfl rfl ?_
    refine A_iconst (v := 0) dX10_enough_37 (by decide) ?_
    refine A_callVi dX10_enough_38 m_X10_241 cb_X10_of (As := [_, _]) rfl HM_at0 rfl (k_of G 0 (by omega) (by decide)) rfl ⟨by decide, by decide⟩ (Nat.le_of_ble_eq_true rfl) ⟨by decide, by decide⟩ (fun x38 h38 hq => ?_)
    obtain ⟨rfl, rfl⟩ := hq
    refine A_eqI eP ?_
    refine A_icmp_gt 84 dX10_enough_41 (by decide) (fun c41 => ?_) (fun c41 => ?_)
    · exact enough_exit G X ⟨rfl, rfl⟩ (by omega) E hl rfl
    · exact absurd (nI_lt (by omega) (by omega)) c41
  | succ k ih =>
    intro i m' hk E hl
    have eP : m' 1 (8 + 5 * j + 0) = nI p := by rw [E.1 _ (by omega), ← hp]; exact (BL_c8 h hj (by decide)).symm
    have E1 : XM (8 + 5 * j + 1) m (put m' 1 (8 + 5 * j + 1) (nI i)) := E.pu
    have l1 : put m' 1 (8 + 5 * j + 1) (nI i) 0 25 = m 0 25 := by rw [put_ne (by decide), hl]
    obtain ⟨S, D⟩ := nd_sim h hj E1 hp (show i ≤ p by omega) hp9 put_at l1
    have M1 := E1.im' h.im hj hb.1
    have T1 := E1.tm h.tm (by omega)
    have R1 := E1.run (fl := 7)
    have R25 : runM 7 (put m' 1 (8 + 5 * j + 1) (nI i)) 0 25 = m 0 25 := (runM_R.2 25 (by decide)).trans l1
    have F := nd_iff (p := p) h hj hw30 S D
    refine A_iload dX10_enough_33 rfl ?_
    refine A_aload_n dX10_enough_35 rfl rfl ?_
    refine A_iload_n dX10_enough_36 rfl rfl ?_
    refine A_iconst (v := 0) dX10_enough_37 (by decide) ?_
    refine A_callVi dX10_enough_38 m_X10_241 cb_X10_of (As := [_, _]) rfl HM_at0 rfl (k_of G 0 (by omega) (by decide)) rfl ⟨by decide, by decide⟩ (Nat.le_of_ble_eq_true rfl) ⟨by decide, by decide⟩ (fun x38 h38 hq => ?_)
    obtain ⟨rfl, rfl⟩ := hq
    refine A_eqI eP ?_
    refine A_icmp_gt 84 dX10_enough_41 (by decide) (fun c41 => ?_) (fun c41 => ?_)
    · exact absurd c41 (nI_nlt (by omega) (by omega))
    · refine A_iload dX10_enough_44 rfl ?_
      refine A_iconst (v := (-1)) dX10_enough_46 (by decide) ?_
      refine A_icmp_ne 84 dX10_enough_47 (by decide) (fun c47 => ?_) (fun c47 => ?_)
      · exact absurd rfl c47
      · refine A_aload_n dX10_enough_50 rfl rfl ?_
        refine A_get dX10_enough_51 f_X10_9 HM_at0 rfl ?_
        refine A_iload_n dX10_enough_54 rfl rfl ?_
        refine A_iload dX10_enough_55 rfl ?_
        refine A_iastMK (i := (8 + 5 * j + 1)) dX10_enough_57 (by decide) (fun _ => rfl) rfl (by omega) (by decide) ?_
        refine A_aload_n dX10_enough_58 rfl rfl ?_
        refine A_callVv dX10_enough_59 m_X10_317 cb_X10_year (As := []) rfl HM_at0 rfl (k_year G M1 T1) rfl ⟨by decide, by decide⟩ (Nat.le_of_ble_eq_true rfl) ⟨by decide, by decide⟩ (fun h59 hq => ?_)
        obtain rfl := hq
        obtain ⟨y1, ey1⟩ : ∃ y, runM 7 (put m' 1 (8 + 5 * j + 1) (nI i)) = y := ⟨_, rfl⟩
        rw [ey1] at S R1 R25 F ⊢
        refine A_aload_n dX10_enough_62 rfl rfl ?_
        refine A_iload_n dX10_enough_63 rfl rfl ?_
        refine A_callVi dX10_enough_64 m_X10_449 cb_X10_isNeverDry (As := [_]) rfl HM_at0 rfl (k_isNeverDry G (R1.im' h.im hj hb.1) (j := j)) rfl ⟨by decide, by decide⟩ (Nat.le_of_ble_eq_true rfl) ⟨by decide, by decide⟩ (fun x64 h64 hq => ?_)
        obtain ⟨⟨h01, hiff⟩, rfl⟩ := hq
        refine A_if_eq 75 dX10_enough_67 (by decide) (fun c67 => ?_) (fun c67 => ?_)
        · refine A_iconst (v := (-1)) dX10_enough_75 (by decide) ?_
          refine A_istore (lv1 := [_, _, _, _, _, _]) dX10_enough_76 (Nat.le_of_ble_eq_true rfl) rfl rfl ?_
          refine A_inc 1 (lv1 := [_, _, _, _, _, _]) dX10_enough_78 rfl (by decide) rfl rfl ?_
          refine A_goto 33 dX10_enough_81 (by decide) ?_
          rw [nI_1]
          rw [enF, if_neg (fun z => (hiff.mpr (F.mp z)) c67)]
          exact ih (i + 1) y1 (by omega) R1 R25
        · refine A_iload dX10_enough_70 rfl ?_
          refine A_goto 76 dX10_enough_72 (by decide) ?_
          refine A_istore (lv1 := [_, _, _, _, _, _]) dX10_enough_76 (Nat.le_of_ble_eq_true rfl) rfl rfl ?_
          refine A_inc 1 (lv1 := [_, _, _, _, _, _]) dX10_enough_78 rfl (by decide) rfl rfl ?_
          refine A_goto 33 dX10_enough_81 (by decide) ?_
          rw [nI_1]
          rw [enF, if_pos (F.mpr (hiff.mp c67))]
          exact enough_found G X ⟨rfl, rfl⟩ (by omega) R1 R25 (by omega) rfl

theorem k_enough (G : GX) {b : Nat} {c m : CT} {ml : Nat → Nat → Int64} {r : Nat → Option AE} {n : Nat} {nv nc nf nl wk : Nat} {v : Int32} (h : BL nv nc nf nl wk c m) : MA G 5 yX10_enough cX10_enough 6 (some .int) 0 0 [.ref b, .int v] (HM b m ml r n) (qI fun x9 h1 => x9 = enoughA c wk v ∧ ∃ m1 ml1, h1 = HM b m1 ml1 r n ∧ KM m ml m1 ml1) := by
  refine MA.of (own := RX10) false [some (.ref b), some (.int v), none, none, none, none] (by decide +kernel) rfl (fun h => by cases h) (Nat.le_of_ble_eq_true rfl) rfl (fun X => ?_)
  have hX := h.ix
  obtain ⟨xv, xv6, xc, xc8, xf, xf3, xl, xl8, xw, xw30, xC, xL⟩ := id hX
  have hI := h.im
  obtain ⟨hv, hv6, hc, hc8, hf, hf3, hl, hl8, hw, hw30, gC, gL⟩ := id hI
  have hT := h.tm
  refine A_aload_n dX10_enough_0 rfl rfl ?_
  refine A_iload_n dX10_enough_1 rfl rfl ?_
  refine A_callVi dX10_enough_2 m_X10_93 cb_X10_isVillage (As := [_]) rfl HM_at0 rfl (k_isVillage G hv (by omega)) rfl ⟨by decide, by decide⟩ (Nat.le_of_ble_eq_true rfl) ⟨by decide, by decide⟩ (fun x2 h2 hq => ?_)
  obtain ⟨rfl, rfl⟩ := hq
  refine A_if_ne 11 dX10_enough_5 (by decide) (fun c5 => ?_) (fun c5 => ?_)
  · obtain ⟨j, hj, rfl⟩ := inI_of rfl c5 (by omega)
    refine A_bipush (v := 8) dX10_enough_11 (by decide) ?_
    refine A_iconst (v := 5) dX10_enough_13 (by decide) ?_
    refine A_iload_n dX10_enough_14 rfl rfl ?_
    refine A_imul dX10_enough_15 ?_
    refine A_iadd dX10_enough_16 ?_
    refine A_iconst (v := 1) dX10_enough_17 (by decide) ?_
    refine A_iadd dX10_enough_18 ?_
    refine A_eqI (y := nI (8 + 5 * j + 1)) (ixA (ixA (a := 8) rfl (ixU (a := 5) rfl rfl)) (b := 1) rfl) ?_
    refine A_istore_n (lv1 := [_, _, _, _, _, _]) dX10_enough_19 rfl (Nat.le_of_ble_eq_true rfl) rfl rfl ?_
    refine A_aload_n dX10_enough_20 rfl rfl ?_
    refine A_get dX10_enough_21 f_X10_9 HM_at0 rfl ?_
    refine A_iload_n dX10_enough_24 rfl rfl ?_
    refine A_ialdK (i := (8 + 5 * j + 1)) dX10_enough_25 (HM_at (by decide)) rfl (by omega) (by decide) ?_
    refine A_istore_n (lv1 := [_, _, _, _, _, _]) dX10_enough_26 rfl (Nat.le_of_ble_eq_true rfl) rfl rfl ?_
    refine A_iconst (v := (-1)) dX10_enough_27 (by decide) ?_
    refine A_istore (lv1 := [_, _, _, _, _, _]) dX10_enough_28 (Nat.le_of_ble_eq_true rfl) rfl rfl ?_
    refine A_iconst (v := 0) dX10_enough_30 (by decide) ?_
    refine A_istore (lv1 := [_, _, _, _, _, _]) dX10_enough_31 (Nat.le_of_ble_eq_true rfl) rfl rfl ?_
    obtain ⟨p, hp⟩ : ∃ p : Nat, p = (c 8 (5 * j + 0)).toInt.toNat := ⟨_, rfl⟩
    have hpr := (h.pr.1 j hj).1
    have ep : c 8 (5 * j + 0) = nI p := Int32.toInt_inj.mp (by rw [nI_toInt (by omega)]; omega)
    have e := enough_loop G X (b := b) (ml := ml) (r := r) (n := n) ⟨rfl, rfl⟩ h hj ep (by omega) (p + 1) 0 m (by omega) XM.rf rfl
    rw [show enF (ndP c j wk) 0 (p + 1) = enoughA c wk (nI j) by rw [enoughA, xv, if_neg c5, tcl_nI (by omega), ep, tcl_nI (by omega)]] at e
    exact e
  · refine A_bipush (v := (-2)) dX10_enough_8 (by decide) ?_
    exact A_iret dX10_enough_10 ⟨by rw [enoughA, xv]; exact (if_pos (by assumption)).symm, ⟨_, _, rfl, KM.rf⟩⟩ ⟨by decide, by decide⟩
