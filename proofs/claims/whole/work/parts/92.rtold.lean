/-! takes needs number told -/
theorem GS.lk {L : Nat} {f : Nat → Int32} {o : Int32 × Nat} {m : CT} (h : GS L f o m) (h0 : o.1 = 0) : m 0 12 = 0 ∧ m 0 13 = -1 ∧ LK L f o.2 m := by
  obtain ⟨-, ⟨-, b, c, d⟩ | ⟨a, -⟩⟩ := h
  · exact ⟨b, c, d⟩
  · exact absurd h0 a
theorem GS.bad {L : Nat} {f : Nat → Int32} {o : Int32 × Nat} {m : CT} (h : GS L f o m) (h0 : ¬ o.1 = 0) : ¬ m 0 12 = 0 := by
  obtain ⟨-, ⟨a, -⟩ | ⟨-, b, -⟩⟩ := h
  · exact absurd a h0
  · rw [b]; exact h0
theorem adv_G {L p : Nat} {f : Nat → Int32} {o : Int32 × Nat} {m m1 : CT} (h : GS L f o m) (h0 : o.1 = 0) (hS : SMt m m1) (hK : LK L f p m1) : GS L f (0, p) m1 := by
  obtain ⟨a, b, -⟩ := h.lk h0
  refine ⟨h.1.to (hS.1 4 (by decide)), Or.inl ⟨rfl, ?_, ?_, hK⟩⟩
  · rw [hS.2 12 (by decide) (by decide) (by decide) (by decide)]; exact a
  · rw [hS.2 13 (by decide) (by decide) (by decide) (by decide)]; exact b
theorem er_GB {L : Nat} {f : Nat → Int32} {o : Int32 × Nat} {m : CT} {k : Int32} (h : GS L f o m) (h0 : ¬ o.1 = 0) : erM k m = m := er_B (L := L) (f := f) (o := o) (h.bad h0)
def tkO (f : Nat → Int32) (L j : Nat) (o : Int32 × Nat) : Int32 × Nat := if o.1 = 0 ∧ wdB f L o.2 j = true then (0, nxP f L o.2) else o
theorem needs_1 {f : Nat → Int32} {L j : Nat} {o : Int32 × Nat} (h : o.1 = 0 ∧ wdB f L o.2 j = true) : thn o (wdO f L j) = tkO f L j o := by rw [thn, if_pos h.1, wdO, if_pos h.2, tkO, if_pos h]
theorem needs_2 {f : Nat → Int32} {L j : Nat} {o : Int32 × Nat} {m : CT} (h : ¬ (o.1 = 0 ∧ wdB f L o.2 j = true)) (hG : GS L f (tkO f L j o) m) : GS L f (thn o (wdO f L j)) (erM 1 m) := by
  rw [tkO, if_neg h] at hG
  by_cases h0 : o.1 = 0
  · obtain ⟨a, -, c⟩ := hG.lk h0
    rw [thn, if_pos h0, wdO, if_neg (fun w => h ⟨h0, w⟩)]
    exact er_G (by decide) hG.1 a c
  · rw [thn, if_neg h0, er_GB hG h0]; exact hG
theorem in_3 {x lo hi : Int32} : inL x.toInt64 lo.toInt64 hi.toInt64 = if x < lo ∨ hi < x then 0 else 1 := by simp only [inL, i64_lt]
theorem k_takesW (G : GX) {b : Nat} {m : CT} {ml : Nat → Nat → Int64} {r : Nat → Option AE} {n : Nat} {L j : Nat} {f : Nat → Int32} {o : Int32 × Nat} (hj : j < 31) (hG : GS L f o m) : MA G 7 yX10_takes cX10_takes 3 (some .boolean) 0 0 [.ref b, .ref (gK G j)] (HM b m ml r n) (qI fun x9 h1 => x9 = (if o.1 = 0 ∧ wdB f L o.2 j = true then 1 else 0) ∧ ∃ m1, h1 = HM b m1 ml r n ∧ SMf m m1 ∧ GS L f (tkO f L j o) m1) := by
  refine MA.of (own := RX10) false [some (.ref b), some (.ref (gK G j)), none] (by decide +kernel) rfl (fun h => by cases h) (Nat.le_of_ble_eq_true rfl) rfl (fun X => ?_)
  refine A_aload_n dX10_takes_0 rfl rfl ?_
  refine A_aload_n dX10_takes_1 rfl rfl ?_
  refine A_callVi dX10_takes_2 m_X10_150 cb_X10_is (As := [_]) rfl HM_at0 rfl (k_is G hj hG) rfl ⟨by decide, by decide⟩ (Nat.le_of_ble_eq_true rfl) ⟨by decide, by decide⟩ (fun x2 h2 hq => ?_)
  obtain ⟨rfl, rfl⟩ := hq
  refine A_istore_n (lv1 := [_, _, _]) dX10_takes_5 rfl (Nat.le_of_ble_eq_true rfl) rfl rfl ?_
  refine A_iload_n dX10_takes_6 rfl rfl ?_
  refine A_if_eq 14 dX10_takes_7 (by decide) (fun c7 => ?_) (fun c7 => ?_)
  · refine A_iload_n dX10_takes_14 rfl rfl ?_
    exact A_zret dX10_takes_15 (by split <;> rfl) ⟨rfl, m, rfl, SMf.rf, by rw [tkO, if_neg (fun w => by rw [if_pos w] at c7; exact absurd c7 (by decide))]; exact hG⟩ ⟨by decide, by decide⟩
  · have hw : o.1 = 0 ∧ wdB f L o.2 j = true := by by_cases w : o.1 = 0 ∧ wdB f L o.2 j = true; exact w; exact absurd (if_neg w) c7
    obtain ⟨h7, hL, hp, hf, -, -, h8, -⟩ := (hG.lk hw.1).2.2
    have hfL : f L = -1 := by rw [← hf]; exact myF_L h7
    have heb := tkE_b (f := f) (tkS_b (f := f) hp).2 hfL
    refine A_aload_n dX10_takes_10 rfl rfl ?_
    refine A_callVv dX10_takes_11 m_X10_154 cb_X10_advance (As := []) rfl HM_at0 rfl (k_advance G (p := nxP f L o.2) h7 hL heb.2 hf h8) rfl ⟨by decide, by decide⟩ (Nat.le_of_ble_eq_true rfl) ⟨by decide, by decide⟩ (fun h11 hq => ?_)
    obtain ⟨m1, rfl, hS, hK⟩ := hq
    refine A_iload_n dX10_takes_14 rfl rfl ?_
    exact A_zret dX10_takes_15 (by split <;> rfl) ⟨rfl, m1, rfl, hS.s, by rw [tkO, if_pos hw]; exact adv_G hG hw.1 hS hK⟩ ⟨by decide, by decide⟩

theorem k_needs (G : GX) {b : Nat} {m : CT} {ml : Nat → Nat → Int64} {r : Nat → Option AE} {n : Nat} {L j : Nat} {f : Nat → Int32} {o : Int32 × Nat} (hj : j < 31) (hG : GS L f o m) : MA G 8 yX10_needs cX10_needs 2 none 0 0 [.ref b, .ref (gK G j)] (HM b m ml r n) (qV fun h1 => ∃ m1, h1 = HM b m1 ml r n ∧ SMf m m1 ∧ GS L f (thn o (wdO f L j)) m1) := by
  refine MA.of (own := RX10) false [some (.ref b), some (.ref (gK G j))] (by decide +kernel) rfl (fun h => by cases h) (Nat.le_of_ble_eq_true rfl) rfl (fun X => ?_)
  refine A_aload_n dX10_needs_0 rfl rfl ?_
  refine A_aload_n dX10_needs_1 rfl rfl ?_
  refine A_callVi dX10_needs_2 m_X10_157 cb_X10_takes (As := [_]) rfl HM_at0 rfl (k_takesW G hj hG) rfl ⟨by decide, by decide⟩ (Nat.le_of_ble_eq_true rfl) ⟨by decide, by decide⟩ (fun x2 h2 hq => ?_)
  obtain ⟨rfl, m1, rfl, hS, hG1⟩ := hq
  refine A_if_ne 13 dX10_needs_5 (by decide) (fun c5 => ?_) (fun c5 => ?_)
  · exact A_vret dX10_needs_13 ⟨m1, rfl, hS, by rw [needs_1 (by by_cases w : o.1 = 0 ∧ wdB f L o.2 j = true; exact w; exact absurd (if_neg w) c5)]; exact hG1⟩ ⟨by decide, by decide⟩
  · refine A_aload_n dX10_needs_8 rfl rfl ?_
    refine A_iconst (v := 1) dX10_needs_9 (by decide) ?_
    refine A_callVv dX10_needs_10 m_X10_160 cb_X10_errs (As := [_]) rfl HM_at0 rfl (k_errs G) rfl ⟨by decide, by decide⟩ (Nat.le_of_ble_eq_true rfl) ⟨by decide, by decide⟩ (fun h10 hq => ?_)
    obtain rfl := hq
    exact A_vret dX10_needs_13 ⟨_, rfl, hS.tr erM_s, needs_2 (fun w => by rw [if_pos w] at c5; exact absurd c5 (by decide)) hG1⟩ ⟨by decide, by decide⟩

theorem k_number (G : GX) {b : Nat} {m : CT} {ml : Nat → Nat → Int64} {r : Nat → Option AE} {n : Nat} {L : Nat} {f : Nat → Int32} {o : Int32 × Nat} {lo hi : Int32} (hG : GS L f o m) : MA G 2 yX10_number cX10_number 4 (some .int) 0 0 [.ref b, .int lo, .int hi] (HM b m ml r n) (qI fun x9 h1 => x9 = (if (thn o (nuO f L lo hi)).1 = 0 then nuW f L o.2 else 0) ∧ ∃ m1, h1 = HM b m1 ml r n ∧ SMf m m1 ∧ GS L f (thn o (nuO f L lo hi)) m1) := by
  refine MA.of (own := RX10) false [some (.ref b), some (.int lo), some (.int hi), none] (by decide +kernel) rfl (fun h => by cases h) (Nat.le_of_ble_eq_true rfl) rfl (fun X => ?_)
  by_cases b0 : o.1 = 0
  · obtain ⟨g0, g1, hLK⟩ := hG.lk b0
    obtain ⟨h7, hL, hp, hf, h10, h9, h8, h11⟩ := id hLK
    have hfL : f L = -1 := by rw [← hf]; exact myF_L h7
    have heb := tkE_b (f := f) (tkS_b (f := f) hp).2 hfL
    have eN0 : thn o (nuO f L lo hi) = nuO f L lo hi o.2 := if_pos b0
    by_cases kY : tkK f (tkS f L o.2) = 2
    · have eT : thn o (nuO f L lo hi) = if nuW f L o.2 < lo ∨ hi < nuW f L o.2 then (2, tkS f L o.2) else (0, nxP f L o.2) := by rw [eN0, nuO, if_neg (fun w => w kY)]
      refine A_aload_n dX10_number_0 rfl rfl ?_
      refine A_callVi dX10_number_1 m_X10_137 cb_X10_good (As := []) rfl HM_at0 rfl (k_good G) rfl ⟨by decide, by decide⟩ (Nat.le_of_ble_eq_true rfl) ⟨by decide, by decide⟩ (fun x1 h1 hq => ?_)
      obtain ⟨rfl, rfl⟩ := hq
      refine A_if_eq 20 dX10_number_4 (by decide) (fun c4 => ?_) (fun c4 => ?_)
      · rw [if_pos g0] at c4
        exact absurd c4 (by decide)
      · refine A_aload_n dX10_number_7 rfl rfl ?_
        refine A_get dX10_number_8 f_X10_113 HM_at0 rfl ?_
        refine A_iconst (v := 2) dX10_number_11 (by decide) ?_
        refine A_icmp_eq 20 dX10_number_12 (by decide) (fun c12 => ?_) (fun c12 => ?_)
        · refine A_aload_n dX10_number_20 rfl rfl ?_
          refine A_callVi dX10_number_21 m_X10_137 cb_X10_good (As := []) rfl HM_at0 rfl (k_good G) rfl ⟨by decide, by decide⟩ (Nat.le_of_ble_eq_true rfl) ⟨by decide, by decide⟩ (fun x21 h21 hq => ?_)
          obtain ⟨rfl, rfl⟩ := hq
          refine A_if_eq 47 dX10_number_24 (by decide) (fun c24 => ?_) (fun c24 => ?_)
          · rw [if_pos g0] at c24
            exact absurd c24 (by decide)
          · refine A_aload_n dX10_number_27 rfl rfl ?_
            refine A_get dX10_number_28 f_X10_124 HM_at0 rfl ?_
            refine A_eqI (y := nuW f L o.2) (h11 kY) ?_
            refine A_i2l dX10_number_31 ?_
            refine A_iload_n dX10_number_32 rfl rfl ?_
            refine A_i2l dX10_number_33 ?_
            refine A_iload_n dX10_number_34 rfl rfl ?_
            refine A_i2l dX10_number_35 ?_
            refine A_callSi dX10_number_36 m_X10_85 cb_X10_in (As := [_, _, _]) rfl (k_in G) rfl ⟨by decide, by decide⟩ (Nat.le_of_ble_eq_true rfl) ⟨by decide, by decide⟩ (fun x36 h36 hq => ?_)
            obtain ⟨rfl, rfl⟩ := hq
            refine A_eqI in_3 ?_
            refine A_if_ne 47 dX10_number_39 (by decide) (fun c39 => ?_) (fun c39 => ?_)
            · refine A_aload_n dX10_number_47 rfl rfl ?_
              refine A_callVi dX10_number_48 m_X10_137 cb_X10_good (As := []) rfl HM_at0 rfl (k_good G) rfl ⟨by decide, by decide⟩ (Nat.le_of_ble_eq_true rfl) ⟨by decide, by decide⟩ (fun x48 h48 hq => ?_)
              obtain ⟨rfl, rfl⟩ := hq
              refine A_if_ne 56 dX10_number_51 (by decide) (fun c51 => ?_) (fun c51 => ?_)
              · refine A_aload_n dX10_number_56 rfl rfl ?_
                refine A_get dX10_number_57 f_X10_124 HM_at0 rfl ?_
                refine A_eqI (y := nuW f L o.2) (h11 kY) ?_
                refine A_istore_n (lv1 := [_, _, _, _]) dX10_number_60 rfl (Nat.le_of_ble_eq_true rfl) rfl rfl ?_
                refine A_aload_n dX10_number_61 rfl rfl ?_
                refine A_callVv dX10_number_62 m_X10_154 cb_X10_advance (As := []) rfl HM_at0 rfl (k_advance G (p := nxP f L o.2) h7 hL heb.2 hf h8) rfl ⟨by decide, by decide⟩ (Nat.le_of_ble_eq_true rfl) ⟨by decide, by decide⟩ (fun h62 hq => ?_)
                obtain ⟨m1, rfl, hS, hK⟩ := hq
                have hin : ¬ (nuW f L o.2 < lo ∨ hi < nuW f L o.2) := fun w => c39 (if_pos w)
                refine A_iload_n dX10_number_65 rfl rfl ?_
                exact A_iret dX10_number_66 ⟨by rw [eT, if_neg hin, if_pos (show ((0 : Int32), nxP f L o.2).1 = 0 from rfl)], m1, rfl, hS.s, by rw [eT, if_neg hin]; exact adv_G hG b0 hS hK⟩ ⟨by decide, by decide⟩
              · rw [if_pos g0] at c51
                exact absurd c51 (by decide)
            · refine A_aload_n dX10_number_42 rfl rfl ?_
              refine A_iconst (v := 2) dX10_number_43 (by decide) ?_
              refine A_callVv dX10_number_44 m_X10_160 cb_X10_errs (As := [_]) rfl HM_at0 rfl (k_errs G) rfl ⟨by decide, by decide⟩ (Nat.le_of_ble_eq_true rfl) ⟨by decide, by decide⟩ (fun h44 hq => ?_)
              obtain rfl := hq
              have hGB : GS L f (2, tkS f L o.2) (erM 2 m) := er_G (by decide) hG.1 g0 hLK
              have gB : ¬ (erM 2 m) 0 12 = 0 := hGB.bad (show ¬ (2 : Int32) = 0 by decide)
              have hin2 : nuW f L o.2 < lo ∨ hi < nuW f L o.2 := by by_cases w : nuW f L o.2 < lo ∨ hi < nuW f L o.2; exact w; rw [if_neg w] at c39; exact absurd c39 (by decide)
              have eT2 : thn o (nuO f L lo hi) = (2, tkS f L o.2) := by rw [eT, if_pos hin2]
              refine A_aload_n dX10_number_47 rfl rfl ?_
              refine A_callVi dX10_number_48 m_X10_137 cb_X10_good (As := []) rfl HM_at0 rfl (k_good G) rfl ⟨by decide, by decide⟩ (Nat.le_of_ble_eq_true rfl) ⟨by decide, by decide⟩ (fun x48 h48 hq => ?_)
              obtain ⟨rfl, rfl⟩ := hq
              refine A_if_ne 56 dX10_number_51 (by decide) (fun c51 => ?_) (fun c51 => ?_)
              · exact absurd (if_neg gB) c51
              · refine A_iconst (v := 0) dX10_number_54 (by decide) ?_
                exact A_iret dX10_number_55 ⟨by rw [eT2, if_neg (show ¬ ((2 : Int32), tkS f L o.2).1 = 0 from (by decide : ¬ (2 : Int32) = 0))], _, rfl, erM_s, by rw [eT2]; exact hGB⟩ ⟨by decide, by decide⟩
        · exact absurd (h10.trans kY) c12
    · have kN := kY
      have eN : thn o (nuO f L lo hi) = (1, tkS f L o.2) := by rw [eN0, nuO, if_pos kN]
      refine A_aload_n dX10_number_0 rfl rfl ?_
      refine A_callVi dX10_number_1 m_X10_137 cb_X10_good (As := []) rfl HM_at0 rfl (k_good G) rfl ⟨by decide, by decide⟩ (Nat.le_of_ble_eq_true rfl) ⟨by decide, by decide⟩ (fun x1 h1 hq => ?_)
      obtain ⟨rfl, rfl⟩ := hq
      refine A_if_eq 20 dX10_number_4 (by decide) (fun c4 => ?_) (fun c4 => ?_)
      · rw [if_pos g0] at c4
        exact absurd c4 (by decide)
      · refine A_aload_n dX10_number_7 rfl rfl ?_
        refine A_get dX10_number_8 f_X10_113 HM_at0 rfl ?_
        refine A_iconst (v := 2) dX10_number_11 (by decide) ?_
        refine A_icmp_eq 20 dX10_number_12 (by decide) (fun c12 => ?_) (fun c12 => ?_)
        · exact absurd (h10.symm.trans c12) kN
        · refine A_aload_n dX10_number_15 rfl rfl ?_
          refine A_iconst (v := 1) dX10_number_16 (by decide) ?_
          refine A_callVv dX10_number_17 m_X10_160 cb_X10_errs (As := [_]) rfl HM_at0 rfl (k_errs G) rfl ⟨by decide, by decide⟩ (Nat.le_of_ble_eq_true rfl) ⟨by decide, by decide⟩ (fun h17 hq => ?_)
          obtain rfl := hq
          have hGB : GS L f (1, tkS f L o.2) (erM 1 m) := er_G (by decide) hG.1 g0 hLK
          have gB : ¬ (erM 1 m) 0 12 = 0 := hGB.bad (show ¬ (1 : Int32) = 0 by decide)
          refine A_aload_n dX10_number_20 rfl rfl ?_
          refine A_callVi dX10_number_21 m_X10_137 cb_X10_good (As := []) rfl HM_at0 rfl (k_good G) rfl ⟨by decide, by decide⟩ (Nat.le_of_ble_eq_true rfl) ⟨by decide, by decide⟩ (fun x21 h21 hq => ?_)
          obtain ⟨rfl, rfl⟩ := hq
          refine A_if_eq 47 dX10_number_24 (by decide) (fun c24 => ?_) (fun c24 => ?_)
          · refine A_aload_n dX10_number_47 rfl rfl ?_
            refine A_callVi dX10_number_48 m_X10_137 cb_X10_good (As := []) rfl HM_at0 rfl (k_good G) rfl ⟨by decide, by decide⟩ (Nat.le_of_ble_eq_true rfl) ⟨by decide, by decide⟩ (fun x48 h48 hq => ?_)
            obtain ⟨rfl, rfl⟩ := hq
            refine A_if_ne 56 dX10_number_51 (by decide) (fun c51 => ?_) (fun c51 => ?_)
            · exact absurd (if_neg gB) c51
            · refine A_iconst (v := 0) dX10_number_54 (by decide) ?_
              exact A_iret dX10_number_55 ⟨by rw [eN, if_neg (show ¬ ((1 : Int32), tkS f L o.2).1 = 0 from (by decide : ¬ (1 : Int32) = 0))], _, rfl, erM_s, by rw [eN]; exact hGB⟩ ⟨by decide, by decide⟩
          · exact absurd (if_neg gB) c24
  · have gB := hG.bad b0
    refine A_aload_n dX10_number_0 rfl rfl ?_
    refine A_callVi dX10_number_1 m_X10_137 cb_X10_good (As := []) rfl HM_at0 rfl (k_good G) rfl ⟨by decide, by decide⟩ (Nat.le_of_ble_eq_true rfl) ⟨by decide, by decide⟩ (fun x1 h1 hq => ?_)
    obtain ⟨rfl, rfl⟩ := hq
    refine A_if_eq 20 dX10_number_4 (by decide) (fun c4 => ?_) (fun c4 => ?_)
    · refine A_aload_n dX10_number_20 rfl rfl ?_
      refine A_callVi dX10_number_21 m_X10_137 cb_X10_good (As := []) rfl HM_at0 rfl (k_good G) rfl ⟨by decide, by decide⟩ (Nat.le_of_ble_eq_true rfl) ⟨by decide, by decide⟩ (fun x21 h21 hq => ?_)
      obtain ⟨rfl, rfl⟩ := hq
      refine A_if_eq 47 dX10_number_24 (by decide) (fun c24 => ?_) (fun c24 => ?_)
      · refine A_aload_n dX10_number_47 rfl rfl ?_
        refine A_callVi dX10_number_48 m_X10_137 cb_X10_good (As := []) rfl HM_at0 rfl (k_good G) rfl ⟨by decide, by decide⟩ (Nat.le_of_ble_eq_true rfl) ⟨by decide, by decide⟩ (fun x48 h48 hq => ?_)
        obtain ⟨rfl, rfl⟩ := hq
        refine A_if_ne 56 dX10_number_51 (by decide) (fun c51 => ?_) (fun c51 => ?_)
        · exact absurd (if_neg gB) c51
        · refine A_iconst (v := 0) dX10_number_54 (by decide) ?_
          exact A_iret dX10_number_55 ⟨by rw [thn, if_neg b0, if_neg b0], m, rfl, SMf.rf, by rw [thn, if_neg b0]; exact hG⟩ ⟨by decide, by decide⟩
      · exact absurd (if_neg gB) c24
    · exact absurd (if_neg gB) c4
theorem k_told (G : GX) {b : Nat} {m : CT} {ml : Nat → Nat → Int64} {r : Nat → Option AE} {n : Nat} {L j : Nat} {f : Nat → Int32} {o : Int32 × Nat} {lo hi : Int32} (hj : j < 31) (hG : GS L f o m) : MA G 9 yX10_told cX10_told 4 (some .int) 0 0 [.ref b, .ref (gK G j), .int lo, .int hi] (HM b m ml r n) (qI fun x9 h1 => x9 = (if (thn (thn o (wdO f L j)) (nuO f L lo hi)).1 = 0 then nuW f L (thn o (wdO f L j)).2 else 0) ∧ ∃ m1, h1 = HM b m1 ml r n ∧ SMf m m1 ∧ GS L f (thn (thn o (wdO f L j)) (nuO f L lo hi)) m1) := by
  refine MA.of (own := RX10) false [some (.ref b), some (.ref (gK G j)), some (.int lo), some (.int hi)] (by decide +kernel) rfl (fun h => by cases h) (Nat.le_of_ble_eq_true rfl) rfl (fun X => ?_)
  refine A_aload_n dX10_told_0 rfl rfl ?_
  refine A_aload_n dX10_told_1 rfl rfl ?_
  refine A_callVv dX10_told_2 m_X10_164 cb_X10_needs (As := [_]) rfl HM_at0 rfl (k_needs G hj hG) rfl ⟨by decide, by decide⟩ (Nat.le_of_ble_eq_true rfl) ⟨by decide, by decide⟩ (fun h2 hq => ?_)
  obtain ⟨m1, rfl, hS, hG1⟩ := hq
  refine A_aload_n dX10_told_5 rfl rfl ?_
  refine A_iload_n dX10_told_6 rfl rfl ?_
  refine A_iload_n dX10_told_7 rfl rfl ?_
  refine A_callVi dX10_told_8 m_X10_168 cb_X10_number (As := [_, _]) rfl HM_at0 rfl (k_number G hG1) rfl ⟨by decide, by decide⟩ (Nat.le_of_ble_eq_true rfl) ⟨by decide, by decide⟩ (fun x8 h8 hq => ?_)
  obtain ⟨rfl, m2, rfl, hS2, hG2⟩ := hq
  exact A_iret dX10_told_11 ⟨rfl, m2, rfl, hS.tr hS2, hG2⟩ ⟨by decide, by decide⟩

theorem k_freshVillage (G : GX) {b : Nat} {m : CT} {ml : Nat → Nat → Int64} {r : Nat → Option AE} {n : Nat} {L : Nat} {f : Nat → Int32} {o : Int32 × Nat} (hG : GS L f o m) : MA G 3 yX10_freshVillage cX10_freshVillage 1 (some .int) 0 0 [.ref b] (HM b m ml r n) (qI fun x9 h1 => x9 = (if (thn o (nuO f L 0 (m 6 0 - 1))).1 = 0 then nuW f L o.2 else 0) ∧ ∃ m1, h1 = HM b m1 ml r n ∧ SMf m m1 ∧ GS L f (thn o (nuO f L 0 (m 6 0 - 1))) m1) := by
  refine MA.of (own := RX10) false [some (.ref b)] (by decide +kernel) rfl (fun h => by cases h) (Nat.le_of_ble_eq_true rfl) rfl (fun X => ?_)
  refine A_aload_n dX10_freshVillage_0 rfl rfl ?_
  refine A_iconst (v := 0) dX10_freshVillage_1 (by decide) ?_
  refine A_aload_n dX10_freshVillage_2 rfl rfl ?_
  refine A_get dX10_freshVillage_3 f_X10_31 HM_at0 rfl ?_
  refine A_iconst (v := 0) dX10_freshVillage_6 (by decide) ?_
  refine A_ialdK (i := 0) dX10_freshVillage_7 (HM_at (by decide)) rfl (by omega) (by decide) ?_
  refine A_iconst (v := 1) dX10_freshVillage_8 (by decide) ?_
  refine A_isub dX10_freshVillage_9 ?_
  refine A_callVi dX10_freshVillage_10 m_X10_168 cb_X10_number (As := [_, _]) rfl HM_at0 rfl (k_number G hG) rfl ⟨by decide, by decide⟩ (Nat.le_of_ble_eq_true rfl) ⟨by decide, by decide⟩ (fun x10 h10 hq => ?_)
  obtain ⟨rfl, m2, rfl, hS2, hG2⟩ := hq
  exact A_iret dX10_freshVillage_13 ⟨rfl, m2, rfl, hS2, hG2⟩ ⟨by decide, by decide⟩
