/-! readNext: which LINE -/
theorem nx_b (G : GX) (X : XC) {b : Nat} {m0 m : CT} {ml : Nat → Nat → Int64} {r : Nat → Option AE} {n L : Nat} {f : Nat → Int32} {s : RS} {R : RS} {x1 : Int32} {u1 u2 : Nat} (hu : u1 = 0 ∧ u2 = 0) (hT : STr L f m0 s m) (b0 : ¬ s.1.1 = 0) (hE : R = s) : WA X G RX10 cX10_readNext false none (qV fun h1 => ∃ m1, h1 = HM b m1 ml r n ∧ STr L f m0 (R) m1) 11 0 0 (HM b m ml r n) u1 u2 69 [some (.ref b), some (.int x1), none] [] := by
  obtain ⟨rfl, rfl⟩ := hu
  refine A_aload_n dX10_readNext_69 rfl rfl ?_
  refine A_ldcS 11 dX10_readNext_70 rfl ?_
  refine A_callVi dX10_readNext_72 m_X10_150 cb_X10_is (As := [_]) rfl HM_at0 rfl (k_is G (j := 11) (by decide) hT.2.1) rfl ⟨by decide, by decide⟩ (Nat.le_of_ble_eq_true rfl) ⟨by decide, by decide⟩ (fun x72 h72 hq => ?_)
  obtain ⟨rfl, rfl⟩ := hq
  refine A_if_eq 89 dX10_readNext_75 (by decide) (fun c75 => ?_) (fun c75 => ?_)
  · refine A_aload_n dX10_readNext_89 rfl rfl ?_
    refine A_ldcS 12 dX10_readNext_90 rfl ?_
    refine A_callVi dX10_readNext_92 m_X10_150 cb_X10_is (As := [_]) rfl HM_at0 rfl (k_is G (j := 12) (by decide) hT.2.1) rfl ⟨by decide, by decide⟩ (Nat.le_of_ble_eq_true rfl) ⟨by decide, by decide⟩ (fun x92 h92 hq => ?_)
    obtain ⟨rfl, rfl⟩ := hq
    refine A_if_eq 109 dX10_readNext_95 (by decide) (fun c95 => ?_) (fun c95 => ?_)
    · refine A_aload_n dX10_readNext_109 rfl rfl ?_
      refine A_ldcS 14 dX10_readNext_110 rfl ?_
      refine A_callVi dX10_readNext_112 m_X10_150 cb_X10_is (As := [_]) rfl HM_at0 rfl (k_is G (j := 14) (by decide) hT.2.1) rfl ⟨by decide, by decide⟩ (Nat.le_of_ble_eq_true rfl) ⟨by decide, by decide⟩ (fun x112 h112 hq => ?_)
      obtain ⟨rfl, rfl⟩ := hq
      refine A_if_eq 128 dX10_readNext_115 (by decide) (fun c115 => ?_) (fun c115 => ?_)
      · refine A_aload_n dX10_readNext_128 rfl rfl ?_
        refine A_ldcS 15 dX10_readNext_129 rfl ?_
        refine A_callVi dX10_readNext_131 m_X10_150 cb_X10_is (As := [_]) rfl HM_at0 rfl (k_is G (j := 15) (by decide) hT.2.1) rfl ⟨by decide, by decide⟩ (Nat.le_of_ble_eq_true rfl) ⟨by decide, by decide⟩ (fun x131 h131 hq => ?_)
        obtain ⟨rfl, rfl⟩ := hq
        refine A_if_eq 153 dX10_readNext_134 (by decide) (fun c134 => ?_) (fun c134 => ?_)
        · refine A_aload_n dX10_readNext_153 rfl rfl ?_
          refine A_callVi dX10_readNext_154 m_X10_137 cb_X10_good (As := []) rfl HM_at0 rfl (k_good G) rfl ⟨by decide, by decide⟩ (Nat.le_of_ble_eq_true rfl) ⟨by decide, by decide⟩ (fun x154 h154 hq => ?_)
          obtain ⟨rfl, rfl⟩ := hq
          refine A_if_ne 161 dX10_readNext_157 (by decide) (fun c157 => ?_) (fun c157 => ?_)
          · exact absurd (if_neg (hT.2.1.bad b0)) c157
          · exact A_vret dX10_readNext_160 ⟨_, rfl, by rw [hE]; exact hT⟩ ⟨by decide, by decide⟩
        · exact absurd (if_neg (fun w => b0 w.1)) c134
      · exact absurd (if_neg (fun w => b0 w.1)) c115
    · exact absurd (if_neg (fun w => b0 w.1)) c95
  · exact absurd (if_neg (fun w => b0 w.1)) c75
theorem nx_f {f : Nat → Int32} {L p N0 N1 N2 N3 K : Nat} {g : Nat → Int32} (hC : CF g N0 N1 N2 N3 K) (nf : (wdB f L p 11 = true → N0 < 6) ∧ (wdB f L p 12 = true → N1 < 8) ∧ (wdB f L p 14 = true → N2 < 3) ∧ (wdB f L p 15 = true → N3 < 8)) : ¬ fuP f L p g := by
  obtain ⟨⟨g0, b0⟩, ⟨g1, b1⟩, ⟨g2, b2⟩, ⟨g3, b3⟩, g5, b5⟩ := hC
  rintro (⟨a, e⟩ | ⟨a, e⟩ | ⟨a, e⟩ | ⟨a, e⟩)
  · have h1 := nf.1 a
    rw [g0] at e
    have := (nI_eq (b := 6) (by omega) (by decide)).mp e
    omega
  · have h1 := nf.2.1 a
    rw [g1] at e
    have := (nI_eq (b := 8) (by omega) (by decide)).mp e
    omega
  · have h1 := nf.2.2.1 a
    rw [g2] at e
    have := (nI_eq (b := 3) (by omega) (by decide)).mp e
    omega
  · have h1 := nf.2.2.2 a
    rw [g3] at e
    have := (nI_eq (b := 8) (by omega) (by decide)).mp e
    omega
theorem nx_a (G : GX) (X : XC) {b : Nat} {m0 m : CT} {ml : Nat → Nat → Int64} {r : Nat → Option AE} {n L N0 N1 N2 N3 K : Nat} {f : Nat → Int32} {s : RS} {R : RS} {x1 : Int32} {u1 u2 : Nat} (hu : u1 = 0 ∧ u2 = 0) (hT : STr L f m0 s m) (h0 : s.1.1 = 0) (hC : CF s.2 N0 N1 N2 N3 K) (hK : knP f L s.1.2) (hE : R = nxS f L s) : WA X G RX10 cX10_readNext false none (qV fun h1 => ∃ m1, h1 = HM b m1 ml r n ∧ STr L f m0 (R) m1) 11 0 0 (HM b m ml r n) u1 u2 69 [some (.ref b), some (.int x1), none] [] := by
  obtain ⟨rfl, rfl⟩ := hu
  obtain ⟨⟨g0, b0⟩, ⟨g1, b1⟩, ⟨g2, b2⟩, ⟨g3, b3⟩, g5, b5⟩ := hC
  refine A_aload_n dX10_readNext_69 rfl rfl ?_
  refine A_ldcS 11 dX10_readNext_70 rfl ?_
  refine A_callVi dX10_readNext_72 m_X10_150 cb_X10_is (As := [_]) rfl HM_at0 rfl (k_is G (j := 11) (by decide) hT.2.1) rfl ⟨by decide, by decide⟩ (Nat.le_of_ble_eq_true rfl) ⟨by decide, by decide⟩ (fun x72 h72 hq => ?_)
  obtain ⟨rfl, rfl⟩ := hq
  refine A_if_eq 89 dX10_readNext_75 (by decide) (fun c75 => ?_) (fun c75 => ?_)
  · refine A_aload_n dX10_readNext_89 rfl rfl ?_
    refine A_ldcS 12 dX10_readNext_90 rfl ?_
    refine A_callVi dX10_readNext_92 m_X10_150 cb_X10_is (As := [_]) rfl HM_at0 rfl (k_is G (j := 12) (by decide) hT.2.1) rfl ⟨by decide, by decide⟩ (Nat.le_of_ble_eq_true rfl) ⟨by decide, by decide⟩ (fun x92 h92 hq => ?_)
    obtain ⟨rfl, rfl⟩ := hq
    refine A_if_eq 109 dX10_readNext_95 (by decide) (fun c95 => ?_) (fun c95 => ?_)
    · refine A_aload_n dX10_readNext_109 rfl rfl ?_
      refine A_ldcS 14 dX10_readNext_110 rfl ?_
      refine A_callVi dX10_readNext_112 m_X10_150 cb_X10_is (As := [_]) rfl HM_at0 rfl (k_is G (j := 14) (by decide) hT.2.1) rfl ⟨by decide, by decide⟩ (Nat.le_of_ble_eq_true rfl) ⟨by decide, by decide⟩ (fun x112 h112 hq => ?_)
      obtain ⟨rfl, rfl⟩ := hq
      refine A_if_eq 128 dX10_readNext_115 (by decide) (fun c115 => ?_) (fun c115 => ?_)
      · refine A_aload_n dX10_readNext_128 rfl rfl ?_
        refine A_ldcS 15 dX10_readNext_129 rfl ?_
        refine A_callVi dX10_readNext_131 m_X10_150 cb_X10_is (As := [_]) rfl HM_at0 rfl (k_is G (j := 15) (by decide) hT.2.1) rfl ⟨by decide, by decide⟩ (Nat.le_of_ble_eq_true rfl) ⟨by decide, by decide⟩ (fun x131 h131 hq => ?_)
        obtain ⟨rfl, rfl⟩ := hq
        refine A_if_eq 153 dX10_readNext_134 (by decide) (fun c134 => ?_) (fun c134 => ?_)
        · refine A_aload_n dX10_readNext_153 rfl rfl ?_
          refine A_callVi dX10_readNext_154 m_X10_137 cb_X10_good (As := []) rfl HM_at0 rfl (k_good G) rfl ⟨by decide, by decide⟩ (Nat.le_of_ble_eq_true rfl) ⟨by decide, by decide⟩ (fun x154 h154 hq => ?_)
          obtain ⟨rfl, rfl⟩ := hq
          refine A_if_ne 161 dX10_readNext_157 (by decide) (fun c157 => ?_) (fun c157 => ?_)
          · have nf : (wdB f L s.1.2 11 = true → N0 < 6) ∧ (wdB f L s.1.2 12 = true → N1 < 8) ∧ (wdB f L s.1.2 14 = true → N2 < 3) ∧ (wdB f L s.1.2 15 = true → N3 < 8) := ⟨fun w => absurd w (is_n c75 h0), fun w => absurd w (is_n c95 h0), fun w => absurd w (is_n c115 h0), fun w => absurd w (is_n c134 h0)⟩
            rw [hE, nxS, if_neg (fun w => w hK), if_neg (nx_f ⟨⟨g0, b0⟩, ⟨g1, b1⟩, ⟨g2, b2⟩, ⟨g3, b3⟩, g5, b5⟩ nf)]
            exact nx_d G X ⟨rfl, rfl⟩ hT h0 ⟨⟨g0, b0⟩, ⟨g1, b1⟩, ⟨g2, b2⟩, ⟨g3, b3⟩, g5, b5⟩ nf
          · rw [if_pos (hT.2.1.lk h0).1] at c157
            exact absurd c157 (by decide)
        · refine A_aload_n dX10_readNext_137 rfl rfl ?_
          refine A_get dX10_readNext_138 f_X10_31 HM_at0 rfl ?_
          refine A_iconst (v := 3) dX10_readNext_141 (by decide) ?_
          refine A_ialdK (i := 3) dX10_readNext_142 (HM_at (by decide)) rfl (by omega) (by decide) ?_
          refine A_eqI (y := s.2 3) (by rw [hT.2.2]) ?_
          refine A_bipush (v := 8) dX10_readNext_143 (by decide) ?_
          refine A_icmp_ne 153 dX10_readNext_145 (by decide) (fun c145 => ?_) (fun c145 => ?_)
          · refine A_aload_n dX10_readNext_153 rfl rfl ?_
            refine A_callVi dX10_readNext_154 m_X10_137 cb_X10_good (As := []) rfl HM_at0 rfl (k_good G) rfl ⟨by decide, by decide⟩ (Nat.le_of_ble_eq_true rfl) ⟨by decide, by decide⟩ (fun x154 h154 hq => ?_)
            obtain ⟨rfl, rfl⟩ := hq
            refine A_if_ne 161 dX10_readNext_157 (by decide) (fun c157 => ?_) (fun c157 => ?_)
            · have nf : (wdB f L s.1.2 11 = true → N0 < 6) ∧ (wdB f L s.1.2 12 = true → N1 < 8) ∧ (wdB f L s.1.2 14 = true → N2 < 3) ∧ (wdB f L s.1.2 15 = true → N3 < 8) := ⟨fun w => absurd w (is_n c75 h0), fun w => absurd w (is_n c95 h0), fun w => absurd w (is_n c115 h0), fun w => by have q : N3 ≠ 8 := fun e => c145 (by rw [g3, e]; rfl); omega⟩
              rw [hE, nxS, if_neg (fun w => w hK), if_neg (nx_f ⟨⟨g0, b0⟩, ⟨g1, b1⟩, ⟨g2, b2⟩, ⟨g3, b3⟩, g5, b5⟩ nf)]
              exact nx_d G X ⟨rfl, rfl⟩ hT h0 ⟨⟨g0, b0⟩, ⟨g1, b1⟩, ⟨g2, b2⟩, ⟨g3, b3⟩, g5, b5⟩ nf
            · rw [if_pos (hT.2.1.lk h0).1] at c157
              exact absurd c157 (by decide)
          · refine A_aload_n dX10_readNext_148 rfl rfl ?_
            refine A_iconst (v := 3) dX10_readNext_149 (by decide) ?_
            refine A_callVv dX10_readNext_150 m_X10_160 cb_X10_errs (As := [_]) rfl HM_at0 rfl (k_errs G) rfl ⟨by decide, by decide⟩ (Nat.le_of_ble_eq_true rfl) ⟨by decide, by decide⟩ (fun h150 hq => ?_)
            obtain rfl := hq
            obtain ⟨q0, -, hLK⟩ := hT.2.1.lk h0
            have hTe : STr L f m0 ((3, tkS f L s.1.2), s.2) (erM 3 m) := hT.o erM_s (er_G (by decide) hT.2.1.1 q0 hLK)
            refine A_aload_n dX10_readNext_153 rfl rfl ?_
            refine A_callVi dX10_readNext_154 m_X10_137 cb_X10_good (As := []) rfl HM_at0 rfl (k_good G) rfl ⟨by decide, by decide⟩ (Nat.le_of_ble_eq_true rfl) ⟨by decide, by decide⟩ (fun x154 h154 hq => ?_)
            obtain ⟨rfl, rfl⟩ := hq
            refine A_if_ne 161 dX10_readNext_157 (by decide) (fun c157 => ?_) (fun c157 => ?_)
            · exact absurd (if_neg (hTe.2.1.bad (show ¬ ((3 : Int32), tkS f L s.1.2).1 = 0 from (by decide : ¬ (3 : Int32) = 0)))) c157
            · exact A_vret dX10_readNext_160 ⟨_, rfl, by rw [hE, nxS, if_neg (fun w => w hK), if_pos (Or.inr (Or.inr (Or.inr ⟨(is_y c134).2, c145⟩)))]; exact hTe⟩ ⟨by decide, by decide⟩
      · refine A_aload_n dX10_readNext_118 rfl rfl ?_
        refine A_get dX10_readNext_119 f_X10_31 HM_at0 rfl ?_
        refine A_iconst (v := 2) dX10_readNext_122 (by decide) ?_
        refine A_ialdK (i := 2) dX10_readNext_123 (HM_at (by decide)) rfl (by omega) (by decide) ?_
        refine A_eqI (y := s.2 2) (by rw [hT.2.2]) ?_
        refine A_iconst (v := 3) dX10_readNext_124 (by decide) ?_
        refine A_icmp_eq 148 dX10_readNext_125 (by decide) (fun c125 => ?_) (fun c125 => ?_)
        · refine A_aload_n dX10_readNext_148 rfl rfl ?_
          refine A_iconst (v := 3) dX10_readNext_149 (by decide) ?_
          refine A_callVv dX10_readNext_150 m_X10_160 cb_X10_errs (As := [_]) rfl HM_at0 rfl (k_errs G) rfl ⟨by decide, by decide⟩ (Nat.le_of_ble_eq_true rfl) ⟨by decide, by decide⟩ (fun h150 hq => ?_)
          obtain rfl := hq
          obtain ⟨q0, -, hLK⟩ := hT.2.1.lk h0
          have hTe : STr L f m0 ((3, tkS f L s.1.2), s.2) (erM 3 m) := hT.o erM_s (er_G (by decide) hT.2.1.1 q0 hLK)
          refine A_aload_n dX10_readNext_153 rfl rfl ?_
          refine A_callVi dX10_readNext_154 m_X10_137 cb_X10_good (As := []) rfl HM_at0 rfl (k_good G) rfl ⟨by decide, by decide⟩ (Nat.le_of_ble_eq_true rfl) ⟨by decide, by decide⟩ (fun x154 h154 hq => ?_)
          obtain ⟨rfl, rfl⟩ := hq
          refine A_if_ne 161 dX10_readNext_157 (by decide) (fun c157 => ?_) (fun c157 => ?_)
          · exact absurd (if_neg (hTe.2.1.bad (show ¬ ((3 : Int32), tkS f L s.1.2).1 = 0 from (by decide : ¬ (3 : Int32) = 0)))) c157
          · exact A_vret dX10_readNext_160 ⟨_, rfl, by rw [hE, nxS, if_neg (fun w => w hK), if_pos (Or.inr (Or.inr (Or.inl ⟨(is_y c115).2, c125⟩)))]; exact hTe⟩ ⟨by decide, by decide⟩
        · refine A_aload_n dX10_readNext_128 rfl rfl ?_
          refine A_ldcS 15 dX10_readNext_129 rfl ?_
          refine A_callVi dX10_readNext_131 m_X10_150 cb_X10_is (As := [_]) rfl HM_at0 rfl (k_is G (j := 15) (by decide) hT.2.1) rfl ⟨by decide, by decide⟩ (Nat.le_of_ble_eq_true rfl) ⟨by decide, by decide⟩ (fun x131 h131 hq => ?_)
          obtain ⟨rfl, rfl⟩ := hq
          refine A_if_eq 153 dX10_readNext_134 (by decide) (fun c134 => ?_) (fun c134 => ?_)
          · refine A_aload_n dX10_readNext_153 rfl rfl ?_
            refine A_callVi dX10_readNext_154 m_X10_137 cb_X10_good (As := []) rfl HM_at0 rfl (k_good G) rfl ⟨by decide, by decide⟩ (Nat.le_of_ble_eq_true rfl) ⟨by decide, by decide⟩ (fun x154 h154 hq => ?_)
            obtain ⟨rfl, rfl⟩ := hq
            refine A_if_ne 161 dX10_readNext_157 (by decide) (fun c157 => ?_) (fun c157 => ?_)
            · have nf : (wdB f L s.1.2 11 = true → N0 < 6) ∧ (wdB f L s.1.2 12 = true → N1 < 8) ∧ (wdB f L s.1.2 14 = true → N2 < 3) ∧ (wdB f L s.1.2 15 = true → N3 < 8) := ⟨fun w => absurd w (is_n c75 h0), fun w => absurd w (is_n c95 h0), fun w => by have q : N2 ≠ 3 := fun e => c125 (by rw [g2, e]; rfl); omega, fun w => absurd w (is_n c134 h0)⟩
              rw [hE, nxS, if_neg (fun w => w hK), if_neg (nx_f ⟨⟨g0, b0⟩, ⟨g1, b1⟩, ⟨g2, b2⟩, ⟨g3, b3⟩, g5, b5⟩ nf)]
              exact nx_d G X ⟨rfl, rfl⟩ hT h0 ⟨⟨g0, b0⟩, ⟨g1, b1⟩, ⟨g2, b2⟩, ⟨g3, b3⟩, g5, b5⟩ nf
            · rw [if_pos (hT.2.1.lk h0).1] at c157
              exact absurd c157 (by decide)
          · refine A_aload_n dX10_readNext_137 rfl rfl ?_
            refine A_get dX10_readNext_138 f_X10_31 HM_at0 rfl ?_
            refine A_iconst (v := 3) dX10_readNext_141 (by decide) ?_
            refine A_ialdK (i := 3) dX10_readNext_142 (HM_at (by decide)) rfl (by omega) (by decide) ?_
            refine A_eqI (y := s.2 3) (by rw [hT.2.2]) ?_
            refine A_bipush (v := 8) dX10_readNext_143 (by decide) ?_
            refine A_icmp_ne 153 dX10_readNext_145 (by decide) (fun c145 => ?_) (fun c145 => ?_)
            · refine A_aload_n dX10_readNext_153 rfl rfl ?_
              refine A_callVi dX10_readNext_154 m_X10_137 cb_X10_good (As := []) rfl HM_at0 rfl (k_good G) rfl ⟨by decide, by decide⟩ (Nat.le_of_ble_eq_true rfl) ⟨by decide, by decide⟩ (fun x154 h154 hq => ?_)
              obtain ⟨rfl, rfl⟩ := hq
              refine A_if_ne 161 dX10_readNext_157 (by decide) (fun c157 => ?_) (fun c157 => ?_)
              · have nf : (wdB f L s.1.2 11 = true → N0 < 6) ∧ (wdB f L s.1.2 12 = true → N1 < 8) ∧ (wdB f L s.1.2 14 = true → N2 < 3) ∧ (wdB f L s.1.2 15 = true → N3 < 8) := ⟨fun w => absurd w (is_n c75 h0), fun w => absurd w (is_n c95 h0), fun w => by have q : N2 ≠ 3 := fun e => c125 (by rw [g2, e]; rfl); omega, fun w => by have q : N3 ≠ 8 := fun e => c145 (by rw [g3, e]; rfl); omega⟩
                rw [hE, nxS, if_neg (fun w => w hK), if_neg (nx_f ⟨⟨g0, b0⟩, ⟨g1, b1⟩, ⟨g2, b2⟩, ⟨g3, b3⟩, g5, b5⟩ nf)]
                exact nx_d G X ⟨rfl, rfl⟩ hT h0 ⟨⟨g0, b0⟩, ⟨g1, b1⟩, ⟨g2, b2⟩, ⟨g3, b3⟩, g5, b5⟩ nf
              · rw [if_pos (hT.2.1.lk h0).1] at c157
                exact absurd c157 (by decide)
            · refine A_aload_n dX10_readNext_148 rfl rfl ?_
              refine A_iconst (v := 3) dX10_readNext_149 (by decide) ?_
              refine A_callVv dX10_readNext_150 m_X10_160 cb_X10_errs (As := [_]) rfl HM_at0 rfl (k_errs G) rfl ⟨by decide, by decide⟩ (Nat.le_of_ble_eq_true rfl) ⟨by decide, by decide⟩ (fun h150 hq => ?_)
              obtain rfl := hq
              obtain ⟨q0, -, hLK⟩ := hT.2.1.lk h0
              have hTe : STr L f m0 ((3, tkS f L s.1.2), s.2) (erM 3 m) := hT.o erM_s (er_G (by decide) hT.2.1.1 q0 hLK)
              refine A_aload_n dX10_readNext_153 rfl rfl ?_
              refine A_callVi dX10_readNext_154 m_X10_137 cb_X10_good (As := []) rfl HM_at0 rfl (k_good G) rfl ⟨by decide, by decide⟩ (Nat.le_of_ble_eq_true rfl) ⟨by decide, by decide⟩ (fun x154 h154 hq => ?_)
              obtain ⟨rfl, rfl⟩ := hq
              refine A_if_ne 161 dX10_readNext_157 (by decide) (fun c157 => ?_) (fun c157 => ?_)
              · exact absurd (if_neg (hTe.2.1.bad (show ¬ ((3 : Int32), tkS f L s.1.2).1 = 0 from (by decide : ¬ (3 : Int32) = 0)))) c157
              · exact A_vret dX10_readNext_160 ⟨_, rfl, by rw [hE, nxS, if_neg (fun w => w hK), if_pos (Or.inr (Or.inr (Or.inr ⟨(is_y c134).2, c145⟩)))]; exact hTe⟩ ⟨by decide, by decide⟩
    · refine A_aload_n dX10_readNext_98 rfl rfl ?_
      refine A_get dX10_readNext_99 f_X10_31 HM_at0 rfl ?_
      refine A_iconst (v := 1) dX10_readNext_102 (by decide) ?_
      refine A_ialdK (i := 1) dX10_readNext_103 (HM_at (by decide)) rfl (by omega) (by decide) ?_
      refine A_eqI (y := s.2 1) (by rw [hT.2.2]) ?_
      refine A_bipush (v := 8) dX10_readNext_104 (by decide) ?_
      refine A_icmp_eq 148 dX10_readNext_106 (by decide) (fun c106 => ?_) (fun c106 => ?_)
      · refine A_aload_n dX10_readNext_148 rfl rfl ?_
        refine A_iconst (v := 3) dX10_readNext_149 (by decide) ?_
        refine A_callVv dX10_readNext_150 m_X10_160 cb_X10_errs (As := [_]) rfl HM_at0 rfl (k_errs G) rfl ⟨by decide, by decide⟩ (Nat.le_of_ble_eq_true rfl) ⟨by decide, by decide⟩ (fun h150 hq => ?_)
        obtain rfl := hq
        obtain ⟨q0, -, hLK⟩ := hT.2.1.lk h0
        have hTe : STr L f m0 ((3, tkS f L s.1.2), s.2) (erM 3 m) := hT.o erM_s (er_G (by decide) hT.2.1.1 q0 hLK)
        refine A_aload_n dX10_readNext_153 rfl rfl ?_
        refine A_callVi dX10_readNext_154 m_X10_137 cb_X10_good (As := []) rfl HM_at0 rfl (k_good G) rfl ⟨by decide, by decide⟩ (Nat.le_of_ble_eq_true rfl) ⟨by decide, by decide⟩ (fun x154 h154 hq => ?_)
        obtain ⟨rfl, rfl⟩ := hq
        refine A_if_ne 161 dX10_readNext_157 (by decide) (fun c157 => ?_) (fun c157 => ?_)
        · exact absurd (if_neg (hTe.2.1.bad (show ¬ ((3 : Int32), tkS f L s.1.2).1 = 0 from (by decide : ¬ (3 : Int32) = 0)))) c157
        · exact A_vret dX10_readNext_160 ⟨_, rfl, by rw [hE, nxS, if_neg (fun w => w hK), if_pos (Or.inr (Or.inl ⟨(is_y c95).2, c106⟩))]; exact hTe⟩ ⟨by decide, by decide⟩
      · refine A_aload_n dX10_readNext_109 rfl rfl ?_
        refine A_ldcS 14 dX10_readNext_110 rfl ?_
        refine A_callVi dX10_readNext_112 m_X10_150 cb_X10_is (As := [_]) rfl HM_at0 rfl (k_is G (j := 14) (by decide) hT.2.1) rfl ⟨by decide, by decide⟩ (Nat.le_of_ble_eq_true rfl) ⟨by decide, by decide⟩ (fun x112 h112 hq => ?_)
        obtain ⟨rfl, rfl⟩ := hq
        refine A_if_eq 128 dX10_readNext_115 (by decide) (fun c115 => ?_) (fun c115 => ?_)
        · refine A_aload_n dX10_readNext_128 rfl rfl ?_
          refine A_ldcS 15 dX10_readNext_129 rfl ?_
          refine A_callVi dX10_readNext_131 m_X10_150 cb_X10_is (As := [_]) rfl HM_at0 rfl (k_is G (j := 15) (by decide) hT.2.1) rfl ⟨by decide, by decide⟩ (Nat.le_of_ble_eq_true rfl) ⟨by decide, by decide⟩ (fun x131 h131 hq => ?_)
          obtain ⟨rfl, rfl⟩ := hq
          refine A_if_eq 153 dX10_readNext_134 (by decide) (fun c134 => ?_) (fun c134 => ?_)
          · refine A_aload_n dX10_readNext_153 rfl rfl ?_
            refine A_callVi dX10_readNext_154 m_X10_137 cb_X10_good (As := []) rfl HM_at0 rfl (k_good G) rfl ⟨by decide, by decide⟩ (Nat.le_of_ble_eq_true rfl) ⟨by decide, by decide⟩ (fun x154 h154 hq => ?_)
            obtain ⟨rfl, rfl⟩ := hq
            refine A_if_ne 161 dX10_readNext_157 (by decide) (fun c157 => ?_) (fun c157 => ?_)
            · have nf : (wdB f L s.1.2 11 = true → N0 < 6) ∧ (wdB f L s.1.2 12 = true → N1 < 8) ∧ (wdB f L s.1.2 14 = true → N2 < 3) ∧ (wdB f L s.1.2 15 = true → N3 < 8) := ⟨fun w => absurd w (is_n c75 h0), fun w => by have q : N1 ≠ 8 := fun e => c106 (by rw [g1, e]; rfl); omega, fun w => absurd w (is_n c115 h0), fun w => absurd w (is_n c134 h0)⟩
              rw [hE, nxS, if_neg (fun w => w hK), if_neg (nx_f ⟨⟨g0, b0⟩, ⟨g1, b1⟩, ⟨g2, b2⟩, ⟨g3, b3⟩, g5, b5⟩ nf)]
              exact nx_d G X ⟨rfl, rfl⟩ hT h0 ⟨⟨g0, b0⟩, ⟨g1, b1⟩, ⟨g2, b2⟩, ⟨g3, b3⟩, g5, b5⟩ nf
            · rw [if_pos (hT.2.1.lk h0).1] at c157
              exact absurd c157 (by decide)
          · refine A_aload_n dX10_readNext_137 rfl rfl ?_
            refine A_get dX10_readNext_138 f_X10_31 HM_at0 rfl ?_
            refine A_iconst (v := 3) dX10_readNext_141 (by decide) ?_
            refine A_ialdK (i := 3) dX10_readNext_142 (HM_at (by decide)) rfl (by omega) (by decide) ?_
            refine A_eqI (y := s.2 3) (by rw [hT.2.2]) ?_
            refine A_bipush (v := 8) dX10_readNext_143 (by decide) ?_
            refine A_icmp_ne 153 dX10_readNext_145 (by decide) (fun c145 => ?_) (fun c145 => ?_)
            · refine A_aload_n dX10_readNext_153 rfl rfl ?_
              refine A_callVi dX10_readNext_154 m_X10_137 cb_X10_good (As := []) rfl HM_at0 rfl (k_good G) rfl ⟨by decide, by decide⟩ (Nat.le_of_ble_eq_true rfl) ⟨by decide, by decide⟩ (fun x154 h154 hq => ?_)
              obtain ⟨rfl, rfl⟩ := hq
              refine A_if_ne 161 dX10_readNext_157 (by decide) (fun c157 => ?_) (fun c157 => ?_)
              · have nf : (wdB f L s.1.2 11 = true → N0 < 6) ∧ (wdB f L s.1.2 12 = true → N1 < 8) ∧ (wdB f L s.1.2 14 = true → N2 < 3) ∧ (wdB f L s.1.2 15 = true → N3 < 8) := ⟨fun w => absurd w (is_n c75 h0), fun w => by have q : N1 ≠ 8 := fun e => c106 (by rw [g1, e]; rfl); omega, fun w => absurd w (is_n c115 h0), fun w => by have q : N3 ≠ 8 := fun e => c145 (by rw [g3, e]; rfl); omega⟩
                rw [hE, nxS, if_neg (fun w => w hK), if_neg (nx_f ⟨⟨g0, b0⟩, ⟨g1, b1⟩, ⟨g2, b2⟩, ⟨g3, b3⟩, g5, b5⟩ nf)]
                exact nx_d G X ⟨rfl, rfl⟩ hT h0 ⟨⟨g0, b0⟩, ⟨g1, b1⟩, ⟨g2, b2⟩, ⟨g3, b3⟩, g5, b5⟩ nf
              · rw [if_pos (hT.2.1.lk h0).1] at c157
                exact absurd c157 (by decide)
            · refine A_aload_n dX10_readNext_148 rfl rfl ?_
              refine A_iconst (v := 3) dX10_readNext_149 (by decide) ?_
              refine A_callVv dX10_readNext_150 m_X10_160 cb_X10_errs (As := [_]) rfl HM_at0 rfl (k_errs G) rfl ⟨by decide, by decide⟩ (Nat.le_of_ble_eq_true rfl) ⟨by decide, by decide⟩ (fun h150 hq => ?_)
              obtain rfl := hq
              obtain ⟨q0, -, hLK⟩ := hT.2.1.lk h0
              have hTe : STr L f m0 ((3, tkS f L s.1.2), s.2) (erM 3 m) := hT.o erM_s (er_G (by decide) hT.2.1.1 q0 hLK)
              refine A_aload_n dX10_readNext_153 rfl rfl ?_
              refine A_callVi dX10_readNext_154 m_X10_137 cb_X10_good (As := []) rfl HM_at0 rfl (k_good G) rfl ⟨by decide, by decide⟩ (Nat.le_of_ble_eq_true rfl) ⟨by decide, by decide⟩ (fun x154 h154 hq => ?_)
              obtain ⟨rfl, rfl⟩ := hq
              refine A_if_ne 161 dX10_readNext_157 (by decide) (fun c157 => ?_) (fun c157 => ?_)
              · exact absurd (if_neg (hTe.2.1.bad (show ¬ ((3 : Int32), tkS f L s.1.2).1 = 0 from (by decide : ¬ (3 : Int32) = 0)))) c157
              · exact A_vret dX10_readNext_160 ⟨_, rfl, by rw [hE, nxS, if_neg (fun w => w hK), if_pos (Or.inr (Or.inr (Or.inr ⟨(is_y c134).2, c145⟩)))]; exact hTe⟩ ⟨by decide, by decide⟩
        · refine A_aload_n dX10_readNext_118 rfl rfl ?_
          refine A_get dX10_readNext_119 f_X10_31 HM_at0 rfl ?_
          refine A_iconst (v := 2) dX10_readNext_122 (by decide) ?_
          refine A_ialdK (i := 2) dX10_readNext_123 (HM_at (by decide)) rfl (by omega) (by decide) ?_
          refine A_eqI (y := s.2 2) (by rw [hT.2.2]) ?_
          refine A_iconst (v := 3) dX10_readNext_124 (by decide) ?_
          refine A_icmp_eq 148 dX10_readNext_125 (by decide) (fun c125 => ?_) (fun c125 => ?_)
          · refine A_aload_n dX10_readNext_148 rfl rfl ?_
            refine A_iconst (v := 3) dX10_readNext_149 (by decide) ?_
            refine A_callVv dX10_readNext_150 m_X10_160 cb_X10_errs (As := [_]) rfl HM_at0 rfl (k_errs G) rfl ⟨by decide, by decide⟩ (Nat.le_of_ble_eq_true rfl) ⟨by decide, by decide⟩ (fun h150 hq => ?_)
            obtain rfl := hq
            obtain ⟨q0, -, hLK⟩ := hT.2.1.lk h0
            have hTe : STr L f m0 ((3, tkS f L s.1.2), s.2) (erM 3 m) := hT.o erM_s (er_G (by decide) hT.2.1.1 q0 hLK)
            refine A_aload_n dX10_readNext_153 rfl rfl ?_
            refine A_callVi dX10_readNext_154 m_X10_137 cb_X10_good (As := []) rfl HM_at0 rfl (k_good G) rfl ⟨by decide, by decide⟩ (Nat.le_of_ble_eq_true rfl) ⟨by decide, by decide⟩ (fun x154 h154 hq => ?_)
            obtain ⟨rfl, rfl⟩ := hq
            refine A_if_ne 161 dX10_readNext_157 (by decide) (fun c157 => ?_) (fun c157 => ?_)
            · exact absurd (if_neg (hTe.2.1.bad (show ¬ ((3 : Int32), tkS f L s.1.2).1 = 0 from (by decide : ¬ (3 : Int32) = 0)))) c157
            · exact A_vret dX10_readNext_160 ⟨_, rfl, by rw [hE, nxS, if_neg (fun w => w hK), if_pos (Or.inr (Or.inr (Or.inl ⟨(is_y c115).2, c125⟩)))]; exact hTe⟩ ⟨by decide, by decide⟩
          · refine A_aload_n dX10_readNext_128 rfl rfl ?_
            refine A_ldcS 15 dX10_readNext_129 rfl ?_
            refine A_callVi dX10_readNext_131 m_X10_150 cb_X10_is (As := [_]) rfl HM_at0 rfl (k_is G (j := 15) (by decide) hT.2.1) rfl ⟨by decide, by decide⟩ (Nat.le_of_ble_eq_true rfl) ⟨by decide, by decide⟩ (fun x131 h131 hq => ?_)
            obtain ⟨rfl, rfl⟩ := hq
            refine A_if_eq 153 dX10_readNext_134 (by decide) (fun c134 => ?_) (fun c134 => ?_)
            · refine A_aload_n dX10_readNext_153 rfl rfl ?_
              refine A_callVi dX10_readNext_154 m_X10_137 cb_X10_good (As := []) rfl HM_at0 rfl (k_good G) rfl ⟨by decide, by decide⟩ (Nat.le_of_ble_eq_true rfl) ⟨by decide, by decide⟩ (fun x154 h154 hq => ?_)
              obtain ⟨rfl, rfl⟩ := hq
              refine A_if_ne 161 dX10_readNext_157 (by decide) (fun c157 => ?_) (fun c157 => ?_)
              · have nf : (wdB f L s.1.2 11 = true → N0 < 6) ∧ (wdB f L s.1.2 12 = true → N1 < 8) ∧ (wdB f L s.1.2 14 = true → N2 < 3) ∧ (wdB f L s.1.2 15 = true → N3 < 8) := ⟨fun w => absurd w (is_n c75 h0), fun w => by have q : N1 ≠ 8 := fun e => c106 (by rw [g1, e]; rfl); omega, fun w => by have q : N2 ≠ 3 := fun e => c125 (by rw [g2, e]; rfl); omega, fun w => absurd w (is_n c134 h0)⟩
                rw [hE, nxS, if_neg (fun w => w hK), if_neg (nx_f ⟨⟨g0, b0⟩, ⟨g1, b1⟩, ⟨g2, b2⟩, ⟨g3, b3⟩, g5, b5⟩ nf)]
                exact nx_d G X ⟨rfl, rfl⟩ hT h0 ⟨⟨g0, b0⟩, ⟨g1, b1⟩, ⟨g2, b2⟩, ⟨g3, b3⟩, g5, b5⟩ nf
              · rw [if_pos (hT.2.1.lk h0).1] at c157
                exact absurd c157 (by decide)
            · refine A_aload_n dX10_readNext_137 rfl rfl ?_
              refine A_get dX10_readNext_138 f_X10_31 HM_at0 rfl ?_
              refine A_iconst (v := 3) dX10_readNext_141 (by decide) ?_
              refine A_ialdK (i := 3) dX10_readNext_142 (HM_at (by decide)) rfl (by omega) (by decide) ?_
              refine A_eqI (y := s.2 3) (by rw [hT.2.2]) ?_
              refine A_bipush (v := 8) dX10_readNext_143 (by decide) ?_
              refine A_icmp_ne 153 dX10_readNext_145 (by decide) (fun c145 => ?_) (fun c145 => ?_)
              · refine A_aload_n dX10_readNext_153 rfl rfl ?_
                refine A_callVi dX10_readNext_154 m_X10_137 cb_X10_good (As := []) rfl HM_at0 rfl (k_good G) rfl ⟨by decide, by decide⟩ (Nat.le_of_ble_eq_true rfl) ⟨by decide, by decide⟩ (fun x154 h154 hq => ?_)
                obtain ⟨rfl, rfl⟩ := hq
                refine A_if_ne 161 dX10_readNext_157 (by decide) (fun c157 => ?_) (fun c157 => ?_)
                · have nf : (wdB f L s.1.2 11 = true → N0 < 6) ∧ (wdB f L s.1.2 12 = true → N1 < 8) ∧ (wdB f L s.1.2 14 = true → N2 < 3) ∧ (wdB f L s.1.2 15 = true → N3 < 8) := ⟨fun w => absurd w (is_n c75 h0), fun w => by have q : N1 ≠ 8 := fun e => c106 (by rw [g1, e]; rfl); omega, fun w => by have q : N2 ≠ 3 := fun e => c125 (by rw [g2, e]; rfl); omega, fun w => by have q : N3 ≠ 8 := fun e => c145 (by rw [g3, e]; rfl); omega⟩
                  rw [hE, nxS, if_neg (fun w => w hK), if_neg (nx_f ⟨⟨g0, b0⟩, ⟨g1, b1⟩, ⟨g2, b2⟩, ⟨g3, b3⟩, g5, b5⟩ nf)]
                  exact nx_d G X ⟨rfl, rfl⟩ hT h0 ⟨⟨g0, b0⟩, ⟨g1, b1⟩, ⟨g2, b2⟩, ⟨g3, b3⟩, g5, b5⟩ nf
                · rw [if_pos (hT.2.1.lk h0).1] at c157
                  exact absurd c157 (by decide)
              · refine A_aload_n dX10_readNext_148 rfl rfl ?_
                refine A_iconst (v := 3) dX10_readNext_149 (by decide) ?_
                refine A_callVv dX10_readNext_150 m_X10_160 cb_X10_errs (As := [_]) rfl HM_at0 rfl (k_errs G) rfl ⟨by decide, by decide⟩ (Nat.le_of_ble_eq_true rfl) ⟨by decide, by decide⟩ (fun h150 hq => ?_)
                obtain rfl := hq
                obtain ⟨q0, -, hLK⟩ := hT.2.1.lk h0
                have hTe : STr L f m0 ((3, tkS f L s.1.2), s.2) (erM 3 m) := hT.o erM_s (er_G (by decide) hT.2.1.1 q0 hLK)
                refine A_aload_n dX10_readNext_153 rfl rfl ?_
                refine A_callVi dX10_readNext_154 m_X10_137 cb_X10_good (As := []) rfl HM_at0 rfl (k_good G) rfl ⟨by decide, by decide⟩ (Nat.le_of_ble_eq_true rfl) ⟨by decide, by decide⟩ (fun x154 h154 hq => ?_)
                obtain ⟨rfl, rfl⟩ := hq
                refine A_if_ne 161 dX10_readNext_157 (by decide) (fun c157 => ?_) (fun c157 => ?_)
                · exact absurd (if_neg (hTe.2.1.bad (show ¬ ((3 : Int32), tkS f L s.1.2).1 = 0 from (by decide : ¬ (3 : Int32) = 0)))) c157
                · exact A_vret dX10_readNext_160 ⟨_, rfl, by rw [hE, nxS, if_neg (fun w => w hK), if_pos (Or.inr (Or.inr (Or.inr ⟨(is_y c134).2, c145⟩)))]; exact hTe⟩ ⟨by decide, by decide⟩
  · refine A_aload_n dX10_readNext_78 rfl rfl ?_
    refine A_get dX10_readNext_79 f_X10_31 HM_at0 rfl ?_
    refine A_iconst (v := 0) dX10_readNext_82 (by decide) ?_
    refine A_ialdK (i := 0) dX10_readNext_83 (HM_at (by decide)) rfl (by omega) (by decide) ?_
    refine A_eqI (y := s.2 0) (by rw [hT.2.2]) ?_
    refine A_bipush (v := 6) dX10_readNext_84 (by decide) ?_
    refine A_icmp_eq 148 dX10_readNext_86 (by decide) (fun c86 => ?_) (fun c86 => ?_)
    · refine A_aload_n dX10_readNext_148 rfl rfl ?_
      refine A_iconst (v := 3) dX10_readNext_149 (by decide) ?_
      refine A_callVv dX10_readNext_150 m_X10_160 cb_X10_errs (As := [_]) rfl HM_at0 rfl (k_errs G) rfl ⟨by decide, by decide⟩ (Nat.le_of_ble_eq_true rfl) ⟨by decide, by decide⟩ (fun h150 hq => ?_)
      obtain rfl := hq
      obtain ⟨q0, -, hLK⟩ := hT.2.1.lk h0
      have hTe : STr L f m0 ((3, tkS f L s.1.2), s.2) (erM 3 m) := hT.o erM_s (er_G (by decide) hT.2.1.1 q0 hLK)
      refine A_aload_n dX10_readNext_153 rfl rfl ?_
      refine A_callVi dX10_readNext_154 m_X10_137 cb_X10_good (As := []) rfl HM_at0 rfl (k_good G) rfl ⟨by decide, by decide⟩ (Nat.le_of_ble_eq_true rfl) ⟨by decide, by decide⟩ (fun x154 h154 hq => ?_)
      obtain ⟨rfl, rfl⟩ := hq
      refine A_if_ne 161 dX10_readNext_157 (by decide) (fun c157 => ?_) (fun c157 => ?_)
      · exact absurd (if_neg (hTe.2.1.bad (show ¬ ((3 : Int32), tkS f L s.1.2).1 = 0 from (by decide : ¬ (3 : Int32) = 0)))) c157
      · exact A_vret dX10_readNext_160 ⟨_, rfl, by rw [hE, nxS, if_neg (fun w => w hK), if_pos (Or.inl ⟨(is_y c75).2, c86⟩)]; exact hTe⟩ ⟨by decide, by decide⟩
    · refine A_aload_n dX10_readNext_89 rfl rfl ?_
      refine A_ldcS 12 dX10_readNext_90 rfl ?_
      refine A_callVi dX10_readNext_92 m_X10_150 cb_X10_is (As := [_]) rfl HM_at0 rfl (k_is G (j := 12) (by decide) hT.2.1) rfl ⟨by decide, by decide⟩ (Nat.le_of_ble_eq_true rfl) ⟨by decide, by decide⟩ (fun x92 h92 hq => ?_)
      obtain ⟨rfl, rfl⟩ := hq
      refine A_if_eq 109 dX10_readNext_95 (by decide) (fun c95 => ?_) (fun c95 => ?_)
      · refine A_aload_n dX10_readNext_109 rfl rfl ?_
        refine A_ldcS 14 dX10_readNext_110 rfl ?_
        refine A_callVi dX10_readNext_112 m_X10_150 cb_X10_is (As := [_]) rfl HM_at0 rfl (k_is G (j := 14) (by decide) hT.2.1) rfl ⟨by decide, by decide⟩ (Nat.le_of_ble_eq_true rfl) ⟨by decide, by decide⟩ (fun x112 h112 hq => ?_)
        obtain ⟨rfl, rfl⟩ := hq
        refine A_if_eq 128 dX10_readNext_115 (by decide) (fun c115 => ?_) (fun c115 => ?_)
        · refine A_aload_n dX10_readNext_128 rfl rfl ?_
          refine A_ldcS 15 dX10_readNext_129 rfl ?_
          refine A_callVi dX10_readNext_131 m_X10_150 cb_X10_is (As := [_]) rfl HM_at0 rfl (k_is G (j := 15) (by decide) hT.2.1) rfl ⟨by decide, by decide⟩ (Nat.le_of_ble_eq_true rfl) ⟨by decide, by decide⟩ (fun x131 h131 hq => ?_)
          obtain ⟨rfl, rfl⟩ := hq
          refine A_if_eq 153 dX10_readNext_134 (by decide) (fun c134 => ?_) (fun c134 => ?_)
          · refine A_aload_n dX10_readNext_153 rfl rfl ?_
            refine A_callVi dX10_readNext_154 m_X10_137 cb_X10_good (As := []) rfl HM_at0 rfl (k_good G) rfl ⟨by decide, by decide⟩ (Nat.le_of_ble_eq_true rfl) ⟨by decide, by decide⟩ (fun x154 h154 hq => ?_)
            obtain ⟨rfl, rfl⟩ := hq
            refine A_if_ne 161 dX10_readNext_157 (by decide) (fun c157 => ?_) (fun c157 => ?_)
            · have nf : (wdB f L s.1.2 11 = true → N0 < 6) ∧ (wdB f L s.1.2 12 = true → N1 < 8) ∧ (wdB f L s.1.2 14 = true → N2 < 3) ∧ (wdB f L s.1.2 15 = true → N3 < 8) := ⟨fun w => by have q : N0 ≠ 6 := fun e => c86 (by rw [g0, e]; rfl); omega, fun w => absurd w (is_n c95 h0), fun w => absurd w (is_n c115 h0), fun w => absurd w (is_n c134 h0)⟩
              rw [hE, nxS, if_neg (fun w => w hK), if_neg (nx_f ⟨⟨g0, b0⟩, ⟨g1, b1⟩, ⟨g2, b2⟩, ⟨g3, b3⟩, g5, b5⟩ nf)]
              exact nx_d G X ⟨rfl, rfl⟩ hT h0 ⟨⟨g0, b0⟩, ⟨g1, b1⟩, ⟨g2, b2⟩, ⟨g3, b3⟩, g5, b5⟩ nf
            · rw [if_pos (hT.2.1.lk h0).1] at c157
              exact absurd c157 (by decide)
          · refine A_aload_n dX10_readNext_137 rfl rfl ?_
            refine A_get dX10_readNext_138 f_X10_31 HM_at0 rfl ?_
            refine A_iconst (v := 3) dX10_readNext_141 (by decide) ?_
            refine A_ialdK (i := 3) dX10_readNext_142 (HM_at (by decide)) rfl (by omega) (by decide) ?_
            refine A_eqI (y := s.2 3) (by rw [hT.2.2]) ?_
            refine A_bipush (v := 8) dX10_readNext_143 (by decide) ?_
            refine A_icmp_ne 153 dX10_readNext_145 (by decide) (fun c145 => ?_) (fun c145 => ?_)
            · refine A_aload_n dX10_readNext_153 rfl rfl ?_
              refine A_callVi dX10_readNext_154 m_X10_137 cb_X10_good (As := []) rfl HM_at0 rfl (k_good G) rfl ⟨by decide, by decide⟩ (Nat.le_of_ble_eq_true rfl) ⟨by decide, by decide⟩ (fun x154 h154 hq => ?_)
              obtain ⟨rfl, rfl⟩ := hq
              refine A_if_ne 161 dX10_readNext_157 (by decide) (fun c157 => ?_) (fun c157 => ?_)
              · have nf : (wdB f L s.1.2 11 = true → N0 < 6) ∧ (wdB f L s.1.2 12 = true → N1 < 8) ∧ (wdB f L s.1.2 14 = true → N2 < 3) ∧ (wdB f L s.1.2 15 = true → N3 < 8) := ⟨fun w => by have q : N0 ≠ 6 := fun e => c86 (by rw [g0, e]; rfl); omega, fun w => absurd w (is_n c95 h0), fun w => absurd w (is_n c115 h0), fun w => by have q : N3 ≠ 8 := fun e => c145 (by rw [g3, e]; rfl); omega⟩
                rw [hE, nxS, if_neg (fun w => w hK), if_neg (nx_f ⟨⟨g0, b0⟩, ⟨g1, b1⟩, ⟨g2, b2⟩, ⟨g3, b3⟩, g5, b5⟩ nf)]
                exact nx_d G X ⟨rfl, rfl⟩ hT h0 ⟨⟨g0, b0⟩, ⟨g1, b1⟩, ⟨g2, b2⟩, ⟨g3, b3⟩, g5, b5⟩ nf
              · rw [if_pos (hT.2.1.lk h0).1] at c157
                exact absurd c157 (by decide)
            · refine A_aload_n dX10_readNext_148 rfl rfl ?_
              refine A_iconst (v := 3) dX10_readNext_149 (by decide) ?_
              refine A_callVv dX10_readNext_150 m_X10_160 cb_X10_errs (As := [_]) rfl HM_at0 rfl (k_errs G) rfl ⟨by decide, by decide⟩ (Nat.le_of_ble_eq_true rfl) ⟨by decide, by decide⟩ (fun h150 hq => ?_)
              obtain rfl := hq
              obtain ⟨q0, -, hLK⟩ := hT.2.1.lk h0
              have hTe : STr L f m0 ((3, tkS f L s.1.2), s.2) (erM 3 m) := hT.o erM_s (er_G (by decide) hT.2.1.1 q0 hLK)
              refine A_aload_n dX10_readNext_153 rfl rfl ?_
              refine A_callVi dX10_readNext_154 m_X10_137 cb_X10_good (As := []) rfl HM_at0 rfl (k_good G) rfl ⟨by decide, by decide⟩ (Nat.le_of_ble_eq_true rfl) ⟨by decide, by decide⟩ (fun x154 h154 hq => ?_)
              obtain ⟨rfl, rfl⟩ := hq
              refine A_if_ne 161 dX10_readNext_157 (by decide) (fun c157 => ?_) (fun c157 => ?_)
              · exact absurd (if_neg (hTe.2.1.bad (show ¬ ((3 : Int32), tkS f L s.1.2).1 = 0 from (by decide : ¬ (3 : Int32) = 0)))) c157
              · exact A_vret dX10_readNext_160 ⟨_, rfl, by rw [hE, nxS, if_neg (fun w => w hK), if_pos (Or.inr (Or.inr (Or.inr ⟨(is_y c134).2, c145⟩)))]; exact hTe⟩ ⟨by decide, by decide⟩
        · refine A_aload_n dX10_readNext_118 rfl rfl ?_
          refine A_get dX10_readNext_119 f_X10_31 HM_at0 rfl ?_
          refine A_iconst (v := 2) dX10_readNext_122 (by decide) ?_
          refine A_ialdK (i := 2) dX10_readNext_123 (HM_at (by decide)) rfl (by omega) (by decide) ?_
          refine A_eqI (y := s.2 2) (by rw [hT.2.2]) ?_
          refine A_iconst (v := 3) dX10_readNext_124 (by decide) ?_
          refine A_icmp_eq 148 dX10_readNext_125 (by decide) (fun c125 => ?_) (fun c125 => ?_)
          · refine A_aload_n dX10_readNext_148 rfl rfl ?_
            refine A_iconst (v := 3) dX10_readNext_149 (by decide) ?_
            refine A_callVv dX10_readNext_150 m_X10_160 cb_X10_errs (As := [_]) rfl HM_at0 rfl (k_errs G) rfl ⟨by decide, by decide⟩ (Nat.le_of_ble_eq_true rfl) ⟨by decide, by decide⟩ (fun h150 hq => ?_)
            obtain rfl := hq
            obtain ⟨q0, -, hLK⟩ := hT.2.1.lk h0
            have hTe : STr L f m0 ((3, tkS f L s.1.2), s.2) (erM 3 m) := hT.o erM_s (er_G (by decide) hT.2.1.1 q0 hLK)
            refine A_aload_n dX10_readNext_153 rfl rfl ?_
            refine A_callVi dX10_readNext_154 m_X10_137 cb_X10_good (As := []) rfl HM_at0 rfl (k_good G) rfl ⟨by decide, by decide⟩ (Nat.le_of_ble_eq_true rfl) ⟨by decide, by decide⟩ (fun x154 h154 hq => ?_)
            obtain ⟨rfl, rfl⟩ := hq
            refine A_if_ne 161 dX10_readNext_157 (by decide) (fun c157 => ?_) (fun c157 => ?_)
            · exact absurd (if_neg (hTe.2.1.bad (show ¬ ((3 : Int32), tkS f L s.1.2).1 = 0 from (by decide : ¬ (3 : Int32) = 0)))) c157
            · exact A_vret dX10_readNext_160 ⟨_, rfl, by rw [hE, nxS, if_neg (fun w => w hK), if_pos (Or.inr (Or.inr (Or.inl ⟨(is_y c115).2, c125⟩)))]; exact hTe⟩ ⟨by decide, by decide⟩
          · refine A_aload_n dX10_readNext_128 rfl rfl ?_
            refine A_ldcS 15 dX10_readNext_129 rfl ?_
            refine A_callVi dX10_readNext_131 m_X10_150 cb_X10_is (As := [_]) rfl HM_at0 rfl (k_is G (j := 15) (by decide) hT.2.1) rfl ⟨by decide, by decide⟩ (Nat.le_of_ble_eq_true rfl) ⟨by decide, by decide⟩ (fun x131 h131 hq => ?_)
            obtain ⟨rfl, rfl⟩ := hq
            refine A_if_eq 153 dX10_readNext_134 (by decide) (fun c134 => ?_) (fun c134 => ?_)
            · refine A_aload_n dX10_readNext_153 rfl rfl ?_
              refine A_callVi dX10_readNext_154 m_X10_137 cb_X10_good (As := []) rfl HM_at0 rfl (k_good G) rfl ⟨by decide, by decide⟩ (Nat.le_of_ble_eq_true rfl) ⟨by decide, by decide⟩ (fun x154 h154 hq => ?_)
              obtain ⟨rfl, rfl⟩ := hq
              refine A_if_ne 161 dX10_readNext_157 (by decide) (fun c157 => ?_) (fun c157 => ?_)
              · have nf : (wdB f L s.1.2 11 = true → N0 < 6) ∧ (wdB f L s.1.2 12 = true → N1 < 8) ∧ (wdB f L s.1.2 14 = true → N2 < 3) ∧ (wdB f L s.1.2 15 = true → N3 < 8) := ⟨fun w => by have q : N0 ≠ 6 := fun e => c86 (by rw [g0, e]; rfl); omega, fun w => absurd w (is_n c95 h0), fun w => by have q : N2 ≠ 3 := fun e => c125 (by rw [g2, e]; rfl); omega, fun w => absurd w (is_n c134 h0)⟩
                rw [hE, nxS, if_neg (fun w => w hK), if_neg (nx_f ⟨⟨g0, b0⟩, ⟨g1, b1⟩, ⟨g2, b2⟩, ⟨g3, b3⟩, g5, b5⟩ nf)]
                exact nx_d G X ⟨rfl, rfl⟩ hT h0 ⟨⟨g0, b0⟩, ⟨g1, b1⟩, ⟨g2, b2⟩, ⟨g3, b3⟩, g5, b5⟩ nf
              · rw [if_pos (hT.2.1.lk h0).1] at c157
                exact absurd c157 (by decide)
            · refine A_aload_n dX10_readNext_137 rfl rfl ?_
              refine A_get dX10_readNext_138 f_X10_31 HM_at0 rfl ?_
              refine A_iconst (v := 3) dX10_readNext_141 (by decide) ?_
              refine A_ialdK (i := 3) dX10_readNext_142 (HM_at (by decide)) rfl (by omega) (by decide) ?_
              refine A_eqI (y := s.2 3) (by rw [hT.2.2]) ?_
              refine A_bipush (v := 8) dX10_readNext_143 (by decide) ?_
              refine A_icmp_ne 153 dX10_readNext_145 (by decide) (fun c145 => ?_) (fun c145 => ?_)
              · refine A_aload_n dX10_readNext_153 rfl rfl ?_
                refine A_callVi dX10_readNext_154 m_X10_137 cb_X10_good (As := []) rfl HM_at0 rfl (k_good G) rfl ⟨by decide, by decide⟩ (Nat.le_of_ble_eq_true rfl) ⟨by decide, by decide⟩ (fun x154 h154 hq => ?_)
                obtain ⟨rfl, rfl⟩ := hq
                refine A_if_ne 161 dX10_readNext_157 (by decide) (fun c157 => ?_) (fun c157 => ?_)
                · have nf : (wdB f L s.1.2 11 = true → N0 < 6) ∧ (wdB f L s.1.2 12 = true → N1 < 8) ∧ (wdB f L s.1.2 14 = true → N2 < 3) ∧ (wdB f L s.1.2 15 = true → N3 < 8) := ⟨fun w => by have q : N0 ≠ 6 := fun e => c86 (by rw [g0, e]; rfl); omega, fun w => absurd w (is_n c95 h0), fun w => by have q : N2 ≠ 3 := fun e => c125 (by rw [g2, e]; rfl); omega, fun w => by have q : N3 ≠ 8 := fun e => c145 (by rw [g3, e]; rfl); omega⟩
                  rw [hE, nxS, if_neg (fun w => w hK), if_neg (nx_f ⟨⟨g0, b0⟩, ⟨g1, b1⟩, ⟨g2, b2⟩, ⟨g3, b3⟩, g5, b5⟩ nf)]
                  exact nx_d G X ⟨rfl, rfl⟩ hT h0 ⟨⟨g0, b0⟩, ⟨g1, b1⟩, ⟨g2, b2⟩, ⟨g3, b3⟩, g5, b5⟩ nf
                · rw [if_pos (hT.2.1.lk h0).1] at c157
                  exact absurd c157 (by decide)
              · refine A_aload_n dX10_readNext_148 rfl rfl ?_
                refine A_iconst (v := 3) dX10_readNext_149 (by decide) ?_
                refine A_callVv dX10_readNext_150 m_X10_160 cb_X10_errs (As := [_]) rfl HM_at0 rfl (k_errs G) rfl ⟨by decide, by decide⟩ (Nat.le_of_ble_eq_true rfl) ⟨by decide, by decide⟩ (fun h150 hq => ?_)
                obtain rfl := hq
                obtain ⟨q0, -, hLK⟩ := hT.2.1.lk h0
                have hTe : STr L f m0 ((3, tkS f L s.1.2), s.2) (erM 3 m) := hT.o erM_s (er_G (by decide) hT.2.1.1 q0 hLK)
                refine A_aload_n dX10_readNext_153 rfl rfl ?_
                refine A_callVi dX10_readNext_154 m_X10_137 cb_X10_good (As := []) rfl HM_at0 rfl (k_good G) rfl ⟨by decide, by decide⟩ (Nat.le_of_ble_eq_true rfl) ⟨by decide, by decide⟩ (fun x154 h154 hq => ?_)
                obtain ⟨rfl, rfl⟩ := hq
                refine A_if_ne 161 dX10_readNext_157 (by decide) (fun c157 => ?_) (fun c157 => ?_)
                · exact absurd (if_neg (hTe.2.1.bad (show ¬ ((3 : Int32), tkS f L s.1.2).1 = 0 from (by decide : ¬ (3 : Int32) = 0)))) c157
                · exact A_vret dX10_readNext_160 ⟨_, rfl, by rw [hE, nxS, if_neg (fun w => w hK), if_pos (Or.inr (Or.inr (Or.inr ⟨(is_y c134).2, c145⟩)))]; exact hTe⟩ ⟨by decide, by decide⟩
      · refine A_aload_n dX10_readNext_98 rfl rfl ?_
        refine A_get dX10_readNext_99 f_X10_31 HM_at0 rfl ?_
        refine A_iconst (v := 1) dX10_readNext_102 (by decide) ?_
        refine A_ialdK (i := 1) dX10_readNext_103 (HM_at (by decide)) rfl (by omega) (by decide) ?_
        refine A_eqI (y := s.2 1) (by rw [hT.2.2]) ?_
        refine A_bipush (v := 8) dX10_readNext_104 (by decide) ?_
        refine A_icmp_eq 148 dX10_readNext_106 (by decide) (fun c106 => ?_) (fun c106 => ?_)
        · refine A_aload_n dX10_readNext_148 rfl rfl ?_
          refine A_iconst (v := 3) dX10_readNext_149 (by decide) ?_
          refine A_callVv dX10_readNext_150 m_X10_160 cb_X10_errs (As := [_]) rfl HM_at0 rfl (k_errs G) rfl ⟨by decide, by decide⟩ (Nat.le_of_ble_eq_true rfl) ⟨by decide, by decide⟩ (fun h150 hq => ?_)
          obtain rfl := hq
          obtain ⟨q0, -, hLK⟩ := hT.2.1.lk h0
          have hTe : STr L f m0 ((3, tkS f L s.1.2), s.2) (erM 3 m) := hT.o erM_s (er_G (by decide) hT.2.1.1 q0 hLK)
          refine A_aload_n dX10_readNext_153 rfl rfl ?_
          refine A_callVi dX10_readNext_154 m_X10_137 cb_X10_good (As := []) rfl HM_at0 rfl (k_good G) rfl ⟨by decide, by decide⟩ (Nat.le_of_ble_eq_true rfl) ⟨by decide, by decide⟩ (fun x154 h154 hq => ?_)
          obtain ⟨rfl, rfl⟩ := hq
          refine A_if_ne 161 dX10_readNext_157 (by decide) (fun c157 => ?_) (fun c157 => ?_)
          · exact absurd (if_neg (hTe.2.1.bad (show ¬ ((3 : Int32), tkS f L s.1.2).1 = 0 from (by decide : ¬ (3 : Int32) = 0)))) c157
          · exact A_vret dX10_readNext_160 ⟨_, rfl, by rw [hE, nxS, if_neg (fun w => w hK), if_pos (Or.inr (Or.inl ⟨(is_y c95).2, c106⟩))]; exact hTe⟩ ⟨by decide, by decide⟩
        · refine A_aload_n dX10_readNext_109 rfl rfl ?_
          refine A_ldcS 14 dX10_readNext_110 rfl ?_
          refine A_callVi dX10_readNext_112 m_X10_150 cb_X10_is (As := [_]) rfl HM_at0 rfl (k_is G (j := 14) (by decide) hT.2.1) rfl ⟨by decide, by decide⟩ (Nat.le_of_ble_eq_true rfl) ⟨by decide, by decide⟩ (fun x112 h112 hq => ?_)
          obtain ⟨rfl, rfl⟩ := hq
          refine A_if_eq 128 dX10_readNext_115 (by decide) (fun c115 => ?_) (fun c115 => ?_)
          · refine A_aload_n dX10_readNext_128 rfl rfl ?_
            refine A_ldcS 15 dX10_readNext_129 rfl ?_
            refine A_callVi dX10_readNext_131 m_X10_150 cb_X10_is (As := [_]) rfl HM_at0 rfl (k_is G (j := 15) (by decide) hT.2.1) rfl ⟨by decide, by decide⟩ (Nat.le_of_ble_eq_true rfl) ⟨by decide, by decide⟩ (fun x131 h131 hq => ?_)
            obtain ⟨rfl, rfl⟩ := hq
            refine A_if_eq 153 dX10_readNext_134 (by decide) (fun c134 => ?_) (fun c134 => ?_)
            · refine A_aload_n dX10_readNext_153 rfl rfl ?_
              refine A_callVi dX10_readNext_154 m_X10_137 cb_X10_good (As := []) rfl HM_at0 rfl (k_good G) rfl ⟨by decide, by decide⟩ (Nat.le_of_ble_eq_true rfl) ⟨by decide, by decide⟩ (fun x154 h154 hq => ?_)
              obtain ⟨rfl, rfl⟩ := hq
              refine A_if_ne 161 dX10_readNext_157 (by decide) (fun c157 => ?_) (fun c157 => ?_)
              · have nf : (wdB f L s.1.2 11 = true → N0 < 6) ∧ (wdB f L s.1.2 12 = true → N1 < 8) ∧ (wdB f L s.1.2 14 = true → N2 < 3) ∧ (wdB f L s.1.2 15 = true → N3 < 8) := ⟨fun w => by have q : N0 ≠ 6 := fun e => c86 (by rw [g0, e]; rfl); omega, fun w => by have q : N1 ≠ 8 := fun e => c106 (by rw [g1, e]; rfl); omega, fun w => absurd w (is_n c115 h0), fun w => absurd w (is_n c134 h0)⟩
                rw [hE, nxS, if_neg (fun w => w hK), if_neg (nx_f ⟨⟨g0, b0⟩, ⟨g1, b1⟩, ⟨g2, b2⟩, ⟨g3, b3⟩, g5, b5⟩ nf)]
                exact nx_d G X ⟨rfl, rfl⟩ hT h0 ⟨⟨g0, b0⟩, ⟨g1, b1⟩, ⟨g2, b2⟩, ⟨g3, b3⟩, g5, b5⟩ nf
              · rw [if_pos (hT.2.1.lk h0).1] at c157
                exact absurd c157 (by decide)
            · refine A_aload_n dX10_readNext_137 rfl rfl ?_
              refine A_get dX10_readNext_138 f_X10_31 HM_at0 rfl ?_
              refine A_iconst (v := 3) dX10_readNext_141 (by decide) ?_
              refine A_ialdK (i := 3) dX10_readNext_142 (HM_at (by decide)) rfl (by omega) (by decide) ?_
              refine A_eqI (y := s.2 3) (by rw [hT.2.2]) ?_
              refine A_bipush (v := 8) dX10_readNext_143 (by decide) ?_
              refine A_icmp_ne 153 dX10_readNext_145 (by decide) (fun c145 => ?_) (fun c145 => ?_)
              · refine A_aload_n dX10_readNext_153 rfl rfl ?_
                refine A_callVi dX10_readNext_154 m_X10_137 cb_X10_good (As := []) rfl HM_at0 rfl (k_good G) rfl ⟨by decide, by decide⟩ (Nat.le_of_ble_eq_true rfl) ⟨by decide, by decide⟩ (fun x154 h154 hq => ?_)
                obtain ⟨rfl, rfl⟩ := hq
                refine A_if_ne 161 dX10_readNext_157 (by decide) (fun c157 => ?_) (fun c157 => ?_)
                · have nf : (wdB f L s.1.2 11 = true → N0 < 6) ∧ (wdB f L s.1.2 12 = true → N1 < 8) ∧ (wdB f L s.1.2 14 = true → N2 < 3) ∧ (wdB f L s.1.2 15 = true → N3 < 8) := ⟨fun w => by have q : N0 ≠ 6 := fun e => c86 (by rw [g0, e]; rfl); omega, fun w => by have q : N1 ≠ 8 := fun e => c106 (by rw [g1, e]; rfl); omega, fun w => absurd w (is_n c115 h0), fun w => by have q : N3 ≠ 8 := fun e => c145 (by rw [g3, e]; rfl); omega⟩
                  rw [hE, nxS, if_neg (fun w => w hK), if_neg (nx_f ⟨⟨g0, b0⟩, ⟨g1, b1⟩, ⟨g2, b2⟩, ⟨g3, b3⟩, g5, b5⟩ nf)]
                  exact nx_d G X ⟨rfl, rfl⟩ hT h0 ⟨⟨g0, b0⟩, ⟨g1, b1⟩, ⟨g2, b2⟩, ⟨g3, b3⟩, g5, b5⟩ nf
                · rw [if_pos (hT.2.1.lk h0).1] at c157
                  exact absurd c157 (by decide)
              · refine A_aload_n dX10_readNext_148 rfl rfl ?_
                refine A_iconst (v := 3) dX10_readNext_149 (by decide) ?_
                refine A_callVv dX10_readNext_150 m_X10_160 cb_X10_errs (As := [_]) rfl HM_at0 rfl (k_errs G) rfl ⟨by decide, by decide⟩ (Nat.le_of_ble_eq_true rfl) ⟨by decide, by decide⟩ (fun h150 hq => ?_)
                obtain rfl := hq
                obtain ⟨q0, -, hLK⟩ := hT.2.1.lk h0
                have hTe : STr L f m0 ((3, tkS f L s.1.2), s.2) (erM 3 m) := hT.o erM_s (er_G (by decide) hT.2.1.1 q0 hLK)
                refine A_aload_n dX10_readNext_153 rfl rfl ?_
                refine A_callVi dX10_readNext_154 m_X10_137 cb_X10_good (As := []) rfl HM_at0 rfl (k_good G) rfl ⟨by decide, by decide⟩ (Nat.le_of_ble_eq_true rfl) ⟨by decide, by decide⟩ (fun x154 h154 hq => ?_)
                obtain ⟨rfl, rfl⟩ := hq
                refine A_if_ne 161 dX10_readNext_157 (by decide) (fun c157 => ?_) (fun c157 => ?_)
                · exact absurd (if_neg (hTe.2.1.bad (show ¬ ((3 : Int32), tkS f L s.1.2).1 = 0 from (by decide : ¬ (3 : Int32) = 0)))) c157
                · exact A_vret dX10_readNext_160 ⟨_, rfl, by rw [hE, nxS, if_neg (fun w => w hK), if_pos (Or.inr (Or.inr (Or.inr ⟨(is_y c134).2, c145⟩)))]; exact hTe⟩ ⟨by decide, by decide⟩
          · refine A_aload_n dX10_readNext_118 rfl rfl ?_
            refine A_get dX10_readNext_119 f_X10_31 HM_at0 rfl ?_
            refine A_iconst (v := 2) dX10_readNext_122 (by decide) ?_
            refine A_ialdK (i := 2) dX10_readNext_123 (HM_at (by decide)) rfl (by omega) (by decide) ?_
            refine A_eqI (y := s.2 2) (by rw [hT.2.2]) ?_
            refine A_iconst (v := 3) dX10_readNext_124 (by decide) ?_
            refine A_icmp_eq 148 dX10_readNext_125 (by decide) (fun c125 => ?_) (fun c125 => ?_)
            · refine A_aload_n dX10_readNext_148 rfl rfl ?_
              refine A_iconst (v := 3) dX10_readNext_149 (by decide) ?_
              refine A_callVv dX10_readNext_150 m_X10_160 cb_X10_errs (As := [_]) rfl HM_at0 rfl (k_errs G) rfl ⟨by decide, by decide⟩ (Nat.le_of_ble_eq_true rfl) ⟨by decide, by decide⟩ (fun h150 hq => ?_)
              obtain rfl := hq
              obtain ⟨q0, -, hLK⟩ := hT.2.1.lk h0
              have hTe : STr L f m0 ((3, tkS f L s.1.2), s.2) (erM 3 m) := hT.o erM_s (er_G (by decide) hT.2.1.1 q0 hLK)
              refine A_aload_n dX10_readNext_153 rfl rfl ?_
              refine A_callVi dX10_readNext_154 m_X10_137 cb_X10_good (As := []) rfl HM_at0 rfl (k_good G) rfl ⟨by decide, by decide⟩ (Nat.le_of_ble_eq_true rfl) ⟨by decide, by decide⟩ (fun x154 h154 hq => ?_)
              obtain ⟨rfl, rfl⟩ := hq
              refine A_if_ne 161 dX10_readNext_157 (by decide) (fun c157 => ?_) (fun c157 => ?_)
              · exact absurd (if_neg (hTe.2.1.bad (show ¬ ((3 : Int32), tkS f L s.1.2).1 = 0 from (by decide : ¬ (3 : Int32) = 0)))) c157
              · exact A_vret dX10_readNext_160 ⟨_, rfl, by rw [hE, nxS, if_neg (fun w => w hK), if_pos (Or.inr (Or.inr (Or.inl ⟨(is_y c115).2, c125⟩)))]; exact hTe⟩ ⟨by decide, by decide⟩
            · refine A_aload_n dX10_readNext_128 rfl rfl ?_
              refine A_ldcS 15 dX10_readNext_129 rfl ?_
              refine A_callVi dX10_readNext_131 m_X10_150 cb_X10_is (As := [_]) rfl HM_at0 rfl (k_is G (j := 15) (by decide) hT.2.1) rfl ⟨by decide, by decide⟩ (Nat.le_of_ble_eq_true rfl) ⟨by decide, by decide⟩ (fun x131 h131 hq => ?_)
              obtain ⟨rfl, rfl⟩ := hq
              refine A_if_eq 153 dX10_readNext_134 (by decide) (fun c134 => ?_) (fun c134 => ?_)
              · refine A_aload_n dX10_readNext_153 rfl rfl ?_
                refine A_callVi dX10_readNext_154 m_X10_137 cb_X10_good (As := []) rfl HM_at0 rfl (k_good G) rfl ⟨by decide, by decide⟩ (Nat.le_of_ble_eq_true rfl) ⟨by decide, by decide⟩ (fun x154 h154 hq => ?_)
                obtain ⟨rfl, rfl⟩ := hq
                refine A_if_ne 161 dX10_readNext_157 (by decide) (fun c157 => ?_) (fun c157 => ?_)
                · have nf : (wdB f L s.1.2 11 = true → N0 < 6) ∧ (wdB f L s.1.2 12 = true → N1 < 8) ∧ (wdB f L s.1.2 14 = true → N2 < 3) ∧ (wdB f L s.1.2 15 = true → N3 < 8) := ⟨fun w => by have q : N0 ≠ 6 := fun e => c86 (by rw [g0, e]; rfl); omega, fun w => by have q : N1 ≠ 8 := fun e => c106 (by rw [g1, e]; rfl); omega, fun w => by have q : N2 ≠ 3 := fun e => c125 (by rw [g2, e]; rfl); omega, fun w => absurd w (is_n c134 h0)⟩
                  rw [hE, nxS, if_neg (fun w => w hK), if_neg (nx_f ⟨⟨g0, b0⟩, ⟨g1, b1⟩, ⟨g2, b2⟩, ⟨g3, b3⟩, g5, b5⟩ nf)]
                  exact nx_d G X ⟨rfl, rfl⟩ hT h0 ⟨⟨g0, b0⟩, ⟨g1, b1⟩, ⟨g2, b2⟩, ⟨g3, b3⟩, g5, b5⟩ nf
                · rw [if_pos (hT.2.1.lk h0).1] at c157
                  exact absurd c157 (by decide)
              · refine A_aload_n dX10_readNext_137 rfl rfl ?_
                refine A_get dX10_readNext_138 f_X10_31 HM_at0 rfl ?_
                refine A_iconst (v := 3) dX10_readNext_141 (by decide) ?_
                refine A_ialdK (i := 3) dX10_readNext_142 (HM_at (by decide)) rfl (by omega) (by decide) ?_
                refine A_eqI (y := s.2 3) (by rw [hT.2.2]) ?_
                refine A_bipush (v := 8) dX10_readNext_143 (by decide) ?_
                refine A_icmp_ne 153 dX10_readNext_145 (by decide) (fun c145 => ?_) (fun c145 => ?_)
                · refine A_aload_n dX10_readNext_153 rfl rfl ?_
                  refine A_callVi dX10_readNext_154 m_X10_137 cb_X10_good (As := []) rfl HM_at0 rfl (k_good G) rfl ⟨by decide, by decide⟩ (Nat.le_of_ble_eq_true rfl) ⟨by decide, by decide⟩ (fun x154 h154 hq => ?_)
                  obtain ⟨rfl, rfl⟩ := hq
                  refine A_if_ne 161 dX10_readNext_157 (by decide) (fun c157 => ?_) (fun c157 => ?_)
                  · have nf : (wdB f L s.1.2 11 = true → N0 < 6) ∧ (wdB f L s.1.2 12 = true → N1 < 8) ∧ (wdB f L s.1.2 14 = true → N2 < 3) ∧ (wdB f L s.1.2 15 = true → N3 < 8) := ⟨fun w => by have q : N0 ≠ 6 := fun e => c86 (by rw [g0, e]; rfl); omega, fun w => by have q : N1 ≠ 8 := fun e => c106 (by rw [g1, e]; rfl); omega, fun w => by have q : N2 ≠ 3 := fun e => c125 (by rw [g2, e]; rfl); omega, fun w => by have q : N3 ≠ 8 := fun e => c145 (by rw [g3, e]; rfl); omega⟩
                    rw [hE, nxS, if_neg (fun w => w hK), if_neg (nx_f ⟨⟨g0, b0⟩, ⟨g1, b1⟩, ⟨g2, b2⟩, ⟨g3, b3⟩, g5, b5⟩ nf)]
                    exact nx_d G X ⟨rfl, rfl⟩ hT h0 ⟨⟨g0, b0⟩, ⟨g1, b1⟩, ⟨g2, b2⟩, ⟨g3, b3⟩, g5, b5⟩ nf
                  · rw [if_pos (hT.2.1.lk h0).1] at c157
                    exact absurd c157 (by decide)
                · refine A_aload_n dX10_readNext_148 rfl rfl ?_
                  refine A_iconst (v := 3) dX10_readNext_149 (by decide) ?_
                  refine A_callVv dX10_readNext_150 m_X10_160 cb_X10_errs (As := [_]) rfl HM_at0 rfl (k_errs G) rfl ⟨by decide, by decide⟩ (Nat.le_of_ble_eq_true rfl) ⟨by decide, by decide⟩ (fun h150 hq => ?_)
                  obtain rfl := hq
                  obtain ⟨q0, -, hLK⟩ := hT.2.1.lk h0
                  have hTe : STr L f m0 ((3, tkS f L s.1.2), s.2) (erM 3 m) := hT.o erM_s (er_G (by decide) hT.2.1.1 q0 hLK)
                  refine A_aload_n dX10_readNext_153 rfl rfl ?_
                  refine A_callVi dX10_readNext_154 m_X10_137 cb_X10_good (As := []) rfl HM_at0 rfl (k_good G) rfl ⟨by decide, by decide⟩ (Nat.le_of_ble_eq_true rfl) ⟨by decide, by decide⟩ (fun x154 h154 hq => ?_)
                  obtain ⟨rfl, rfl⟩ := hq
                  refine A_if_ne 161 dX10_readNext_157 (by decide) (fun c157 => ?_) (fun c157 => ?_)
                  · exact absurd (if_neg (hTe.2.1.bad (show ¬ ((3 : Int32), tkS f L s.1.2).1 = 0 from (by decide : ¬ (3 : Int32) = 0)))) c157
                  · exact A_vret dX10_readNext_160 ⟨_, rfl, by rw [hE, nxS, if_neg (fun w => w hK), if_pos (Or.inr (Or.inr (Or.inr ⟨(is_y c134).2, c145⟩)))]; exact hTe⟩ ⟨by decide, by decide⟩
theorem k_readNext (G : GX) {b : Nat} {m0 m : CT} {ml : Nat → Nat → Int64} {r : Nat → Option AE} {n L N0 N1 N2 N3 K : Nat} {f : Nat → Int32} {s : RS} (hT : STr L f m0 s m) (h0 : s.1.1 = 0) (hC : CF s.2 N0 N1 N2 N3 K) : MA G 11 yX10_readNext cX10_readNext 3 none 0 0 [.ref b] (HM b m ml r n) (qV fun h1 => ∃ m1, h1 = HM b m1 ml r n ∧ STr L f m0 (nxS f L s) m1) := by
  refine MA.of (own := RX10) false [some (.ref b), none, none] (by decide +kernel) rfl (fun h => by cases h) (Nat.le_of_ble_eq_true rfl) rfl (fun X => ?_)
  refine A_aload_n dX10_readNext_0 rfl rfl ?_
  refine A_ldcS 11 dX10_readNext_1 rfl ?_
  refine A_callVi dX10_readNext_3 m_X10_150 cb_X10_is (As := [_]) rfl HM_at0 rfl (k_is G (j := 11) (by decide) hT.2.1) rfl ⟨by decide, by decide⟩ (Nat.le_of_ble_eq_true rfl) ⟨by decide, by decide⟩ (fun x3 h3 hq => ?_)
  obtain ⟨rfl, rfl⟩ := hq
  refine A_if_ne 54 dX10_readNext_6 (by decide) (fun c6 => ?_) (fun c6 => ?_)
  · refine A_iconst (v := 1) dX10_readNext_54 (by decide) ?_
    refine A_goto 59 dX10_readNext_55 (by decide) ?_
    refine A_istore_n (lv1 := [_, _, _]) dX10_readNext_59 rfl (Nat.le_of_ble_eq_true rfl) rfl rfl ?_
    refine A_iload_n dX10_readNext_60 rfl rfl ?_
    refine A_if_ne 69 dX10_readNext_61 (by decide) (fun c61 => ?_) (fun c61 => ?_)
    · exact nx_a G X ⟨rfl, rfl⟩ hT h0 hC (Or.inl ((is_y c6).2)) rfl
    · exact absurd c61 (by decide)
  · refine A_aload_n dX10_readNext_9 rfl rfl ?_
    refine A_ldcS 12 dX10_readNext_10 rfl ?_
    refine A_callVi dX10_readNext_12 m_X10_150 cb_X10_is (As := [_]) rfl HM_at0 rfl (k_is G (j := 12) (by decide) hT.2.1) rfl ⟨by decide, by decide⟩ (Nat.le_of_ble_eq_true rfl) ⟨by decide, by decide⟩ (fun x12 h12 hq => ?_)
    obtain ⟨rfl, rfl⟩ := hq
    refine A_if_ne 54 dX10_readNext_15 (by decide) (fun c15 => ?_) (fun c15 => ?_)
    · refine A_iconst (v := 1) dX10_readNext_54 (by decide) ?_
      refine A_goto 59 dX10_readNext_55 (by decide) ?_
      refine A_istore_n (lv1 := [_, _, _]) dX10_readNext_59 rfl (Nat.le_of_ble_eq_true rfl) rfl rfl ?_
      refine A_iload_n dX10_readNext_60 rfl rfl ?_
      refine A_if_ne 69 dX10_readNext_61 (by decide) (fun c61 => ?_) (fun c61 => ?_)
      · exact nx_a G X ⟨rfl, rfl⟩ hT h0 hC (Or.inr (Or.inl ((is_y c15).2))) rfl
      · exact absurd c61 (by decide)
    · refine A_aload_n dX10_readNext_18 rfl rfl ?_
      refine A_ldcS 13 dX10_readNext_19 rfl ?_
      refine A_callVi dX10_readNext_21 m_X10_150 cb_X10_is (As := [_]) rfl HM_at0 rfl (k_is G (j := 13) (by decide) hT.2.1) rfl ⟨by decide, by decide⟩ (Nat.le_of_ble_eq_true rfl) ⟨by decide, by decide⟩ (fun x21 h21 hq => ?_)
      obtain ⟨rfl, rfl⟩ := hq
      refine A_if_ne 54 dX10_readNext_24 (by decide) (fun c24 => ?_) (fun c24 => ?_)
      · refine A_iconst (v := 1) dX10_readNext_54 (by decide) ?_
        refine A_goto 59 dX10_readNext_55 (by decide) ?_
        refine A_istore_n (lv1 := [_, _, _]) dX10_readNext_59 rfl (Nat.le_of_ble_eq_true rfl) rfl rfl ?_
        refine A_iload_n dX10_readNext_60 rfl rfl ?_
        refine A_if_ne 69 dX10_readNext_61 (by decide) (fun c61 => ?_) (fun c61 => ?_)
        · exact nx_a G X ⟨rfl, rfl⟩ hT h0 hC (Or.inr (Or.inr (Or.inl ((is_y c24).2)))) rfl
        · exact absurd c61 (by decide)
      · refine A_aload_n dX10_readNext_27 rfl rfl ?_
        refine A_ldcS 14 dX10_readNext_28 rfl ?_
        refine A_callVi dX10_readNext_30 m_X10_150 cb_X10_is (As := [_]) rfl HM_at0 rfl (k_is G (j := 14) (by decide) hT.2.1) rfl ⟨by decide, by decide⟩ (Nat.le_of_ble_eq_true rfl) ⟨by decide, by decide⟩ (fun x30 h30 hq => ?_)
        obtain ⟨rfl, rfl⟩ := hq
        refine A_if_ne 54 dX10_readNext_33 (by decide) (fun c33 => ?_) (fun c33 => ?_)
        · refine A_iconst (v := 1) dX10_readNext_54 (by decide) ?_
          refine A_goto 59 dX10_readNext_55 (by decide) ?_
          refine A_istore_n (lv1 := [_, _, _]) dX10_readNext_59 rfl (Nat.le_of_ble_eq_true rfl) rfl rfl ?_
          refine A_iload_n dX10_readNext_60 rfl rfl ?_
          refine A_if_ne 69 dX10_readNext_61 (by decide) (fun c61 => ?_) (fun c61 => ?_)
          · exact nx_a G X ⟨rfl, rfl⟩ hT h0 hC (Or.inr (Or.inr (Or.inr (Or.inl ((is_y c33).2))))) rfl
          · exact absurd c61 (by decide)
        · refine A_aload_n dX10_readNext_36 rfl rfl ?_
          refine A_ldcS 15 dX10_readNext_37 rfl ?_
          refine A_callVi dX10_readNext_39 m_X10_150 cb_X10_is (As := [_]) rfl HM_at0 rfl (k_is G (j := 15) (by decide) hT.2.1) rfl ⟨by decide, by decide⟩ (Nat.le_of_ble_eq_true rfl) ⟨by decide, by decide⟩ (fun x39 h39 hq => ?_)
          obtain ⟨rfl, rfl⟩ := hq
          refine A_if_ne 54 dX10_readNext_42 (by decide) (fun c42 => ?_) (fun c42 => ?_)
          · refine A_iconst (v := 1) dX10_readNext_54 (by decide) ?_
            refine A_goto 59 dX10_readNext_55 (by decide) ?_
            refine A_istore_n (lv1 := [_, _, _]) dX10_readNext_59 rfl (Nat.le_of_ble_eq_true rfl) rfl rfl ?_
            refine A_iload_n dX10_readNext_60 rfl rfl ?_
            refine A_if_ne 69 dX10_readNext_61 (by decide) (fun c61 => ?_) (fun c61 => ?_)
            · exact nx_a G X ⟨rfl, rfl⟩ hT h0 hC (Or.inr (Or.inr (Or.inr (Or.inr (Or.inl ((is_y c42).2)))))) rfl
            · exact absurd c61 (by decide)
          · refine A_aload_n dX10_readNext_45 rfl rfl ?_
            refine A_ldcS 16 dX10_readNext_46 rfl ?_
            refine A_callVi dX10_readNext_48 m_X10_150 cb_X10_is (As := [_]) rfl HM_at0 rfl (k_is G (j := 16) (by decide) hT.2.1) rfl ⟨by decide, by decide⟩ (Nat.le_of_ble_eq_true rfl) ⟨by decide, by decide⟩ (fun x48 h48 hq => ?_)
            obtain ⟨rfl, rfl⟩ := hq
            refine A_if_eq 58 dX10_readNext_51 (by decide) (fun c51 => ?_) (fun c51 => ?_)
            · refine A_iconst (v := 0) dX10_readNext_58 (by decide) ?_
              refine A_istore_n (lv1 := [_, _, _]) dX10_readNext_59 rfl (Nat.le_of_ble_eq_true rfl) rfl rfl ?_
              refine A_iload_n dX10_readNext_60 rfl rfl ?_
              refine A_if_ne 69 dX10_readNext_61 (by decide) (fun c61 => ?_) (fun c61 => ?_)
              · exact absurd rfl c61
              · refine A_aload_n dX10_readNext_64 rfl rfl ?_
                refine A_iconst (v := 1) dX10_readNext_65 (by decide) ?_
                refine A_callVv dX10_readNext_66 m_X10_160 cb_X10_errs (As := [_]) rfl HM_at0 rfl (k_errs G) rfl ⟨by decide, by decide⟩ (Nat.le_of_ble_eq_true rfl) ⟨by decide, by decide⟩ (fun h66 hq => ?_)
                obtain rfl := hq
                obtain ⟨q0, -, hLK⟩ := hT.2.1.lk h0
                have hTe : STr L f m0 ((1, tkS f L s.1.2), s.2) (erM 1 m) := hT.o erM_s (er_G (by decide) hT.2.1.1 q0 hLK)
                exact nx_b G X ⟨rfl, rfl⟩ hTe (by decide : ¬ (1 : Int32) = 0) (by rw [nxS, if_pos (by rintro (z | z | z | z | z | z); exact is_n c6 h0 z; exact is_n c15 h0 z; exact is_n c24 h0 z; exact is_n c33 h0 z; exact is_n c42 h0 z; exact is_n c51 h0 z)])
            · refine A_iconst (v := 1) dX10_readNext_54 (by decide) ?_
              refine A_goto 59 dX10_readNext_55 (by decide) ?_
              refine A_istore_n (lv1 := [_, _, _]) dX10_readNext_59 rfl (Nat.le_of_ble_eq_true rfl) rfl rfl ?_
              refine A_iload_n dX10_readNext_60 rfl rfl ?_
              refine A_if_ne 69 dX10_readNext_61 (by decide) (fun c61 => ?_) (fun c61 => ?_)
              · exact nx_a G X ⟨rfl, rfl⟩ hT h0 hC (Or.inr (Or.inr (Or.inr (Or.inr (Or.inr ((is_y c51).2)))))) rfl
              · exact absurd c61 (by decide)
