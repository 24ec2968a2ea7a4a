/-! THE REFERENCE reads a LINE -/
def riS (f : Nat → Int32) (L : Nat) (s : RS) : RS :=
  let s2 := tdS f L 9 0 100 6 (tdS f L 8 4 30 5 (thn s.1 (wdO f L 7), s.2))
  tdS f L 10 0 (s2.2 5 - 1) 7 s2
def smO (f : Nat → Int32) (L : Nat) (o : Int32 × Nat) : Int32 × Nat := if o.1 = 0 then if tkK f (tkS f L o.2) = 3 then (0, nxP f L o.2) else (1, tkS f L o.2) else o
def lnT (f : Nat → Int32) (L : Nat) (s : RS) : RS := if s.2 4 = 0 then riS f L s else nxS f L s
def lnE (f : Nat → Int32) (L : Nat) (s : RS) : RS := inS 4 (smO f L s.1, s.2)
def lnS (f : Nat → Int32) (L : Nat) (s : RS) : RS := lnE f L (lnT f L s)
theorem ln_e (G : GX) (X : XC) {b : Nat} {m0 m : CT} {ml : Nat → Nat → Int64} {r : Nat → Option AE} {n L : Nat} {f : Nat → Int32} {s : RS} {R : RS} {u1 u2 : Nat} (hu : u1 = 0 ∧ u2 = 0) (hT : STr L f m0 s m) (hE : R = lnE f L s) : WA X G RX10 cX10_readLine false none (qV fun h1 => ∃ m1, h1 = HM b m1 ml r n ∧ STr L f m0 (R) m1) 12 0 0 (HM b m ml r n) u1 u2 75 [some (.ref b)] [] := by
  obtain ⟨rfl, rfl⟩ := hu
  by_cases b0 : s.1.1 = 0
  · obtain ⟨q0, -, hLK⟩ := hT.2.1.lk b0
    obtain ⟨h7, hL, hp, hf, h10, h9, h8, h11⟩ := id hLK
    have hfL : f L = -1 := by rw [← hf]; exact myF_L h7
    have heb := tkE_b (f := f) (tkS_b (f := f) hp).2 hfL
    refine A_aload_n dX10_readLine_75 rfl rfl ?_
    refine A_callVi dX10_readLine_76 m_X10_137 cb_X10_good (As := []) rfl HM_at0 rfl (k_good G) rfl ⟨by decide, by decide⟩ (Nat.le_of_ble_eq_true rfl) ⟨by decide, by decide⟩ (fun x76 h76 hq => ?_)
    obtain ⟨rfl, rfl⟩ := hq
    refine A_if_eq 95 dX10_readLine_79 (by decide) (fun c79 => ?_) (fun c79 => ?_)
    · rw [if_pos q0] at c79
      exact absurd c79 (by decide)
    · refine A_aload_n dX10_readLine_82 rfl rfl ?_
      refine A_get dX10_readLine_83 f_X10_113 HM_at0 rfl ?_
      refine A_iconst (v := 3) dX10_readLine_86 (by decide) ?_
      refine A_icmp_eq 95 dX10_readLine_87 (by decide) (fun c87 => ?_) (fun c87 => ?_)
      · refine A_aload_n dX10_readLine_95 rfl rfl ?_
        refine A_callVi dX10_readLine_96 m_X10_137 cb_X10_good (As := []) rfl HM_at0 rfl (k_good G) rfl ⟨by decide, by decide⟩ (Nat.le_of_ble_eq_true rfl) ⟨by decide, by decide⟩ (fun x96 h96 hq => ?_)
        obtain ⟨rfl, rfl⟩ := hq
        refine A_if_eq 106 dX10_readLine_99 (by decide) (fun c99 => ?_) (fun c99 => ?_)
        · rw [if_pos q0] at c99
          exact absurd c99 (by decide)
        · refine A_aload_n dX10_readLine_102 rfl rfl ?_
          refine A_callVv dX10_readLine_103 m_X10_154 cb_X10_advance (As := []) rfl HM_at0 rfl (k_advance G (p := nxP f L s.1.2) h7 hL heb.2 hf h8) rfl ⟨by decide, by decide⟩ (Nat.le_of_ble_eq_true rfl) ⟨by decide, by decide⟩ (fun h103 hq => ?_)
          obtain ⟨m4, rfl, hS4, hK4⟩ := hq
          have hTa : STr L f m0 ((0, nxP f L s.1.2), s.2) m4 := hT.o hS4.s (adv_G hT.2.1 b0 hS4 hK4)
          refine A_aload_n dX10_readLine_106 rfl rfl ?_
          refine A_get dX10_readLine_107 f_X10_31 HM_at0 rfl ?_
          refine A_iconst (v := 4) dX10_readLine_110 (by decide) ?_
          refine A_dup2 dX10_readLine_111 rfl rfl ?_
          refine A_ialdK (i := 4) dX10_readLine_112 (HM_at (by decide)) rfl (by omega) (by decide) ?_
          rw [hTa.2.2]
          refine A_iconst (v := 1) dX10_readLine_113 (by decide) ?_
          refine A_iadd dX10_readLine_114 ?_
          refine A_iastMK (i := 4) dX10_readLine_115 (by decide) (fun _ => rfl) rfl (by omega) (by decide) ?_
          exact A_vret dX10_readLine_116 ⟨_, rfl, by rw [hE, lnE, smO, if_pos b0, if_pos (h10.symm.trans c87)]; exact hTa.st (i := 4) (v := s.2 4 + 1)⟩ ⟨by decide, by decide⟩
      · refine A_aload_n dX10_readLine_90 rfl rfl ?_
        refine A_iconst (v := 1) dX10_readLine_91 (by decide) ?_
        refine A_callVv dX10_readLine_92 m_X10_160 cb_X10_errs (As := [_]) rfl HM_at0 rfl (k_errs G) rfl ⟨by decide, by decide⟩ (Nat.le_of_ble_eq_true rfl) ⟨by decide, by decide⟩ (fun h92 hq => ?_)
        obtain rfl := hq
        have hTe : STr L f m0 ((1, tkS f L s.1.2), s.2) (erM 1 m) := hT.o erM_s (er_G (by decide) hT.2.1.1 q0 hLK)
        have bE : ¬ erM 1 m 0 12 = 0 := hTe.2.1.bad (by decide : ¬ (1 : Int32) = 0)
        refine A_aload_n dX10_readLine_95 rfl rfl ?_
        refine A_callVi dX10_readLine_96 m_X10_137 cb_X10_good (As := []) rfl HM_at0 rfl (k_good G) rfl ⟨by decide, by decide⟩ (Nat.le_of_ble_eq_true rfl) ⟨by decide, by decide⟩ (fun x96 h96 hq => ?_)
        obtain ⟨rfl, rfl⟩ := hq
        refine A_if_eq 106 dX10_readLine_99 (by decide) (fun c99 => ?_) (fun c99 => ?_)
        · refine A_aload_n dX10_readLine_106 rfl rfl ?_
          refine A_get dX10_readLine_107 f_X10_31 HM_at0 rfl ?_
          refine A_iconst (v := 4) dX10_readLine_110 (by decide) ?_
          refine A_dup2 dX10_readLine_111 rfl rfl ?_
          refine A_ialdK (i := 4) dX10_readLine_112 (HM_at (by decide)) rfl (by omega) (by decide) ?_
          rw [hTe.2.2]
          refine A_iconst (v := 1) dX10_readLine_113 (by decide) ?_
          refine A_iadd dX10_readLine_114 ?_
          refine A_iastMK (i := 4) dX10_readLine_115 (by decide) (fun _ => rfl) rfl (by omega) (by decide) ?_
          exact A_vret dX10_readLine_116 ⟨_, rfl, by rw [hE, lnE, smO, if_pos b0, if_neg (fun w => c87 (h10.trans w))]; exact hTe.st (i := 4) (v := s.2 4 + 1)⟩ ⟨by decide, by decide⟩
        · exact absurd (if_neg bE) c99
  · refine A_aload_n dX10_readLine_75 rfl rfl ?_
    refine A_callVi dX10_readLine_76 m_X10_137 cb_X10_good (As := []) rfl HM_at0 rfl (k_good G) rfl ⟨by decide, by decide⟩ (Nat.le_of_ble_eq_true rfl) ⟨by decide, by decide⟩ (fun x76 h76 hq => ?_)
    obtain ⟨rfl, rfl⟩ := hq
    refine A_if_eq 95 dX10_readLine_79 (by decide) (fun c79 => ?_) (fun c79 => ?_)
    · refine A_aload_n dX10_readLine_95 rfl rfl ?_
      refine A_callVi dX10_readLine_96 m_X10_137 cb_X10_good (As := []) rfl HM_at0 rfl (k_good G) rfl ⟨by decide, by decide⟩ (Nat.le_of_ble_eq_true rfl) ⟨by decide, by decide⟩ (fun x96 h96 hq => ?_)
      obtain ⟨rfl, rfl⟩ := hq
      refine A_if_eq 106 dX10_readLine_99 (by decide) (fun c99 => ?_) (fun c99 => ?_)
      · refine A_aload_n dX10_readLine_106 rfl rfl ?_
        refine A_get dX10_readLine_107 f_X10_31 HM_at0 rfl ?_
        refine A_iconst (v := 4) dX10_readLine_110 (by decide) ?_
        refine A_dup2 dX10_readLine_111 rfl rfl ?_
        refine A_ialdK (i := 4) dX10_readLine_112 (HM_at (by decide)) rfl (by omega) (by decide) ?_
        rw [hT.2.2]
        refine A_iconst (v := 1) dX10_readLine_113 (by decide) ?_
        refine A_iadd dX10_readLine_114 ?_
        refine A_iastMK (i := 4) dX10_readLine_115 (by decide) (fun _ => rfl) rfl (by omega) (by decide) ?_
        exact A_vret dX10_readLine_116 ⟨_, rfl, by rw [hE, lnE, smO, if_neg b0]; exact hT.st (i := 4) (v := s.2 4 + 1)⟩ ⟨by decide, by decide⟩
      · exact absurd (if_neg (hT.2.1.bad b0)) c99
    · exact absurd (if_neg (hT.2.1.bad b0)) c79
theorem k_readLine (G : GX) {b : Nat} {m0 m : CT} {ml : Nat → Nat → Int64} {r : Nat → Option AE} {n L N0 N1 N2 N3 K : Nat} {f : Nat → Int32} {s : RS} (hT : STr L f m0 s m) (h0 : s.1.1 = 0) (hC : CF s.2 N0 N1 N2 N3 K) : MA G 12 yX10_readLine cX10_readLine 1 none 0 0 [.ref b] (HM b m ml r n) (qV fun h1 => ∃ m1, h1 = HM b m1 ml r n ∧ STr L f m0 (lnS f L s) m1) := by
  refine MA.of (own := RX10) false [some (.ref b)] (by decide +kernel) rfl (fun h => by cases h) (Nat.le_of_ble_eq_true rfl) rfl (fun X => ?_)
  refine A_aload_n dX10_readLine_0 rfl rfl ?_
  refine A_get dX10_readLine_1 f_X10_31 HM_at0 rfl ?_
  refine A_iconst (v := 4) dX10_readLine_4 (by decide) ?_
  refine A_ialdK (i := 4) dX10_readLine_5 (HM_at (by decide)) rfl (by omega) (by decide) ?_
  refine A_eqI (y := s.2 4) (by rw [hT.2.2]) ?_
  refine A_if_ne 71 dX10_readLine_6 (by decide) (fun c6 => ?_) (fun c6 => ?_)
  · refine A_aload_n dX10_readLine_71 rfl rfl ?_
    refine A_callVv dX10_readLine_72 m_X10_235 cb_X10_readNext (As := []) rfl HM_at0 rfl (k_readNext G hT h0 hC) rfl ⟨by decide, by decide⟩ (Nat.le_of_ble_eq_true rfl) ⟨by decide, by decide⟩ (fun h72 hq => ?_)
    obtain ⟨m9, rfl, hT9⟩ := hq
    exact ln_e G X ⟨rfl, rfl⟩ hT9 (by rw [lnS, lnT, if_neg c6])
  · refine A_aload_n dX10_readLine_9 rfl rfl ?_
    refine A_ldcS 7 dX10_readLine_10 rfl ?_
    refine A_callVv dX10_readLine_12 m_X10_164 cb_X10_needs (As := [_]) rfl HM_at0 rfl (k_needs G (j := 7) (by decide) hT.2.1) rfl ⟨by decide, by decide⟩ (Nat.le_of_ble_eq_true rfl) ⟨by decide, by decide⟩ (fun h12 hq => ?_)
    obtain ⟨m1, rfl, hS, hG1⟩ := hq
    have hT := hT.o hS hG1
    obtain ⟨s12, e12⟩ : ∃ s12 : RS, (thn s.1 (wdO f L 7), s.2) = s12 := ⟨_, rfl⟩
    rw [e12] at hT
    refine A_aload_n dX10_readLine_15 rfl rfl ?_
    refine A_get dX10_readLine_16 f_X10_31 HM_at0 rfl ?_
    refine A_iconst (v := 5) dX10_readLine_19 (by decide) ?_
    refine A_aload_n dX10_readLine_20 rfl rfl ?_
    refine A_ldcS 8 dX10_readLine_21 rfl ?_
    refine A_iconst (v := 4) dX10_readLine_23 (by decide) ?_
    refine A_bipush (v := 30) dX10_readLine_24 (by decide) ?_
    refine A_callVi dX10_readLine_26 m_X10_173 cb_X10_told (As := [_, _, _]) rfl HM_at0 rfl (k_told G (j := 8) (by decide) hT.2.1) rfl ⟨by decide, by decide⟩ (Nat.le_of_ble_eq_true rfl) ⟨by decide, by decide⟩ (fun x26 h26 hq => ?_)
    obtain ⟨rfl, m1, rfl, hS, hG1⟩ := hq
    refine A_iastMK (i := 5) dX10_readLine_29 (by decide) (fun _ => rfl) rfl (by omega) (by decide) ?_
    refine A_hide2 (hT.td (i := 5) hS hG1) (fun s29 y e29 hT => ?_)
    refine A_aload_n dX10_readLine_30 rfl rfl ?_
    refine A_get dX10_readLine_31 f_X10_31 HM_at0 rfl ?_
    refine A_bipush (v := 6) dX10_readLine_34 (by decide) ?_
    refine A_aload_n dX10_readLine_36 rfl rfl ?_
    refine A_ldcS 9 dX10_readLine_37 rfl ?_
    refine A_iconst (v := 0) dX10_readLine_39 (by decide) ?_
    refine A_bipush (v := 100) dX10_readLine_40 (by decide) ?_
    refine A_callVi dX10_readLine_42 m_X10_173 cb_X10_told (As := [_, _, _]) rfl HM_at0 rfl (k_told G (j := 9) (by decide) hT.2.1) rfl ⟨by decide, by decide⟩ (Nat.le_of_ble_eq_true rfl) ⟨by decide, by decide⟩ (fun x42 h42 hq => ?_)
    obtain ⟨rfl, m1, rfl, hS, hG1⟩ := hq
    refine A_iastMK (i := 6) dX10_readLine_45 (by decide) (fun _ => rfl) rfl (by omega) (by decide) ?_
    refine A_hide2 (hT.td (i := 6) hS hG1) (fun s45 y e45 hT => ?_)
    refine A_aload_n dX10_readLine_46 rfl rfl ?_
    refine A_get dX10_readLine_47 f_X10_31 HM_at0 rfl ?_
    refine A_bipush (v := 7) dX10_readLine_50 (by decide) ?_
    refine A_aload_n dX10_readLine_52 rfl rfl ?_
    refine A_ldcS 10 dX10_readLine_53 rfl ?_
    refine A_iconst (v := 0) dX10_readLine_55 (by decide) ?_
    refine A_aload_n dX10_readLine_56 rfl rfl ?_
    refine A_get dX10_readLine_57 f_X10_31 HM_at0 rfl ?_
    refine A_iconst (v := 5) dX10_readLine_60 (by decide) ?_
    refine A_ialdK (i := 5) dX10_readLine_61 (HM_at (by decide)) rfl (by omega) (by decide) ?_
    rw [hT.2.2]
    refine A_iconst (v := 1) dX10_readLine_62 (by decide) ?_
    refine A_isub dX10_readLine_63 ?_
    refine A_callVi dX10_readLine_64 m_X10_173 cb_X10_told (As := [_, _, _]) rfl HM_at0 rfl (k_told G (j := 10) (by decide) hT.2.1) rfl ⟨by decide, by decide⟩ (Nat.le_of_ble_eq_true rfl) ⟨by decide, by decide⟩ (fun x64 h64 hq => ?_)
    obtain ⟨rfl, m1, rfl, hS, hG1⟩ := hq
    refine A_iastMK (i := 7) dX10_readLine_67 (by decide) (fun _ => rfl) rfl (by omega) (by decide) ?_
    refine A_hide2 (hT.td (i := 7) hS hG1) (fun s67 y e67 hT => ?_)
    refine A_goto 75 dX10_readLine_68 (by decide) ?_
    exact ln_e G X ⟨rfl, rfl⟩ hT (by rw [lnS, lnT, if_pos c6]; simp only [riS, e12, e29, e45, e67])
