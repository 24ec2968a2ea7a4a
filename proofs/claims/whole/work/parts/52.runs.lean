theorem k_losesIn (G : GX) {b : Nat} {m : CT} {ml : Nat → Nat → Int64} {r : Nat → Option AE} {n : Nat} {nv nc nf nl wk : Nat} {w : Nat} (hI : IM m nv nc nf nl wk) (hw9 : w < 30) : MA G 2 yX10_losesIn cX10_losesIn 5 none 0 0 [.ref b, .int (nI w)] (HM b m ml r n) (qV fun h1 => h1 = HM b (seepB (skyB w m)) ml r n) := by
  refine MA.of (own := RX10) false [some (.ref b), some (.int (nI w)), none, none, none] (by decide +kernel) rfl (fun h => by cases h) (Nat.le_of_ble_eq_true rfl) rfl (fun X => ?_)
  obtain ⟨T, hTe⟩ : ∃ T, T = seepB (skyB w m) := ⟨_, rfl⟩
  rw [← hTe]
  have loop2 : ∀ (T : CT) (k : Nat) (m : CT) (x : Int32), k ≤ nv → IM m nv nc nf nl wk → seepQ nv k m = T → x = nI k + (-1) → WA X G RX10 cX10_losesIn false none (qV fun h1 => h1 = HM b T ml r n) 2 0 0 (HM b m ml r n) 0 0 72 [some (.ref b), some (.int (nI w)), some (.int x), none, none] [] := by
    intro T k
    induction k with
    | zero =>
      intro m x hk hI hT hx
      subst hx
      refine A_iload_n dX10_losesIn_72 rfl rfl ?_
      refine A_if_lt 166 dX10_losesIn_73 (by decide) (fun c73 => ?_) (fun c73 => ?_)
      · exact A_vret dX10_losesIn_166 (congrArg (fun z => HM b z ml r n) hT) ⟨by decide, by decide⟩
      · exact absurd (by decide) c73
    | succ k ih =>
      intro m x hk hI hT hx
      obtain ⟨hv, hv6, -⟩ := id hI
      rw [pk_m1] at hx
      subst hx
      refine A_iload_n dX10_losesIn_72 rfl rfl ?_
      refine A_if_lt 166 dX10_losesIn_73 (by decide) (fun c73 => ?_) (fun c73 => ?_)
      · exact absurd c73 (nI_pos (by omega))
      · refine A_aload_n dX10_losesIn_76 rfl rfl ?_
        refine A_get dX10_losesIn_77 f_X10_34 HM_at0 rfl ?_
        refine A_iload_n dX10_losesIn_80 rfl rfl ?_
        refine A_ialdK (i := k) dX10_losesIn_81 (HM_at (by decide)) rfl (by omega) (by decide) ?_
        refine A_aload_n dX10_losesIn_82 rfl rfl ?_
        refine A_iload_n dX10_losesIn_83 rfl rfl ?_
        refine A_iconst (v := 3) dX10_losesIn_84 (by decide) ?_
        refine A_callVi dX10_losesIn_85 m_X10_241 cb_X10_of (As := [_, _]) rfl HM_at0 rfl (k_of G 3 (by omega) (by decide)) rfl ⟨by decide, by decide⟩ (Nat.le_of_ble_eq_true rfl) ⟨by decide, by decide⟩ (fun x85 h85 hq => ?_)
        obtain ⟨rfl, rfl⟩ := hq
        refine A_min dX10_losesIn_88 w_1328 (by decide) (Nat.le_of_ble_eq_true rfl) ⟨by decide, by decide⟩ ?_
        refine A_eqI (y := lostN m k) rfl ?_
        refine A_istore_n (lv1 := [_, _, _, _, _]) dX10_losesIn_91 rfl (Nat.le_of_ble_eq_true rfl) rfl rfl ?_
        refine A_aload_n dX10_losesIn_92 rfl rfl ?_
        refine A_get dX10_losesIn_93 f_X10_34 HM_at0 rfl ?_
        refine A_iload_n dX10_losesIn_96 rfl rfl ?_
        refine A_dup2 dX10_losesIn_97 rfl rfl ?_
        refine A_ialdK (i := k) dX10_losesIn_98 (HM_at (by decide)) rfl (by omega) (by decide) ?_
        refine A_iload_n dX10_losesIn_99 rfl rfl ?_
        refine A_isub dX10_losesIn_100 ?_
        refine A_iastMK (i := k) dX10_losesIn_101 (by decide) (fun _ => rfl) rfl (by omega) (by decide) ?_
        refine A_iload_n dX10_losesIn_102 rfl rfl ?_
        refine A_aload_n dX10_losesIn_103 rfl rfl ?_
        refine A_callVi dX10_losesIn_104 m_X10_89 cb_X10_villages (As := []) rfl HM_at0 rfl (k_villages G) rfl ⟨by decide, by decide⟩ (Nat.le_of_ble_eq_true rfl) ⟨by decide, by decide⟩ (fun x104 h104 hq => ?_)
        obtain ⟨rfl, rfl⟩ := hq
        refine A_iconst (v := 1) dX10_losesIn_107 (by decide) ?_
        refine A_isub dX10_losesIn_108 ?_
        refine A_eqI (y := nI (nv - 1)) (by show m 1 0 - 1 = _; rw [hv]; exact pk_sub (b := 1) (by omega)) ?_
        refine A_icmp_ne 116 dX10_losesIn_109 (by decide) (fun c109 => ?_) (fun c109 => ?_)
        · have hk9 : ¬ k + 1 = nv := fun z => c109 (by rw [show k = nv - 1 by omega])
          refine A_iload_n dX10_losesIn_116 rfl rfl ?_
          refine A_aload_n dX10_losesIn_117 rfl rfl ?_
          refine A_iload_n dX10_losesIn_118 rfl rfl ?_
          refine A_iconst (v := 1) dX10_losesIn_119 (by decide) ?_
          refine A_iadd dX10_losesIn_120 ?_
          rw [nI_1]
          refine A_callVi dX10_losesIn_121 m_X10_255 cb_X10_room (As := [_]) rfl HM_at0 rfl (k_room G (vp_in_nI (by omega) (by decide))) rfl ⟨by decide, by decide⟩ (Nat.le_of_ble_eq_true rfl) ⟨by decide, by decide⟩ (fun x121 h121 hq => ?_)
          obtain ⟨rfl, rfl⟩ := hq
          refine A_min dX10_losesIn_124 w_1328 (by decide) (Nat.le_of_ble_eq_true rfl) ⟨by decide, by decide⟩ ?_
          refine A_eqI (y := mn (lostN m k) (roomM (put m 7 k (m 7 k - lostN m k)) (k + 1))) (by rw [tcl_nI (by omega)]; rfl) ?_
          refine A_istore (lv1 := [_, _, _, _, _]) dX10_losesIn_127 (Nat.le_of_ble_eq_true rfl) rfl rfl ?_
          refine A_iload dX10_losesIn_129 rfl ?_
          refine A_if_le 147 dX10_losesIn_131 (by decide) (fun c131 => ?_) (fun c131 => ?_)
          · refine A_aload_n dX10_losesIn_147 rfl rfl ?_
            refine A_dup dX10_losesIn_148 rfl ?_
            refine A_get dX10_losesIn_149 f_X10_276 HM_at0 rfl ?_
            refine A_iload_n dX10_losesIn_152 rfl rfl ?_
            refine A_iload dX10_losesIn_153 rfl ?_
            refine A_isub dX10_losesIn_155 ?_
            refine A_iadd dX10_losesIn_156 ?_
            refine A_putM0 dX10_losesIn_157 p_X10_276 rfl (Nat.le_of_ble_eq_true rfl) rfl ?_
            refine A_inc (-1) (lv1 := [_, _, _, _, _]) dX10_losesIn_160 rfl (by decide) rfl rfl ?_
            refine A_goto 72 dX10_losesIn_163 (by decide) ?_
            refine A_fg 3 (lv1 := [_, _, _, _, _]) rfl ?_
            refine A_fg 4 (lv1 := [_, _, _, _, _]) rfl ?_
            refine WA_h (congrArg (fun z => HM b z ml r n) (Eq.symm (?_ : seepM nv k m = _))) (ih (seepM nv k m) _ (by omega) (seepM_s.IM hI) hT rfl)
            rw [seepM]
            simp only [if_neg hk9, if_pos c131]
          · refine A_aload_n dX10_losesIn_134 rfl rfl ?_
            refine A_get dX10_losesIn_135 f_X10_34 HM_at0 rfl ?_
            refine A_iload_n dX10_losesIn_138 rfl rfl ?_
            refine A_iconst (v := 1) dX10_losesIn_139 (by decide) ?_
            refine A_iadd dX10_losesIn_140 ?_
            refine A_dup2 dX10_losesIn_141 rfl rfl ?_
            refine A_ialdK (i := (k + 1)) dX10_losesIn_142 (HM_at (by decide)) (ixA rfl rfl) (by omega) (by decide) ?_
            refine A_iload dX10_losesIn_143 rfl ?_
            refine A_iadd dX10_losesIn_145 ?_
            refine A_iastMK (i := (k + 1)) dX10_losesIn_146 (by decide) (fun _ => rfl) (ixA rfl rfl) (by omega) (by decide) ?_
            refine A_aload_n dX10_losesIn_147 rfl rfl ?_
            refine A_dup dX10_losesIn_148 rfl ?_
            refine A_get dX10_losesIn_149 f_X10_276 HM_at0 rfl ?_
            refine A_iload_n dX10_losesIn_152 rfl rfl ?_
            refine A_iload dX10_losesIn_153 rfl ?_
            refine A_isub dX10_losesIn_155 ?_
            refine A_iadd dX10_losesIn_156 ?_
            refine A_putM0 dX10_losesIn_157 p_X10_276 rfl (Nat.le_of_ble_eq_true rfl) rfl ?_
            refine A_inc (-1) (lv1 := [_, _, _, _, _]) dX10_losesIn_160 rfl (by decide) rfl rfl ?_
            refine A_goto 72 dX10_losesIn_163 (by decide) ?_
            refine A_fg 3 (lv1 := [_, _, _, _, _]) rfl ?_
            refine A_fg 4 (lv1 := [_, _, _, _, _]) rfl ?_
            refine WA_h (congrArg (fun z => HM b z ml r n) (Eq.symm (?_ : seepM nv k m = _))) (ih (seepM nv k m) _ (by omega) (seepM_s.IM hI) hT rfl)
            rw [seepM]
            simp only [if_neg hk9, if_neg c131]
        · have hk9 : k + 1 = nv := by have := (nI_eq (by omega) (by omega)).mp c109; omega
          refine A_iconst (v := 0) dX10_losesIn_112 (by decide) ?_
          refine A_goto 127 dX10_losesIn_113 (by decide) ?_
          refine A_istore (lv1 := [_, _, _, _, _]) dX10_losesIn_127 (Nat.le_of_ble_eq_true rfl) rfl rfl ?_
          refine A_iload dX10_losesIn_129 rfl ?_
          refine A_if_le 147 dX10_losesIn_131 (by decide) (fun c131 => ?_) (fun c131 => ?_)
          · refine A_aload_n dX10_losesIn_147 rfl rfl ?_
            refine A_dup dX10_losesIn_148 rfl ?_
            refine A_get dX10_losesIn_149 f_X10_276 HM_at0 rfl ?_
            refine A_iload_n dX10_losesIn_152 rfl rfl ?_
            refine A_iload dX10_losesIn_153 rfl ?_
            refine A_isub dX10_losesIn_155 ?_
            refine A_iadd dX10_losesIn_156 ?_
            refine A_putM0 dX10_losesIn_157 p_X10_276 rfl (Nat.le_of_ble_eq_true rfl) rfl ?_
            refine A_inc (-1) (lv1 := [_, _, _, _, _]) dX10_losesIn_160 rfl (by decide) rfl rfl ?_
            refine A_goto 72 dX10_losesIn_163 (by decide) ?_
            refine A_fg 3 (lv1 := [_, _, _, _, _]) rfl ?_
            refine A_fg 4 (lv1 := [_, _, _, _, _]) rfl ?_
            refine WA_h (congrArg (fun z => HM b z ml r n) (Eq.symm (?_ : seepM nv k m = _))) (ih (seepM nv k m) _ (by omega) (seepM_s.IM hI) hT rfl)
            rw [seepM]
            exact if_pos hk9
          · exact absurd (by decide) c131
  have loop1 : ∀ (s : Int32) (k i : Nat) (m : CT), i + k = nv → IM m nv nc nf nl wk → m 1 (78 + w) = s → seepB (forR (skyM s) i k m) = T → WA X G RX10 cX10_losesIn false none (qV fun h1 => h1 = HM b T ml r n) 2 0 0 (HM b m ml r n) 0 0 2 [some (.ref b), some (.int (nI w)), some (.int (nI i)), none, none] [] := by
    intro s k
    induction k with
    | zero =>
      intro i m hk hI hs hT
      obtain ⟨hv, hv6, hc, hc8, hf, hf3, hl, hl8, hw, hw30, gC, gL⟩ := id hI
      refine A_iload_n dX10_losesIn_2 rfl rfl ?_
      refine A_aload_n dX10_losesIn_3 rfl rfl ?_
      refine A_callVi dX10_losesIn_4 m_X10_89 cb_X10_villages (As := []) rfl HM_at0 rfl (k_villages G) rfl ⟨by decide, by decide⟩ (Nat.le_of_ble_eq_true rfl) ⟨by decide, by decide⟩ (fun x4 h4 hq => ?_)
      obtain ⟨rfl, rfl⟩ := hq
      refine A_icmp_ge 65 dX10_losesIn_7 (by decide) (fun c7 => ?_) (fun c7 => ?_)
      · refine A_aload_n dX10_losesIn_65 rfl rfl ?_
        refine A_callVi dX10_losesIn_66 m_X10_89 cb_X10_villages (As := []) rfl HM_at0 rfl (k_villages G) rfl ⟨by decide, by decide⟩ (Nat.le_of_ble_eq_true rfl) ⟨by decide, by decide⟩ (fun x66 h66 hq => ?_)
        obtain ⟨rfl, rfl⟩ := hq
        refine A_iconst (v := 1) dX10_losesIn_69 (by decide) ?_
        refine A_isub dX10_losesIn_70 ?_
        refine A_eqI (y := nI nv + (-1)) (by show m 1 0 - 1 = _; rw [hv, Int32.sub_eq_add_neg]) ?_
        refine A_istore_n (lv1 := [_, _, _, _, _]) dX10_losesIn_71 rfl (Nat.le_of_ble_eq_true rfl) rfl rfl ?_
        exact loop2 T nv m _ (Nat.le_refl _) hI (by rw [← hT, forR, seepB, hv, tcl_nI (by omega)]) rfl
      · exact absurd (by rw [hv]; exact nI_le (by omega) (by omega)) c7
    | succ k ih =>
      intro i m hk hI hs hT
      obtain ⟨hv, hv6, hc, hc8, hf, hf3, hl, hl8, hw, hw30, gC, gL⟩ := id hI
      have hi : i < nv := by omega
      refine A_iload_n dX10_losesIn_2 rfl rfl ?_
      refine A_aload_n dX10_losesIn_3 rfl rfl ?_
      refine A_callVi dX10_losesIn_4 m_X10_89 cb_X10_villages (As := []) rfl HM_at0 rfl (k_villages G) rfl ⟨by decide, by decide⟩ (Nat.le_of_ble_eq_true rfl) ⟨by decide, by decide⟩ (fun x4 h4 hq => ?_)
      obtain ⟨rfl, rfl⟩ := hq
      refine A_icmp_ge 65 dX10_losesIn_7 (by decide) (fun c7 => ?_) (fun c7 => ?_)
      · exact absurd c7 (by rw [hv]; exact nI_ge (by omega) (by omega))
      · refine A_aload_n dX10_losesIn_10 rfl rfl ?_
        refine A_get dX10_losesIn_11 f_X10_34 HM_at0 rfl ?_
        refine A_iload_n dX10_losesIn_14 rfl rfl ?_
        refine A_ialdK (i := i) dX10_losesIn_15 (HM_at (by decide)) rfl (by omega) (by decide) ?_
        refine A_aload_n dX10_losesIn_16 rfl rfl ?_
        refine A_iload_n dX10_losesIn_17 rfl rfl ?_
        refine A_iconst (v := 2) dX10_losesIn_18 (by decide) ?_
        refine A_callVi dX10_losesIn_19 m_X10_241 cb_X10_of (As := [_, _]) rfl HM_at0 rfl (k_of G 2 (by omega) (by decide)) rfl ⟨by decide, by decide⟩ (Nat.le_of_ble_eq_true rfl) ⟨by decide, by decide⟩ (fun x19 h19 hq => ?_)
        obtain ⟨rfl, rfl⟩ := hq
        refine A_aload_n dX10_losesIn_22 rfl rfl ?_
        refine A_get dX10_losesIn_23 f_X10_9 HM_at0 rfl ?_
        refine A_bipush (v := 78) dX10_losesIn_26 (by decide) ?_
        refine A_iload_n dX10_losesIn_28 rfl rfl ?_
        refine A_iadd dX10_losesIn_29 ?_
        refine A_ialdK (i := (78 + w)) dX10_losesIn_30 (HM_at (by decide)) (ixA rfl rfl) (by omega) (by decide) ?_
        rw [hs]
        refine A_imul dX10_losesIn_31 ?_
        refine A_bipush (v := 100) dX10_losesIn_32 (by decide) ?_
        refine A_idiv dX10_losesIn_34 (by decide) ?_
        refine A_min dX10_losesIn_35 w_1328 (by decide) (Nat.le_of_ble_eq_true rfl) ⟨by decide, by decide⟩ ?_
        refine A_eqI (y := skyN s m i) rfl ?_
        refine A_istore_n (lv1 := [_, _, _, _, _]) dX10_losesIn_38 rfl (Nat.le_of_ble_eq_true rfl) rfl rfl ?_
        refine A_aload_n dX10_losesIn_39 rfl rfl ?_
        refine A_get dX10_losesIn_40 f_X10_34 HM_at0 rfl ?_
        refine A_iload_n dX10_losesIn_43 rfl rfl ?_
        refine A_dup2 dX10_losesIn_44 rfl rfl ?_
        refine A_ialdK (i := i) dX10_losesIn_45 (HM_at (by decide)) rfl (by omega) (by decide) ?_
        refine A_iload_n dX10_losesIn_46 rfl rfl ?_
        refine A_isub dX10_losesIn_47 ?_
        refine A_iastMK (i := i) dX10_losesIn_48 (by decide) (fun _ => rfl) rfl (by omega) (by decide) ?_
        refine A_aload_n dX10_losesIn_49 rfl rfl ?_
        refine A_dup dX10_losesIn_50 rfl ?_
        refine A_get dX10_losesIn_51 f_X10_273 HM_at0 rfl ?_
        refine A_iload_n dX10_losesIn_54 rfl rfl ?_
        refine A_iadd dX10_losesIn_55 ?_
        refine A_putM0 dX10_losesIn_56 p_X10_273 rfl (Nat.le_of_ble_eq_true rfl) rfl ?_
        refine A_inc 1 (lv1 := [_, _, _, _, _]) dX10_losesIn_59 rfl (by decide) rfl rfl ?_
        refine A_goto 2 dX10_losesIn_62 (by decide) ?_
        refine A_fg 3 (lv1 := [_, _, _, _, _]) rfl ?_
        rw [nI_1]
        exact ih (i + 1) (skyM s i m) (by omega) (skyM_s.IM hI) (by rw [skyM_s.w]; exact hs) hT
  refine A_iconst (v := 0) dX10_losesIn_0 (by decide) ?_
  refine A_istore_n (lv1 := [_, _, _, _, _]) dX10_losesIn_1 rfl (Nat.le_of_ble_eq_true rfl) rfl rfl ?_
  obtain ⟨hv, hv6, hc, hc8, hf, hf3, hl, hl8, hw, hw30, gC, gL⟩ := id hI
  exact loop1 _ nv 0 m (by omega) hI rfl (by rw [hTe, skyB, hv, tcl_nI (by omega)])

theorem runs_wb (G : GX) (X : XC) {b : Nat} {ml : Nat → Nat → Int64} {r : Nat → Option AE} {n : Nat} {nv nc nf nl wk : Nat} {fl w : Nat} {u1 u2 : Nat} (hu : u1 = 0 ∧ u2 = 0) {T : CT} (hw9 : w < wk) (nxt : ∀ m : CT, (IM m nv nc nf nl wk ∧ TM m nv nf ∧ m 0 24 = nI fl) → forR (weekM fl) (w + 1) (wk - (w + 1)) m = T → WA X G RX10 cX10_runs false none (qV fun h1 => h1 = HM b T ml r n) 3 0 0 (HM b m ml r n) u1 u2 129 [some (.ref b), some (.int (nI fl)), some (.int (nI (w + 1))), none] []) : ∀ (k i : Nat) (m : CT), i + k = nv → (IM m nv nc nf nl wk ∧ TM m nv nf ∧ m 0 24 = nI fl) → forR (weekM fl) (w + 1) (wk - (w + 1)) (forR (wbM w) i k m) = T → WA X G RX10 cX10_runs false none (qV fun h1 => h1 = HM b T ml r n) 3 0 0 (HM b m ml r n) u1 u2 166 [some (.ref b), some (.int (nI fl)), some (.int (nI w)), some (.int (nI i))] [] := by
  obtain ⟨rfl, rfl⟩ := hu
  intro k
  induction k with
  | zero =>
    intro i m hk hI hT
    obtain ⟨hv, hv6, hc, hc8, hf, hf3, hl, hl8, hw, hw30, gC, gL⟩ := id hI.1
    refine A_iload_n dX10_runs_166 rfl rfl ?_
    refine A_aload_n dX10_runs_167 rfl rfl ?_
    refine A_callVi dX10_runs_168 m_X10_89 cb_X10_villages (As := []) rfl HM_at0 rfl (k_villages G) rfl ⟨by decide, by decide⟩ (Nat.le_of_ble_eq_true rfl) ⟨by decide, by decide⟩ (fun x168 h168 hq => ?_)
    obtain ⟨rfl, rfl⟩ := hq
    refine A_icmp_ge 197 dX10_runs_171 (by decide) (fun c171 => ?_) (fun c171 => ?_)
    · refine A_inc 1 (lv1 := [_, _, _, _]) dX10_runs_197 rfl (by decide) rfl rfl ?_
      refine A_goto 129 dX10_runs_200 (by decide) ?_
      refine A_fg 3 (lv1 := [_, _, _, _]) rfl ?_
      rw [nI_1]
      exact nxt m hI hT
    · exact absurd (by rw [hv]; exact nI_le (by omega) (by omega)) c171
  | succ k ih =>
    intro i m hk hI hT
    obtain ⟨hv, hv6, hc, hc8, hf, hf3, hl, hl8, hw, hw30, gC, gL⟩ := id hI.1
    refine A_iload_n dX10_runs_166 rfl rfl ?_
    refine A_aload_n dX10_runs_167 rfl rfl ?_
    refine A_callVi dX10_runs_168 m_X10_89 cb_X10_villages (As := []) rfl HM_at0 rfl (k_villages G) rfl ⟨by decide, by decide⟩ (Nat.le_of_ble_eq_true rfl) ⟨by decide, by decide⟩ (fun x168 h168 hq => ?_)
    obtain ⟨rfl, rfl⟩ := hq
    refine A_icmp_ge 197 dX10_runs_171 (by decide) (fun c171 => ?_) (fun c171 => ?_)
    · exact absurd c171 (by rw [hv]; exact nI_ge (by omega) (by omega))
    · refine A_aload_n dX10_runs_174 rfl rfl ?_
      refine A_get dX10_runs_175 f_X10_37 HM_at0 rfl ?_
      refine A_bipush (v := 30) dX10_runs_178 (by decide) ?_
      refine A_iload_n dX10_runs_180 rfl rfl ?_
      refine A_imul dX10_runs_181 ?_
      refine A_iload_n dX10_runs_182 rfl rfl ?_
      refine A_iadd dX10_runs_183 ?_
      refine A_aload_n dX10_runs_184 rfl rfl ?_
      refine A_get dX10_runs_185 f_X10_34 HM_at0 rfl ?_
      refine A_iload_n dX10_runs_188 rfl rfl ?_
      refine A_ialdK (i := i) dX10_runs_189 (HM_at (by decide)) rfl (by omega) (by decide) ?_
      refine A_iastMK (i := ((30 * i) + w)) dX10_runs_190 (by decide) (fun _ => rfl) (ixA (ixU rfl rfl) rfl) (by omega) (by decide) ?_
      refine A_inc 1 (lv1 := [_, _, _, _]) dX10_runs_191 rfl (by decide) rfl rfl ?_
      refine A_goto 166 dX10_runs_194 (by decide) ?_
      rw [nI_1]
      exact ih (i + 1) (wbM w i m) (by omega) ⟨wbM_s.IM hI.1, wbM_s.TM hI.2.1, wbM_s.fl hI.2.2⟩ hT

theorem runs_wk (G : GX) (X : XC) {b : Nat} {ml : Nat → Nat → Int64} {r : Nat → Option AE} {n : Nat} {nv nc nf nl wk : Nat} {fl : Nat} {u1 u2 : Nat} (hu : u1 = 0 ∧ u2 = 0) {T : CT} (hfl : fl < 8) : ∀ (k i : Nat) (m : CT), i + k = wk → (IM m nv nc nf nl wk ∧ TM m nv nf ∧ m 0 24 = nI fl) → forR (weekM fl) i k m = T → WA X G RX10 cX10_runs false none (qV fun h1 => h1 = HM b T ml r n) 3 0 0 (HM b m ml r n) u1 u2 129 [some (.ref b), some (.int (nI fl)), some (.int (nI i)), none] [] := by
  obtain ⟨rfl, rfl⟩ := hu
  intro k
  induction k with
  | zero =>
    intro i m hk hI hT
    obtain ⟨hv, hv6, hc, hc8, hf, hf3, hl, hl8, hw, hw30, gC, gL⟩ := id hI.1
    refine A_iload_n dX10_runs_129 rfl rfl ?_
    refine A_aload_n dX10_runs_130 rfl rfl ?_
    refine A_get dX10_runs_131 f_X10_9 HM_at0 rfl ?_
    refine A_iconst (v := 5) dX10_runs_134 (by decide) ?_
    refine A_ialdK (i := 5) dX10_runs_135 (HM_at (by decide)) rfl (by omega) (by decide) ?_
    refine A_icmp_ge 203 dX10_runs_136 (by decide) (fun c136 => ?_) (fun c136 => ?_)
    · exact A_vret dX10_runs_203 (congrArg (fun z => HM b z ml r n) hT) ⟨by decide, by decide⟩
    · exact absurd (by rw [hw]; exact nI_le (by omega) (by omega)) c136
  | succ k ih =>
    intro i m hk hI hT
    obtain ⟨hv, hv6, hc, hc8, hf, hf3, hl, hl8, hw, hw30, gC, gL⟩ := id hI.1
    refine A_iload_n dX10_runs_129 rfl rfl ?_
    refine A_aload_n dX10_runs_130 rfl rfl ?_
    refine A_get dX10_runs_131 f_X10_9 HM_at0 rfl ?_
    refine A_iconst (v := 5) dX10_runs_134 (by decide) ?_
    refine A_ialdK (i := 5) dX10_runs_135 (HM_at (by decide)) rfl (by omega) (by decide) ?_
    refine A_icmp_ge 203 dX10_runs_136 (by decide) (fun c136 => ?_) (fun c136 => ?_)
    · exact absurd c136 (by rw [hw]; exact nI_ge (by omega) (by omega))
    · refine A_aload_n dX10_runs_139 rfl rfl ?_
      refine A_iload_n dX10_runs_140 rfl rfl ?_
      refine A_callVv dX10_runs_141 m_X10_279 cb_X10_floodsIn (As := [_]) rfl HM_at0 rfl (k_floodsIn G hI.1 hI.2.1 hI.2.2 hfl) rfl ⟨by decide, by decide⟩ (Nat.le_of_ble_eq_true rfl) ⟨by decide, by decide⟩ (fun h141 hq => ?_)
      obtain rfl := hq
      have hy1 : IM (takeB fl (nI i) m) nv nc nf nl wk ∧ TM (takeB fl (nI i) m) nv nf ∧ (takeB fl (nI i) m) 0 24 = nI fl := ⟨takeB_s.IM hI.1, takeB_s.TM hI.2.1, takeB_s.fl hI.2.2⟩
      obtain ⟨y1, ey1⟩ : ∃ y, takeB fl (nI i) m = y := ⟨_, rfl⟩
      rw [ey1] at hy1 ⊢
      refine A_aload_n dX10_runs_144 rfl rfl ?_
      refine A_iload_n dX10_runs_145 rfl rfl ?_
      refine A_callVv dX10_runs_146 m_X10_282 cb_X10_loansIn (As := [_]) rfl HM_at0 rfl (k_loansIn G hy1.1) rfl ⟨by decide, by decide⟩ (Nat.le_of_ble_eq_true rfl) ⟨by decide, by decide⟩ (fun h146 hq => ?_)
      obtain rfl := hq
      have hy2 : IM (lendB (nI i) y1) nv nc nf nl wk ∧ TM (lendB (nI i) y1) nv nf ∧ (lendB (nI i) y1) 0 24 = nI fl := ⟨lendB_s.IM hy1.1, lendB_s.TM hy1.2.1, lendB_s.fl hy1.2.2⟩
      obtain ⟨y2, ey2⟩ : ∃ y, lendB (nI i) y1 = y := ⟨_, rfl⟩
      rw [ey2] at hy2 ⊢
      refine A_aload_n dX10_runs_149 rfl rfl ?_
      refine A_iload_n dX10_runs_150 rfl rfl ?_
      refine A_callVv dX10_runs_151 m_X10_285 cb_X10_dueIn (As := [_]) rfl HM_at0 rfl (k_dueIn G hy2.1 hy2.2.1 hy2.2.2 hfl) rfl ⟨by decide, by decide⟩ (Nat.le_of_ble_eq_true rfl) ⟨by decide, by decide⟩ (fun h151 hq => ?_)
      obtain rfl := hq
      have hy3 : IM (dueB fl (nI i) y2) nv nc nf nl wk ∧ TM (dueB fl (nI i) y2) nv nf ∧ (dueB fl (nI i) y2) 0 24 = nI fl := ⟨dueB_s.IM hy2.1, dueB_s.TM hy2.2.1, dueB_s.fl hy2.2.2⟩
      obtain ⟨y3, ey3⟩ : ∃ y, dueB fl (nI i) y2 = y := ⟨_, rfl⟩
      rw [ey3] at hy3 ⊢
      refine A_aload_n dX10_runs_154 rfl rfl ?_
      refine A_iload_n dX10_runs_155 rfl rfl ?_
      refine A_callVv dX10_runs_156 m_X10_288 cb_X10_cropsIn (As := [_]) rfl HM_at0 rfl (k_cropsIn G hy3.1) rfl ⟨by decide, by decide⟩ (Nat.le_of_ble_eq_true rfl) ⟨by decide, by decide⟩ (fun h156 hq => ?_)
      obtain rfl := hq
      have hy4 : IM (drinkB (nI i) y3) nv nc nf nl wk ∧ TM (drinkB (nI i) y3) nv nf ∧ (drinkB (nI i) y3) 0 24 = nI fl := ⟨drinkB_s.IM hy3.1, drinkB_s.TM hy3.2.1, drinkB_s.fl hy3.2.2⟩
      obtain ⟨y4, ey4⟩ : ∃ y, drinkB (nI i) y3 = y := ⟨_, rfl⟩
      rw [ey4] at hy4 ⊢
      refine A_aload_n dX10_runs_159 rfl rfl ?_
      refine A_iload_n dX10_runs_160 rfl rfl ?_
      refine A_callVv dX10_runs_161 m_X10_291 cb_X10_losesIn (As := [_]) rfl HM_at0 rfl (k_losesIn G hy4.1 (by omega)) rfl ⟨by decide, by decide⟩ (Nat.le_of_ble_eq_true rfl) ⟨by decide, by decide⟩ (fun h161 hq => ?_)
      obtain rfl := hq
      have hy5 : IM (seepB (skyB i y4)) nv nc nf nl wk ∧ TM (seepB (skyB i y4)) nv nf ∧ (seepB (skyB i y4)) 0 24 = nI fl := ⟨((skyB_s (w := i)).tr seepB_s).IM hy4.1, ((skyB_s (w := i)).tr seepB_s).TM hy4.2.1, ((skyB_s (w := i)).tr seepB_s).fl hy4.2.2⟩
      obtain ⟨y5, ey5⟩ : ∃ y, seepB (skyB i y4) = y := ⟨_, rfl⟩
      rw [ey5] at hy5 ⊢
      refine A_iconst (v := 0) dX10_runs_164 (by decide) ?_
      refine A_istore_n (lv1 := [_, _, _, _]) dX10_runs_165 rfl (Nat.le_of_ble_eq_true rfl) rfl rfl ?_
      refine runs_wb G X (nv := nv) (nc := nc) (nf := nf) (nl := nl) (wk := wk) (w := i) ⟨rfl, rfl⟩ (by omega) (fun m1 hI1 hT1 => ih (i + 1) m1 (by omega) hI1 (by rw [← hT1, show wk - (i + 1) = k by omega])) nv 0 y5 (by omega) hy5 ?_
      rw [← hT, show wk - (i + 1) = k by omega, forR, weekM, ey1, ey2, ey3, ey4, ey5, wbB, hy5.1.1, tcl_nI (by omega)]

theorem st1M {m : CT} {k i : Nat} {v : Int32} {g : Nat → Int32} : put (st1 m k g) k i v = st1 m k (upd g i v) := by
  funext l
  by_cases h : l = k
  · subst h; simp [put, st1]; rfl
  · simp [put, st1, h]
theorem st1_selfM {m : CT} {k : Nat} : st1 m k (m k) = m := by
  funext l
  by_cases h : l = k
  · subst h; simp [st1]
  · simp [st1, h]
theorem runs_r9 (G : GX) (X : XC) {b : Nat} {ml : Nat → Nat → Int64} {r : Nat → Option AE} {n : Nat} {nv nc nf nl wk : Nat} {fl : Nat} {u1 u2 : Nat} (hu : u1 = 0 ∧ u2 = 0) {T : CT} {m0 : CT} (nxt : WA X G RX10 cX10_runs false none (qV fun h1 => h1 = HM b T ml r n) 3 0 0 (HM b (st1 m0 9 (fun _ => 0)) ml r n) u1 u2 54 [some (.ref b), some (.int (nI fl)), some (.int (nI 9)), none] []) : ∀ (k i : Nat) (g : Nat → Int32), i + k = 9 → (∀ j, j < i → g j = (fun _ => 0) j) → WA X G RX10 cX10_runs false none (qV fun h1 => h1 = HM b T ml r n) 3 0 0 (HM b (st1 m0 9 g) ml r n) u1 u2 35 [some (.ref b), some (.int (nI fl)), some (.int (nI i)), none] [] := by
  obtain ⟨rfl, rfl⟩ := hu
  intro k
  induction k with
  | zero =>
    intro i g hk hg
    have e : i = 9 := by omega
    subst e
    refine A_iload_n dX10_runs_35 rfl rfl ?_
    refine A_bipush (v := 9) dX10_runs_36 (by decide) ?_
    refine A_icmp_ge 54 dX10_runs_38 (by decide) (fun c38 => ?_) (fun c38 => ?_)
    · refine WA_rowM (k := 9) (fun _ => 0) (by decide) (fun _ => rfl) (fun i hi => by rw [st1_eq]; exact hg i hi) ?_
      rw [st1_st1]
      exact nxt
    · exact absurd (by decide) c38
  | succ k ih =>
    intro i g hk hg
    refine A_iload_n dX10_runs_35 rfl rfl ?_
    refine A_bipush (v := 9) dX10_runs_36 (by decide) ?_
    refine A_icmp_ge 54 dX10_runs_38 (by decide) (fun c38 => ?_) (fun c38 => ?_)
    · exact absurd c38 (nI_ge (b := 9) (by omega) (by decide))
    · refine A_aload_n dX10_runs_41 rfl rfl ?_
      refine A_get dX10_runs_42 f_X10_40 HM_at0 rfl ?_
      refine A_iload_n dX10_runs_45 rfl rfl ?_
      refine A_iconst (v := 0) dX10_runs_46 (by decide) ?_
      refine A_iastMK (i := i) dX10_runs_47 (by decide) (fun _ => rfl) rfl (by omega) (by decide) ?_
      refine A_inc 1 (lv1 := [_, _, _, _]) dX10_runs_48 rfl (by decide) rfl rfl ?_
      refine A_goto 35 dX10_runs_51 (by decide) ?_
      rw [nI_1, st1M]
      exact ih (i + 1) _ (by omega) (fun j hj => by by_cases e : j = i; (subst e; rw [pk_us]); (rw [pk_un e]; exact hg j (by omega)))

theorem runs_r10 (G : GX) (X : XC) {b : Nat} {ml : Nat → Nat → Int64} {r : Nat → Option AE} {n : Nat} {nv nc nf nl wk : Nat} {fl : Nat} {u1 u2 : Nat} (hu : u1 = 0 ∧ u2 = 0) {T : CT} {m0 : CT} (nxt : WA X G RX10 cX10_runs false none (qV fun h1 => h1 = HM b T ml r n) 3 0 0 (HM b (st1 m0 10 (fun _ => 0)) ml r n) u1 u2 75 [some (.ref b), some (.int (nI fl)), some (.int (nI 24)), none] []) : ∀ (k i : Nat) (g : Nat → Int32), i + k = 24 → (∀ j, j < i → g j = (fun _ => 0) j) → WA X G RX10 cX10_runs false none (qV fun h1 => h1 = HM b T ml r n) 3 0 0 (HM b (st1 m0 10 g) ml r n) u1 u2 56 [some (.ref b), some (.int (nI fl)), some (.int (nI i)), none] [] := by
  obtain ⟨rfl, rfl⟩ := hu
  intro k
  induction k with
  | zero =>
    intro i g hk hg
    have e : i = 24 := by omega
    subst e
    refine A_iload_n dX10_runs_56 rfl rfl ?_
    refine A_bipush (v := 24) dX10_runs_57 (by decide) ?_
    refine A_icmp_ge 75 dX10_runs_59 (by decide) (fun c59 => ?_) (fun c59 => ?_)
    · refine WA_rowM (k := 10) (fun _ => 0) (by decide) (fun _ => rfl) (fun i hi => by rw [st1_eq]; exact hg i hi) ?_
      rw [st1_st1]
      exact nxt
    · exact absurd (by decide) c59
  | succ k ih =>
    intro i g hk hg
    refine A_iload_n dX10_runs_56 rfl rfl ?_
    refine A_bipush (v := 24) dX10_runs_57 (by decide) ?_
    refine A_icmp_ge 75 dX10_runs_59 (by decide) (fun c59 => ?_) (fun c59 => ?_)
    · exact absurd c59 (nI_ge (b := 24) (by omega) (by decide))
    · refine A_aload_n dX10_runs_62 rfl rfl ?_
      refine A_get dX10_runs_63 f_X10_43 HM_at0 rfl ?_
      refine A_iload_n dX10_runs_66 rfl rfl ?_
      refine A_iconst (v := 0) dX10_runs_67 (by decide) ?_
      refine A_iastMK (i := i) dX10_runs_68 (by decide) (fun _ => rfl) rfl (by omega) (by decide) ?_
      refine A_inc 1 (lv1 := [_, _, _, _]) dX10_runs_69 rfl (by decide) rfl rfl ?_
      refine A_goto 56 dX10_runs_72 (by decide) ?_
      rw [nI_1, st1M]
      exact ih (i + 1) _ (by omega) (fun j hj => by by_cases e : j = i; (subst e; rw [pk_us]); (rw [pk_un e]; exact hg j (by omega)))

theorem runs_r11 (G : GX) (X : XC) {b : Nat} {ml : Nat → Nat → Int64} {r : Nat → Option AE} {n : Nat} {nv nc nf nl wk : Nat} {fl : Nat} {u1 u2 : Nat} (hu : u1 = 0 ∧ u2 = 0) {T : CT} {m0 : CT} (nxt : WA X G RX10 cX10_runs false none (qV fun h1 => h1 = HM b T ml r n) 3 0 0 (HM b (st1 m0 11 (fun j => if j % 3 = 2 then -1 else 0)) ml r n) u1 u2 107 [some (.ref b), some (.int (nI fl)), some (.int (nI 24)), none] []) : ∀ (k i : Nat) (g : Nat → Int32), i + k = 24 → (∀ j, j < i → g j = (fun j => if j % 3 = 2 then -1 else 0) j) → WA X G RX10 cX10_runs false none (qV fun h1 => h1 = HM b T ml r n) 3 0 0 (HM b (st1 m0 11 g) ml r n) u1 u2 77 [some (.ref b), some (.int (nI fl)), some (.int (nI i)), none] [] := by
  obtain ⟨rfl, rfl⟩ := hu
  intro k
  induction k with
  | zero =>
    intro i g hk hg
    have e : i = 24 := by omega
    subst e
    refine A_iload_n dX10_runs_77 rfl rfl ?_
    refine A_bipush (v := 24) dX10_runs_78 (by decide) ?_
    refine A_icmp_ge 107 dX10_runs_80 (by decide) (fun c80 => ?_) (fun c80 => ?_)
    · refine WA_rowM (k := 11) (fun j => if j % 3 = 2 then -1 else 0) (by decide) (fun _ => rfl) (fun i hi => by rw [st1_eq]; exact hg i hi) ?_
      rw [st1_st1]
      exact nxt
    · exact absurd (by decide) c80
  | succ k ih =>
    intro i g hk hg
    refine A_iload_n dX10_runs_77 rfl rfl ?_
    refine A_bipush (v := 24) dX10_runs_78 (by decide) ?_
    refine A_icmp_ge 107 dX10_runs_80 (by decide) (fun c80 => ?_) (fun c80 => ?_)
    · exact absurd c80 (nI_ge (b := 24) (by omega) (by decide))
    · refine A_aload_n dX10_runs_83 rfl rfl ?_
      refine A_get dX10_runs_84 f_X10_46 HM_at0 rfl ?_
      refine A_iload_n dX10_runs_87 rfl rfl ?_
      refine A_iload_n dX10_runs_88 rfl rfl ?_
      refine A_iconst (v := 3) dX10_runs_89 (by decide) ?_
      refine A_irem dX10_runs_90 (by decide) ?_
      refine A_eqI (y := nI (i % 3)) (pk_rem (d := 3) (by omega) (by decide) (by decide)) ?_
      refine A_iconst (v := 2) dX10_runs_91 (by decide) ?_
      refine A_icmp_ne 99 dX10_runs_92 (by decide) (fun c92 => ?_) (fun c92 => ?_)
      · have q9 : ¬ i % 3 = 2 := fun z => c92 (by rw [z]; rfl)
        refine A_iconst (v := 0) dX10_runs_99 (by decide) ?_
        refine A_eqI (y := if i % 3 = 2 then -1 else 0) (by rw [if_neg q9]) ?_
        refine A_iastMK (i := i) dX10_runs_100 (by decide) (fun _ => rfl) rfl (by omega) (by decide) ?_
        refine A_inc 1 (lv1 := [_, _, _, _]) dX10_runs_101 rfl (by decide) rfl rfl ?_
        refine A_goto 77 dX10_runs_104 (by decide) ?_
        rw [nI_1, st1M]
        exact ih (i + 1) _ (by omega) (fun j hj => by by_cases e : j = i; (subst e; rw [pk_us]); (rw [pk_un e]; exact hg j (by omega)))
      · have q9 : i % 3 = 2 := (nI_eq (b := 2) (by omega) (by decide)).mp c92
        refine A_iconst (v := (-1)) dX10_runs_95 (by decide) ?_
        refine A_goto 100 dX10_runs_96 (by decide) ?_
        refine A_eqI (y := if i % 3 = 2 then -1 else 0) (by rw [if_pos q9]) ?_
        refine A_iastMK (i := i) dX10_runs_100 (by decide) (fun _ => rfl) rfl (by omega) (by decide) ?_
        refine A_inc 1 (lv1 := [_, _, _, _]) dX10_runs_101 rfl (by decide) rfl rfl ?_
        refine A_goto 77 dX10_runs_104 (by decide) ?_
        rw [nI_1, st1M]
        exact ih (i + 1) _ (by omega) (fun j hj => by by_cases e : j = i; (subst e; rw [pk_us]); (rw [pk_un e]; exact hg j (by omega)))

theorem runs_w (G : GX) (X : XC) {b : Nat} {ml : Nat → Nat → Int64} {r : Nat → Option AE} {n : Nat} {nv nc nf nl wk : Nat} {fl : Nat} {u1 u2 : Nat} (hu : u1 = 0 ∧ u2 = 0) {T : CT} {m0 : CT} (hI : IM m0 nv nc nf nl wk) (nxt : WA X G RX10 cX10_runs false none (qV fun h1 => h1 = HM b T ml r n) 3 0 0 (HM b (st1 m0 7 (fun j => if j < tcl (m0 1 0) then m0 1 (8 + 5 * j + 1) else m0 7 j)) ml r n) u1 u2 33 [some (.ref b), some (.int (nI fl)), some (.int (nI nv)), none] []) : ∀ (k i : Nat) (g : Nat → Int32), i + k = nv → (∀ j, g j = if j < i then m0 1 (8 + 5 * j + 1) else m0 7 j) → WA X G RX10 cX10_runs false none (qV fun h1 => h1 = HM b T ml r n) 3 0 0 (HM b (st1 m0 7 g) ml r n) u1 u2 7 [some (.ref b), some (.int (nI fl)), some (.int (nI i)), none] [] := by
  obtain ⟨rfl, rfl⟩ := hu
  intro k
  induction k with
  | zero =>
    intro i g hk hg
    obtain ⟨hv, hv6, hc, hc8, hf, hf3, hl, hl8, hw, hw30, gC, gL⟩ := id hI
    have hv0 : (st1 m0 7 g) 1 0 = nI nv := by rw [st1_ne (by decide)]; exact hv
    have e : i = nv := by omega
    subst e
    have hF : g = fun j => if j < tcl (m0 1 0) then m0 1 (8 + 5 * j + 1) else m0 7 j := by funext j; rw [hg j, hv, tcl_nI (by omega)]
    rw [hF] at hv0 ⊢
    refine A_iload_n dX10_runs_7 rfl rfl ?_
    refine A_aload_n dX10_runs_8 rfl rfl ?_
    refine A_callVi dX10_runs_9 m_X10_89 cb_X10_villages (As := []) rfl HM_at0 rfl (k_villages G) rfl ⟨by decide, by decide⟩ (Nat.le_of_ble_eq_true rfl) ⟨by decide, by decide⟩ (fun x9 h9 hq => ?_)
    obtain ⟨rfl, rfl⟩ := hq
    refine A_icmp_ge 33 dX10_runs_12 (by decide) (fun c12 => ?_) (fun c12 => ?_)
    · exact nxt
    · exact absurd (by rw [hv0]; exact nI_le (by omega) (by omega)) c12
  | succ k ih =>
    intro i g hk hg
    obtain ⟨hv, hv6, hc, hc8, hf, hf3, hl, hl8, hw, hw30, gC, gL⟩ := id hI
    have hv0 : (st1 m0 7 g) 1 0 = nI nv := by rw [st1_ne (by decide)]; exact hv
    refine A_iload_n dX10_runs_7 rfl rfl ?_
    refine A_aload_n dX10_runs_8 rfl rfl ?_
    refine A_callVi dX10_runs_9 m_X10_89 cb_X10_villages (As := []) rfl HM_at0 rfl (k_villages G) rfl ⟨by decide, by decide⟩ (Nat.le_of_ble_eq_true rfl) ⟨by decide, by decide⟩ (fun x9 h9 hq => ?_)
    obtain ⟨rfl, rfl⟩ := hq
    refine A_icmp_ge 33 dX10_runs_12 (by decide) (fun c12 => ?_) (fun c12 => ?_)
    · exact absurd c12 (by rw [hv0]; exact nI_ge (by omega) (by omega))
    · refine A_aload_n dX10_runs_15 rfl rfl ?_
      refine A_get dX10_runs_16 f_X10_34 HM_at0 rfl ?_
      refine A_iload_n dX10_runs_19 rfl rfl ?_
      refine A_aload_n dX10_runs_20 rfl rfl ?_
      refine A_iload_n dX10_runs_21 rfl rfl ?_
      refine A_iconst (v := 1) dX10_runs_22 (by decide) ?_
      refine A_callVi dX10_runs_23 m_X10_241 cb_X10_of (As := [_, _]) rfl HM_at0 rfl (k_of G 1 (by omega) (by decide)) rfl ⟨by decide, by decide⟩ (Nat.le_of_ble_eq_true rfl) ⟨by decide, by decide⟩ (fun x23 h23 hq => ?_)
      obtain ⟨rfl, rfl⟩ := hq
      refine A_iastMK (i := i) dX10_runs_26 (by decide) (fun _ => rfl) rfl (by omega) (by decide) ?_
      refine A_inc 1 (lv1 := [_, _, _, _]) dX10_runs_27 rfl (by decide) rfl rfl ?_
      refine A_goto 7 dX10_runs_30 (by decide) ?_
      rw [nI_1, st1M, st1_ne (by decide)]
      exact ih (i + 1) _ (by omega) (fun j => by by_cases e : j = i; (subst e; rw [pk_us, if_pos (by omega)]); (rw [pk_un e, hg j]; by_cases e2 : j < i; (rw [if_pos e2, if_pos (by omega)]); (rw [if_neg e2, if_neg (by omega)])))

theorem runs_z (G : GX) (X : XC) {b : Nat} {ml : Nat → Nat → Int64} {r : Nat → Option AE} {n : Nat} {nv nc nf nl wk : Nat} {fl : Nat} {u1 u2 : Nat} (hu : u1 = 0 ∧ u2 = 0) {T : CT} {m : CT} (hfl : fl < 8) (hI : (IM m nv nc nf nl wk ∧ TM m nv nf ∧ m 0 24 = nI fl)) (hT : forR (weekM fl) 0 wk (put (put (put (put m 0 20 0) 0 21 0) 0 22 0) 0 23 (-1)) = T) : WA X G RX10 cX10_runs false none (qV fun h1 => h1 = HM b T ml r n) 3 0 0 (HM b m ml r n) u1 u2 107 [some (.ref b), some (.int (nI fl)), some (.int (nI 24)), none] [] := by
  obtain ⟨rfl, rfl⟩ := hu
  refine A_aload_n dX10_runs_107 rfl rfl ?_
  refine A_iconst (v := 0) dX10_runs_108 (by decide) ?_
  refine A_putM0 dX10_runs_109 p_X10_273 rfl (Nat.le_of_ble_eq_true rfl) rfl ?_
  refine A_aload_n dX10_runs_112 rfl rfl ?_
  refine A_iconst (v := 0) dX10_runs_113 (by decide) ?_
  refine A_putM0 dX10_runs_114 p_X10_276 rfl (Nat.le_of_ble_eq_true rfl) rfl ?_
  refine A_aload_n dX10_runs_117 rfl rfl ?_
  refine A_iconst (v := 0) dX10_runs_118 (by decide) ?_
  refine A_putM0 dX10_runs_119 p_X10_270 rfl (Nat.le_of_ble_eq_true rfl) rfl ?_
  refine A_aload_n dX10_runs_122 rfl rfl ?_
  refine A_iconst (v := (-1)) dX10_runs_123 (by decide) ?_
  refine A_putM0 dX10_runs_124 p_X10_246 rfl (Nat.le_of_ble_eq_true rfl) rfl ?_
  refine A_iconst (v := 0) dX10_runs_127 (by decide) ?_
  refine A_istore_n (lv1 := [_, _, _, _]) dX10_runs_128 rfl (Nat.le_of_ble_eq_true rfl) rfl rfl ?_
  exact runs_wk G X ⟨rfl, rfl⟩ hfl wk 0 _ (by omega) ⟨((((sameM.rf.p0 (by decide)).p0 (by decide)).p0 (by decide)).p0 (by decide)).IM hI.1, ((((sameM.rf.p0 (by decide)).p0 (by decide)).p0 (by decide)).p0 (by decide)).TM hI.2.1, ((((sameM.rf.p0 (by decide)).p0 (by decide)).p0 (by decide)).p0 (by decide)).fl hI.2.2⟩ hT

theorem sameM.s1 {a c : CT} {k : Nat} {g : Nat → Int32} (h : sameM a c) (hk : 7 ≤ k ∧ k < 12) : sameM a (st1 c k g) := h.tr ⟨fun l _ z => st1_ne (by omega), fun j _ => by rw [st1_ne (by omega)]⟩
theorem runs_c (G : GX) (X : XC) {b : Nat} {ml : Nat → Nat → Int64} {r : Nat → Option AE} {n : Nat} {nv nc nf nl wk : Nat} {fl : Nat} {u1 u2 : Nat} (hu : u1 = 0 ∧ u2 = 0) {T : CT} {m : CT} (hfl : fl < 8) (hI : (IM m nv nc nf nl wk ∧ TM m nv nf ∧ m 0 24 = nI fl)) (hT : forR (weekM fl) 0 wk (put (put (put (put (st1 (st1 (st1 m 9 (fun _ => 0)) 10 (fun _ => 0)) 11 (fun j => if j % 3 = 2 then -1 else 0)) 0 20 0) 0 21 0) 0 22 0) 0 23 (-1)) = T) : WA X G RX10 cX10_runs false none (qV fun h1 => h1 = HM b T ml r n) 3 0 0 (HM b m ml r n) u1 u2 33 [some (.ref b), some (.int (nI fl)), some (.int (nI nv)), none] [] := by
  obtain ⟨rfl, rfl⟩ := hu
  have hs : sameM m (st1 (st1 (st1 m 9 (fun _ => 0)) 10 (fun _ => 0)) 11 (fun j => if j % 3 = 2 then -1 else 0)) := ((sameM.rf.s1 (by decide)).s1 (by decide)).s1 (by decide)
  have n3 := runs_z G X (b := b) (ml := ml) (r := r) (n := n) (nv := nv) (nc := nc) (nf := nf) (nl := nl) (wk := wk) (fl := fl) ⟨rfl, rfl⟩ hfl ⟨hs.IM hI.1, hs.TM hI.2.1, hs.fl hI.2.2⟩ hT
  have n2 : WA X G RX10 cX10_runs false none (qV fun h1 => h1 = HM b T ml r n) 3 0 0 (HM b (st1 (st1 m 9 (fun _ => 0)) 10 (fun _ => 0)) ml r n) 0 0 75 [some (.ref b), some (.int (nI fl)), some (.int (nI 24)), none] [] := by
    refine A_iconst (v := 0) dX10_runs_75 (by decide) ?_
    refine A_istore_n (lv1 := [_, _, _, _]) dX10_runs_76 rfl (Nat.le_of_ble_eq_true rfl) rfl rfl ?_
    have e := runs_r11 G X (nv := nv) (nc := nc) (nf := nf) (nl := nl) (wk := wk) ⟨rfl, rfl⟩ n3 24 0 (m 11) (by omega) (fun j hj => by omega)
    refine WA_h (congrArg (fun z => HM b z ml r n) (show _ = st1 (st1 (st1 m 9 (fun _ => 0)) 10 (fun _ => 0)) 11 (m 11) from by funext l; by_cases h : l = 11 <;> simp [st1, h])) e
  
  have n1 : WA X G RX10 cX10_runs false none (qV fun h1 => h1 = HM b T ml r n) 3 0 0 (HM b (st1 m 9 (fun _ => 0)) ml r n) 0 0 54 [some (.ref b), some (.int (nI fl)), some (.int (nI 9)), none] [] := by
    refine A_iconst (v := 0) dX10_runs_54 (by decide) ?_
    refine A_istore_n (lv1 := [_, _, _, _]) dX10_runs_55 rfl (Nat.le_of_ble_eq_true rfl) rfl rfl ?_
    have e := runs_r10 G X (nv := nv) (nc := nc) (nf := nf) (nl := nl) (wk := wk) ⟨rfl, rfl⟩ n2 24 0 (m 10) (by omega) (fun j hj => by omega)
    refine WA_h (congrArg (fun z => HM b z ml r n) (show _ = st1 (st1 m 9 (fun _ => 0)) 10 (m 10) from by funext l; by_cases h : l = 10 <;> simp [st1, h])) e
  
  refine A_iconst (v := 0) dX10_runs_33 (by decide) ?_
  refine A_istore_n (lv1 := [_, _, _, _]) dX10_runs_34 rfl (Nat.le_of_ble_eq_true rfl) rfl rfl ?_
  have e := runs_r9 G X (nv := nv) (nc := nc) (nf := nf) (nl := nl) (wk := wk) ⟨rfl, rfl⟩ n1 9 0 (m 9) (by omega) (fun j hj => by omega)
  refine WA_h (congrArg (fun z => HM b z ml r n) (show _ = st1 m 9 (m 9) from st1_selfM.symm)) e

theorem k_runs (G : GX) {b : Nat} {m : CT} {ml : Nat → Nat → Int64} {r : Nat → Option AE} {n : Nat} {nv nc nf nl wk : Nat} {fl : Nat} (hI : IM m nv nc nf nl wk) (hT : TM m nv nf) (hfl : fl < 8) : MA G 3 yX10_runs cX10_runs 4 none 0 0 [.ref b, .int (nI fl)] (HM b m ml r n) (qV fun h1 => h1 = HM b (runM fl m) ml r n) := by
  refine MA.of (own := RX10) false [some (.ref b), some (.int (nI fl)), none, none] (by decide +kernel) rfl (fun h => by cases h) (Nat.le_of_ble_eq_true rfl) rfl (fun X => ?_)
  refine A_aload_n dX10_runs_0 rfl rfl ?_
  refine A_iload_n dX10_runs_1 rfl rfl ?_
  refine A_putM0 dX10_runs_2 p_X10_243 rfl (Nat.le_of_ble_eq_true rfl) rfl ?_
  refine A_iconst (v := 0) dX10_runs_5 (by decide) ?_
  refine A_istore_n (lv1 := [_, _, _, _]) dX10_runs_6 rfl (Nat.le_of_ble_eq_true rfl) rfl rfl ?_
  have hI0 : IM (put m 0 24 (nI fl)) nv nc nf nl wk := hI.to (put_ne (by decide))
  have hv := hI.1
  have hv6 := hI.2.1
  have hs : (fun j => if j < tcl ((put m 0 24 (nI fl)) 1 0) then (put m 0 24 (nI fl)) 1 (8 + 5 * j + 1) else (put m 0 24 (nI fl)) 7 j) = (fun j => if j < tcl (m 1 0) then m 1 (8 + 5 * j + 1) else m 7 j) := by rw [put_ne (by decide), put_ne (by decide)]
  have hs7 : sameM (put m 0 24 (nI fl)) (st1 (put m 0 24 (nI fl)) 7 (fun j => if j < tcl ((put m 0 24 (nI fl)) 1 0) then (put m 0 24 (nI fl)) 1 (8 + 5 * j + 1) else (put m 0 24 (nI fl)) 7 j)) := sameM.rf.s1 (by decide)
  have n1 := runs_c G X (b := b) (ml := ml) (r := r) (n := n) (nv := nv) (nc := nc) (nf := nf) (nl := nl) (wk := wk) (fl := fl) ⟨rfl, rfl⟩ hfl ⟨hs7.IM hI0, hs7.TM (hT.to (put_ne (by decide))), hs7.fl put_at⟩ rfl
  have e := runs_w G X (nv := nv) (nc := nc) (nf := nf) (nl := nl) (wk := wk) (fl := fl) ⟨rfl, rfl⟩ hI0 n1 nv 0 (m 7) (by omega) (fun j => by rw [if_neg (by omega), put_ne (by decide)])
  have eT : forR (weekM fl) 0 wk (put (put (put (put (st1 (st1 (st1 (st1 (put m 0 24 (nI fl)) 7 (fun j => if j < tcl ((put m 0 24 (nI fl)) 1 0) then (put m 0 24 (nI fl)) 1 (8 + 5 * j + 1) else (put m 0 24 (nI fl)) 7 j)) 9 (fun _ => 0)) 10 (fun _ => 0)) 11 (fun j => if j % 3 = 2 then -1 else 0)) 0 20 0) 0 21 0) 0 22 0) 0 23 (-1)) = runM fl m := by rw [runM, begM, hs, hI.2.2.2.2.2.2.2.2.1, tcl_nI (by have := hI.2.2.2.2.2.2.2.2.2.1; omega)]
  rw [eT] at e
  refine WA_h (congrArg (fun z => HM b z ml r n) (show _ = st1 (put m 0 24 (nI fl)) 7 (m 7) from by funext l; by_cases h : l = 7 <;> simp [put, st1, h])) e

theorem k_year (G : GX) {b : Nat} {m : CT} {ml : Nat → Nat → Int64} {r : Nat → Option AE} {n : Nat} {nv nc nf nl wk : Nat} (hI : IM m nv nc nf nl wk) (hT : TM m nv nf) : MA G 4 yX10_year cX10_year 1 none 0 0 [.ref b] (HM b m ml r n) (qV fun h1 => h1 = HM b (runM 7 m) ml r n) := by
  refine MA.of (own := RX10) false [some (.ref b)] (by decide +kernel) rfl (fun h => by cases h) (Nat.le_of_ble_eq_true rfl) rfl (fun X => ?_)
  refine A_aload_n dX10_year_0 rfl rfl ?_
  refine A_bipush (v := 7) dX10_year_1 (by decide) ?_
  refine A_callVv dX10_year_3 m_X10_294 cb_X10_runs (As := [_]) rfl HM_at0 rfl (k_runs G (fl := 7) hI hT (by decide)) rfl ⟨by decide, by decide⟩ (Nat.le_of_ble_eq_true rfl) ⟨by decide, by decide⟩ (fun h3 hq => ?_)
  obtain rfl := hq
  exact A_vret dX10_year_6 rfl ⟨by decide, by decide⟩
