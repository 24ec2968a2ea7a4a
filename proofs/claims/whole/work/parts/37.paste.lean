/-! numbers pasted from SLOT to SLOT -/
theorem hasS_of {m : Nat} {i k : Int32} (h : ¬ hasS (nI m) i k = 0) (hm : m ≤ 60) : ∃ x y, x + y ≤ m ∧ i = nI x ∧ k = nI y := by
  have h1 : ¬ (i < 0 ∨ k < 0 ∨ nI m < k ∨ nI m - k < i) := fun z => h (if_pos z)
  have a1 : ¬ i.toInt < 0 := fun z => h1 (Or.inl (Int32.lt_iff_toInt_lt.mpr z))
  have a2 : ¬ k.toInt < 0 := fun z => h1 (Or.inr (Or.inl (Int32.lt_iff_toInt_lt.mpr z)))
  have a3 : ¬ (m : Int) < k.toInt := fun z => h1 (Or.inr (Or.inr (Or.inl (Int32.lt_iff_toInt_lt.mpr (by rw [nI_toInt (by omega)]; exact z)))))
  have ek : k = nI k.toInt.toNat := by
    refine Int32.toInt_inj.mp ?_
    rw [nI_toInt (by omega)]
    omega
  have a4 : ¬ ((m - k.toInt.toNat : Nat) : Int) < i.toInt := fun z => h1 (Or.inr (Or.inr (Or.inr (Int32.lt_iff_toInt_lt.mpr (by rw [ek, nI_subN (by omega), nI_toInt (by omega)]; exact z)))))
  have ei : i = nI i.toInt.toNat := by
    refine Int32.toInt_inj.mp ?_
    rw [nI_toInt (by omega)]
    omega
  exact ⟨i.toInt.toNat, k.toInt.toNat, by omega, ei, ek⟩
def pasteP (S : Nat → Option ST) (s i t k l : Int32) (x : Int32) (r r1 : Nat → Option AE) : Prop :=
  if inI s 4 = 0 ∨ inI t 4 = 0 then x = -2 ∧ r1 = r else match S (tcl s), S (tcl t) with
  | some (_, _, w1, m1, f1), some (_, q2, w2, m2, f2) => if w1 = w2 then if hasS (nI m1) i l = 0 ∨ hasS (nI m2) k l = 0 then x = -7 ∧ r1 = r else x = 0 ∧ r1 = fun z => if z = q2 then some (aJ 60 (va_cpy f1 f2 (tcl i) (tcl k) (tcl l))) else r z else x = -8 ∧ r1 = r
  | _, _ => x = -6 ∧ r1 = r
theorem c_paste (G : GX) {b : Nat} {c : CT} {co : Nat → Nat → Option Nat} {r : Nat → Option AE} {n : Nat} {S : Nat → Option ST} {s i t k l : Int32} (hS : SOk b co r S) : MA G 2 yX9_paste cX9_paste 8 (some .int) 0 0 [.ref b, .int s, .int i, .int t, .int k, .int l] (HC b c co r n) (qI fun x h1 => ∃ r1, h1 = HC b c co r1 n ∧ pasteP S s i t k l x r r1) := by
  refine MA.of (own := RX9) false [some (.ref b), some (.int s), some (.int i), some (.int t), some (.int k), some (.int l), none, none] (by decide +kernel) rfl (fun h => by cases h) (Nat.le_of_ble_eq_true rfl) rfl (fun X => ?_)
  refine A_iload_n dX9_paste_0 rfl rfl ?_
  refine A_callSi dX9_paste_1 m_X9_287 cb_X9_isSlot (As := [_]) rfl (c_isSlot G) rfl ⟨by decide, by decide⟩ (Nat.le_of_ble_eq_true rfl) ⟨by decide, by decide⟩ (fun x1 h1 hq => ?_)
  obtain ⟨rfl, rfl⟩ := hq
  refine A_if_eq 14 dX9_paste_4 (by decide) (fun c4 => ?_) (fun c4 => ?_)
  · refine A_bipush (v := (-2)) dX9_paste_14 (by decide) ?_
    exact A_iret dX9_paste_16 ⟨r, rfl, by rw [pasteP, if_pos (by first | exact Or.inl (by assumption) | exact Or.inr (by assumption))]; exact ⟨rfl, rfl⟩⟩ ⟨by decide, by decide⟩
  · refine A_iload_n dX9_paste_7 rfl rfl ?_
    refine A_callSi dX9_paste_8 m_X9_287 cb_X9_isSlot (As := [_]) rfl (c_isSlot G) rfl ⟨by decide, by decide⟩ (Nat.le_of_ble_eq_true rfl) ⟨by decide, by decide⟩ (fun x8 h8 hq => ?_)
    obtain ⟨rfl, rfl⟩ := hq
    refine A_if_ne 17 dX9_paste_11 (by decide) (fun c11 => ?_) (fun c11 => ?_)
    · obtain ⟨j1, hj1, rfl⟩ := inI_of (k := 4) rfl c4 (by decide)
      obtain ⟨j2, hj2, rfl⟩ := inI_of (k := 4) rfl c11 (by decide)
      refine A_aload_n dX9_paste_17 rfl rfl ?_
      refine A_iload_n dX9_paste_18 rfl rfl ?_
      refine A_callVo dX9_paste_19 m_X9_290 cb_X9_slotAt (As := [_]) rfl HC_at0 rfl (c_slotAt G hj1) rfl ⟨by decide, by decide⟩ (Nat.le_of_ble_eq_true rfl) ⟨by decide, by decide⟩ (fun x19 h19 hq => ?_)
      obtain ⟨rfl, rfl⟩ := hq
      have hsj1 := hS j1 hj1
      rcases hs1 : S j1 with _ | ⟨a1, q1, w1, m1, f1⟩
      · rw [hsj1.1 hs1]
        refine A_astoreN (lv1 := [_, _, _, _, _, _, _, _]) dX9_paste_22 (Nat.le_of_ble_eq_true rfl) rfl rfl ?_
        refine A_aload_n dX9_paste_24 rfl rfl ?_
        refine A_iload_n dX9_paste_25 rfl rfl ?_
        refine A_callVo dX9_paste_26 m_X9_290 cb_X9_slotAt (As := [_]) rfl HC_at0 rfl (c_slotAt G hj2) rfl ⟨by decide, by decide⟩ (Nat.le_of_ble_eq_true rfl) ⟨by decide, by decide⟩ (fun x26 h26 hq => ?_)
        obtain ⟨rfl, rfl⟩ := hq
        have hsj2 := hS j2 hj2
        rcases hs2 : S j2 with _ | ⟨a2, q2, w2, m2, f2⟩
        · rw [hsj2.1 hs2]
          refine A_astoreN (lv1 := [_, _, _, _, _, _, _, _]) dX9_paste_29 (Nat.le_of_ble_eq_true rfl) rfl rfl ?_
          refine A_aloadN dX9_paste_31 rfl ?_
          refine A_ifnullN 41 dX9_paste_33 (by decide) ?_
          refine A_bipush (v := (-6)) dX9_paste_41 (by decide) ?_
          exact A_iret dX9_paste_43 ⟨r, rfl, by rw [pasteP, if_neg (fun z => z.elim c4 c11), tcl_nI (show j1 < 2 ^ 31 by omega), tcl_nI (show j2 < 2 ^ 31 by omega), hs1, hs2]; exact ⟨rfl, rfl⟩⟩ ⟨by decide, by decide⟩
        · obtain ⟨hco2, ha2, hq2, hm2, oa2, oq2⟩ := hsj2.2 a2 q2 w2 m2 f2 hs2
          rw [hco2]
          refine A_astore (lv1 := [_, _, _, _, _, _, _, _]) dX9_paste_29 (Nat.le_of_ble_eq_true rfl) rfl rfl ?_
          refine A_aloadN dX9_paste_31 rfl ?_
          refine A_ifnullN 41 dX9_paste_33 (by decide) ?_
          refine A_bipush (v := (-6)) dX9_paste_41 (by decide) ?_
          exact A_iret dX9_paste_43 ⟨r, rfl, by rw [pasteP, if_neg (fun z => z.elim c4 c11), tcl_nI (show j1 < 2 ^ 31 by omega), tcl_nI (show j2 < 2 ^ 31 by omega), hs1, hs2]; exact ⟨rfl, rfl⟩⟩ ⟨by decide, by decide⟩
      · obtain ⟨hco1, ha1, hq1, hm1, oa1, oq1⟩ := hsj1.2 a1 q1 w1 m1 f1 hs1
        rw [hco1]
        refine A_astore (lv1 := [_, _, _, _, _, _, _, _]) dX9_paste_22 (Nat.le_of_ble_eq_true rfl) rfl rfl ?_
        refine A_aload_n dX9_paste_24 rfl rfl ?_
        refine A_iload_n dX9_paste_25 rfl rfl ?_
        refine A_callVo dX9_paste_26 m_X9_290 cb_X9_slotAt (As := [_]) rfl HC_at0 rfl (c_slotAt G hj2) rfl ⟨by decide, by decide⟩ (Nat.le_of_ble_eq_true rfl) ⟨by decide, by decide⟩ (fun x26 h26 hq => ?_)
        obtain ⟨rfl, rfl⟩ := hq
        have hsj2 := hS j2 hj2
        rcases hs2 : S j2 with _ | ⟨a2, q2, w2, m2, f2⟩
        · rw [hsj2.1 hs2]
          refine A_astoreN (lv1 := [_, _, _, _, _, _, _, _]) dX9_paste_29 (Nat.le_of_ble_eq_true rfl) rfl rfl ?_
          refine A_aload dX9_paste_31 rfl ?_
          refine A_ifnull dX9_paste_33 ?_
          refine A_aloadN dX9_paste_36 rfl ?_
          refine A_ifnonnullN dX9_paste_38 ?_
          refine A_bipush (v := (-6)) dX9_paste_41 (by decide) ?_
          exact A_iret dX9_paste_43 ⟨r, rfl, by rw [pasteP, if_neg (fun z => z.elim c4 c11), tcl_nI (show j1 < 2 ^ 31 by omega), tcl_nI (show j2 < 2 ^ 31 by omega), hs1, hs2]; exact ⟨rfl, rfl⟩⟩ ⟨by decide, by decide⟩
        · obtain ⟨hco2, ha2, hq2, hm2, oa2, oq2⟩ := hsj2.2 a2 q2 w2 m2 f2 hs2
          rw [hco2]
          refine A_astore (lv1 := [_, _, _, _, _, _, _, _]) dX9_paste_29 (Nat.le_of_ble_eq_true rfl) rfl rfl ?_
          refine A_aload dX9_paste_31 rfl ?_
          refine A_ifnull dX9_paste_33 ?_
          refine A_aload dX9_paste_36 rfl ?_
          refine A_ifnonnull 44 dX9_paste_38 (by decide) ?_
          refine A_aload dX9_paste_44 rfl ?_
          refine A_get dX9_paste_46 f_X9_420 ((HC_out oa1).trans ha1) rfl ?_
          refine A_aload dX9_paste_49 rfl ?_
          refine A_get dX9_paste_51 f_X9_420 ((HC_out oa2).trans ha2) rfl ?_
          refine A_icmp_eq 60 dX9_paste_54 (by decide) (fun c54 => ?_) (fun c54 => ?_)
          · refine A_aload dX9_paste_60 rfl ?_
            refine A_iload_n dX9_paste_62 rfl rfl ?_
            refine A_iload dX9_paste_63 rfl ?_
            refine A_callVi dX9_paste_65 m_X9_423 cb_X5_hasAll (As := [_, _]) rfl ((HC_out oa1).trans ha1) rfl (c_hasAll G ((HC_out oa1).trans ha1)) rfl ⟨by decide, by decide⟩ (Nat.le_of_ble_eq_true rfl) ⟨by decide, by decide⟩ (fun x65 h65 hq => ?_)
            obtain ⟨rfl, rfl⟩ := hq
            refine A_if_eq 83 dX9_paste_68 (by decide) (fun c68 => ?_) (fun c68 => ?_)
            · refine A_bipush (v := (-7)) dX9_paste_83 (by decide) ?_
              exact A_iret dX9_paste_85 ⟨r, rfl, by rw [pasteP, if_neg (fun z => z.elim c4 c11), tcl_nI (show j1 < 2 ^ 31 by omega), tcl_nI (show j2 < 2 ^ 31 by omega), hs1, hs2]; show (if w1 = w2 then (if hasS (nI m1) i l = 0 ∨ hasS (nI m2) k l = 0 then _ else _) else _); rw [if_pos c54, if_pos (by first | exact Or.inl (by assumption) | exact Or.inr (by assumption))]; exact ⟨rfl, rfl⟩⟩ ⟨by decide, by decide⟩
            · refine A_aload dX9_paste_71 rfl ?_
              refine A_iload dX9_paste_73 rfl ?_
              refine A_iload dX9_paste_75 rfl ?_
              refine A_callVi dX9_paste_77 m_X9_423 cb_X5_hasAll (As := [_, _]) rfl ((HC_out oa2).trans ha2) rfl (c_hasAll G ((HC_out oa2).trans ha2)) rfl ⟨by decide, by decide⟩ (Nat.le_of_ble_eq_true rfl) ⟨by decide, by decide⟩ (fun x77 h77 hq => ?_)
              obtain ⟨rfl, rfl⟩ := hq
              refine A_if_ne 86 dX9_paste_80 (by decide) (fun c80 => ?_) (fun c80 => ?_)
              · refine A_aload dX9_paste_86 rfl ?_
                refine A_get dX9_paste_88 f_X9_426 ((HC_out oa1).trans ha1) rfl ?_
                refine A_iload_n dX9_paste_91 rfl rfl ?_
                refine A_aload dX9_paste_92 rfl ?_
                refine A_get dX9_paste_94 f_X9_426 ((HC_out oa2).trans ha2) rfl ?_
                refine A_iload dX9_paste_97 rfl ?_
                refine A_iload dX9_paste_99 rfl ?_
                obtain ⟨i1, l1, hil, ei, el⟩ := hasS_of c68 hm1
                obtain ⟨k1, l2, hkl, ek, el2⟩ := hasS_of c80 hm2
                have ti : tcl i = i1 := by rw [ei]; exact tcl_nI (by omega)
                have tk : tcl k = k1 := by rw [ek]; exact tcl_nI (by omega)
                have tl : tcl l = l1 := by rw [el]; exact tcl_nI (by omega)
                have tl2 : tcl l = l2 := by rw [el2]; exact tcl_nI (by omega)
                refine A_copyJ dX9_paste_101 w_1160 ((HC_out oq1).trans hq1) ((HC_out oq2).trans hq2) (by rw [ei]; exact nI_pos (by omega)) (by rw [ek]; exact nI_pos (by omega)) (by rw [el]; exact nI_pos (by omega)) (show tcl i + tcl l ≤ 60 by omega) (show tcl k + tcl l ≤ 60 by omega) (by decide) (Nat.le_of_ble_eq_true rfl) ?_
                refine WA_h (HC_upR oq2) ?_
                refine A_iconst (v := 0) dX9_paste_104 (by decide) ?_
                exact A_iret dX9_paste_105 ⟨_, rfl, by rw [pasteP, if_neg (fun z => z.elim c4 c11), tcl_nI (show j1 < 2 ^ 31 by omega), tcl_nI (show j2 < 2 ^ 31 by omega), hs1, hs2]; show (if w1 = w2 then (if hasS (nI m1) i l = 0 ∨ hasS (nI m2) k l = 0 then _ else _) else _); rw [if_pos c54, if_neg (fun z => z.elim c68 c80)]; exact ⟨rfl, rfl⟩⟩ ⟨by decide, by decide⟩
              · refine A_bipush (v := (-7)) dX9_paste_83 (by decide) ?_
                exact A_iret dX9_paste_85 ⟨r, rfl, by rw [pasteP, if_neg (fun z => z.elim c4 c11), tcl_nI (show j1 < 2 ^ 31 by omega), tcl_nI (show j2 < 2 ^ 31 by omega), hs1, hs2]; show (if w1 = w2 then (if hasS (nI m1) i l = 0 ∨ hasS (nI m2) k l = 0 then _ else _) else _); rw [if_pos c54, if_pos (by first | exact Or.inl (by assumption) | exact Or.inr (by assumption))]; exact ⟨rfl, rfl⟩⟩ ⟨by decide, by decide⟩
          · refine A_bipush (v := (-8)) dX9_paste_57 (by decide) ?_
            exact A_iret dX9_paste_59 ⟨r, rfl, by rw [pasteP, if_neg (fun z => z.elim c4 c11), tcl_nI (show j1 < 2 ^ 31 by omega), tcl_nI (show j2 < 2 ^ 31 by omega), hs1, hs2]; show (if w1 = w2 then _ else _); rw [if_neg c54]; exact ⟨rfl, rfl⟩⟩ ⟨by decide, by decide⟩
    · refine A_bipush (v := (-2)) dX9_paste_14 (by decide) ?_
      exact A_iret dX9_paste_16 ⟨r, rfl, by rw [pasteP, if_pos (by first | exact Or.inl (by assumption) | exact Or.inr (by assumption))]; exact ⟨rfl, rfl⟩⟩ ⟨by decide, by decide⟩
