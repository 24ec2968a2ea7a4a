/-! SLOTS: their own methods -/
def numF (m : Int32) (f : Nat → Int64) (i : Int32) : Int64 := if inI i m = 0 then 0 else f (tcl i)
def cutF (w : Int32) (v : Int64) : Int64 := if w = 0 then v.toInt32.toInt8.toInt32.toInt64 else if w = 1 then v.toInt32.toInt16.toInt32.toInt64 else if w = 2 then v.toInt32.toInt64 else v
def hasS (m i k : Int32) : Int32 := if i < 0 ∨ k < 0 ∨ m < k ∨ m - k < i then 0 else 1
def qO (Q : Option Nat → AH → Prop) : Option Value → AH → Prop := fun rv h => ∃ x, rv = some (va_rf x) ∧ Q x h
section WAO
variable {X : XC} {G : GX} {own : String} {cc : ByteArray} {ini : Bool} {ret : Option FieldType} {Qp : Option Value → AH → Prop} {d mc ms : Nat} {h : AH} {uc us pc : Nat} {lv : List (Option Value)} {st st0 : List Value}
variable {i n dc mL mcc msc : Nat} {y : MethodName} {bc : ByteArray} {rc : Option FieldType} {As : List Value} {Qc : Option Value → AH → Prop}
theorem A_oret {Q : Option Nat → AH → Prop} {x : Option Nat} {nm : String} (hd : decode cc pc = .ok (.areturn, 1)) (hq : Q x h) (hb : uc ≤ mc ∧ us ≤ ms) : WA X G own cc ini (some (.object nm)) (qO Q) d mc ms h uc us pc lv [va_rf x] := by
  obtain ⟨p, e, s, m, args, below, meth, c, h0⟩ := X
  intro H locs ls hX hR hS hdm hL
  have hlocks := hX.2.2.2.2.2.1
  exact W.widen hb.1 hb.2 (W.aret hX.1 hX.2.1 hX.2.2.1 (Or.inl ⟨_, rfl⟩) (by cases x; exact Or.inl rfl; exact Or.inr ⟨_, rfl⟩) (fun t ht hW => ⟨⟨_, h, rfl, ⟨x, rfl, hq⟩, by rw [ht]; exact hR, hdm⟩, hS.F ht⟩) hS.2.2 hd hlocks)
theorem A_callVo {Q : Option Nat → AH → Prop} {b ci : Nat} {fs : List Value} (hd : decode cc pc = .ok (.invokevirtual i, 3)) (cw : CV own i y) (cb : CB y bc mL rc n) (hst : st0 = As.reverse ++ .ref b :: st) (hrcv : h.1 b = some (ob ci fs)) (hcl : (vwCl[ci]?).map (fun q => q.1) = some y.cls) (M : MA G dc y bc mL rc mcc msc (.ref b :: As) h (qO Q)) (hn : As.length = n) (hroom : dc + 1 ≤ d ∧ mL ≤ 45) (hcat : (st.map fun v => v.category).sum ≤ 8) (hbud : uc + mcc ≤ mc ∧ us + msc ≤ ms) (kk : ∀ (x : Option Nat) (h1 : AH), Q x h1 → WA X G own cc ini ret Qp d mc ms h1 (uc + mcc) (us + msc) (pc + 3) lv (va_rf x :: st)) : WA X G own cc ini ret Qp d mc ms h uc us pc lv st0 := by
  refine A_callV hd cw cb hst hrcv hcl M hn hroom hcat hbud ?_
  rintro rv h1 ⟨x, rfl, hq⟩
  exact kk x h1 hq
end WAO
theorem inI_1 {j k : Nat} (h : j < k) (hk : k < 2 ^ 31) : inI (nI j) (nI k) = 1 := if_neg (by
  rintro (z | z)
  · exact nI_pos (by omega) z
  · exact absurd z (nI_ge h hk))
theorem c_slotAt (G : GX) {b : Nat} {c : CT} {co : Nat → Nat → Option Nat} {r : Nat → Option AE} {n s : Nat} (hs4 : s < 4) : MA G 1 yX9_slotAt cX9_slotAt 2 (some (.object "FloodLent$Slot")) 0 0 [.ref b, .int (nI s)] (HC b c co r n) (qO fun x h1 => x = co 27 s ∧ h1 = HC b c co r n) := by
  refine MA.of (own := RX9) false [some (.ref b), some (.int (nI s))] (by decide +kernel) rfl (fun h => by cases h) (Nat.le_of_ble_eq_true rfl) rfl (fun X => ?_)
  refine A_iload_n dX9_slotAt_0 rfl rfl ?_
  refine A_callSi dX9_slotAt_1 m_X9_287 cb_X9_isSlot (As := [_]) rfl (c_isSlot G) rfl ⟨by decide, by decide⟩ (Nat.le_of_ble_eq_true rfl) ⟨by decide, by decide⟩ (fun x1 h1 hq => ?_)
  obtain ⟨rfl, rfl⟩ := hq
  refine A_if_eq 16 dX9_slotAt_4 (by decide) (fun c4 => ?_) (fun c4 => ?_)
  · exact absurd (show inI (nI s) (nI 4) = 0 from c4) (by rw [inI_1 hs4 (by decide)]; decide)
  · refine A_aload_n dX9_slotAt_7 rfl rfl ?_
    refine A_get dX9_slotAt_8 f_X9_41 HC_at0 rfl ?_
    refine A_iload_n dX9_slotAt_11 rfl rfl ?_
    refine A_aald dX9_slotAt_12 (HC_at (by decide)) rfl (vp_in_nI hs4 (by decide)) ?_
    rw [nI_clamp (by omega)]
    refine A_goto 17 dX9_slotAt_13 (by decide) ?_
    exact A_oret dX9_slotAt_17 ⟨rfl, rfl⟩ ⟨by decide, by decide⟩

theorem c_hasAll (G : GX) {h : AH} {a q : Nat} {w m : Int32} {i k : Int32} (ha : h.1 a = some (ob 5 [.ref q, .int w, .int m])) : MA G 0 yX5_hasAll cX5_hasAll 3 (some .boolean) 0 0 [.ref a, .int i, .int k] h (qI fun x h1 => x = hasS m i k ∧ h1 = h) := by
  refine MA.of (own := RX5) false [some (.ref a), some (.int i), some (.int k)] (by decide +kernel) rfl (fun h => by cases h) (Nat.le_of_ble_eq_true rfl) rfl (fun X => ?_)
  refine A_iload_n dX5_hasAll_0 rfl rfl ?_
  refine A_if_lt 30 dX5_hasAll_1 (by decide) (fun c1 => ?_) (fun c1 => ?_)
  · refine A_iconst (v := 0) dX5_hasAll_30 (by decide) ?_
    exact A_zret dX5_hasAll_31 rfl ⟨(if_pos (by first | exact Or.inl (by assumption) | exact Or.inr (Or.inl (by assumption)) | exact Or.inr (Or.inr (Or.inl (by assumption))) | exact Or.inr (Or.inr (Or.inr (by assumption))))).symm, rfl⟩ ⟨by decide, by decide⟩
  · refine A_iload_n dX5_hasAll_4 rfl rfl ?_
    refine A_if_lt 30 dX5_hasAll_5 (by decide) (fun c5 => ?_) (fun c5 => ?_)
    · refine A_iconst (v := 0) dX5_hasAll_30 (by decide) ?_
      exact A_zret dX5_hasAll_31 rfl ⟨(if_pos (by first | exact Or.inl (by assumption) | exact Or.inr (Or.inl (by assumption)) | exact Or.inr (Or.inr (Or.inl (by assumption))) | exact Or.inr (Or.inr (Or.inr (by assumption))))).symm, rfl⟩ ⟨by decide, by decide⟩
    · refine A_iload_n dX5_hasAll_8 rfl rfl ?_
      refine A_aload_n dX5_hasAll_9 rfl rfl ?_
      refine A_get dX5_hasAll_10 f_X5_26 ha rfl ?_
      refine A_icmp_gt 30 dX5_hasAll_13 (by decide) (fun c13 => ?_) (fun c13 => ?_)
      · refine A_iconst (v := 0) dX5_hasAll_30 (by decide) ?_
        exact A_zret dX5_hasAll_31 rfl ⟨(if_pos (by first | exact Or.inl (by assumption) | exact Or.inr (Or.inl (by assumption)) | exact Or.inr (Or.inr (Or.inl (by assumption))) | exact Or.inr (Or.inr (Or.inr (by assumption))))).symm, rfl⟩ ⟨by decide, by decide⟩
      · refine A_iload_n dX5_hasAll_16 rfl rfl ?_
        refine A_aload_n dX5_hasAll_17 rfl rfl ?_
        refine A_get dX5_hasAll_18 f_X5_26 ha rfl ?_
        refine A_iload_n dX5_hasAll_21 rfl rfl ?_
        refine A_isub dX5_hasAll_22 ?_
        refine A_icmp_gt 30 dX5_hasAll_23 (by decide) (fun c23 => ?_) (fun c23 => ?_)
        · refine A_iconst (v := 0) dX5_hasAll_30 (by decide) ?_
          exact A_zret dX5_hasAll_31 rfl ⟨(if_pos (by first | exact Or.inl (by assumption) | exact Or.inr (Or.inl (by assumption)) | exact Or.inr (Or.inr (Or.inl (by assumption))) | exact Or.inr (Or.inr (Or.inr (by assumption))))).symm, rfl⟩ ⟨by decide, by decide⟩
        · refine A_iconst (v := 1) dX5_hasAll_26 (by decide) ?_
          refine A_goto 31 dX5_hasAll_27 (by decide) ?_
          exact A_zret dX5_hasAll_31 rfl ⟨(if_neg (fun z => z.elim c1 (fun z => z.elim c5 (fun z => z.elim c13 c23)))).symm, rfl⟩ ⟨by decide, by decide⟩

theorem c_hasS1 (G : GX) {h : AH} {a q : Nat} {w m : Int32} {i : Int32} (ha : h.1 a = some (ob 5 [.ref q, .int w, .int m])) : MA G 0 yX5_has cX5_has 2 (some .boolean) 0 0 [.ref a, .int i] h (qI fun x h1 => x = inI i m ∧ h1 = h) := by
  refine MA.of (own := RX5) false [some (.ref a), some (.int i)] (by decide +kernel) rfl (fun h => by cases h) (Nat.le_of_ble_eq_true rfl) rfl (fun X => ?_)
  refine A_iload_n dX5_has_0 rfl rfl ?_
  refine A_if_lt 16 dX5_has_1 (by decide) (fun c1 => ?_) (fun c1 => ?_)
  · refine A_iconst (v := 0) dX5_has_16 (by decide) ?_
    exact A_zret dX5_has_17 rfl ⟨(if_pos (by first | exact Or.inl (by assumption) | exact Or.inr (by assumption))).symm, rfl⟩ ⟨by decide, by decide⟩
  · refine A_iload_n dX5_has_4 rfl rfl ?_
    refine A_aload_n dX5_has_5 rfl rfl ?_
    refine A_get dX5_has_6 f_X5_26 ha rfl ?_
    refine A_icmp_ge 16 dX5_has_9 (by decide) (fun c9 => ?_) (fun c9 => ?_)
    · refine A_iconst (v := 0) dX5_has_16 (by decide) ?_
      exact A_zret dX5_has_17 rfl ⟨(if_pos (by first | exact Or.inl (by assumption) | exact Or.inr (by assumption))).symm, rfl⟩ ⟨by decide, by decide⟩
    · refine A_iconst (v := 1) dX5_has_12 (by decide) ?_
      refine A_goto 17 dX5_has_13 (by decide) ?_
      exact A_zret dX5_has_17 rfl ⟨(if_neg (fun z => z.elim c1 c9)).symm, rfl⟩ ⟨by decide, by decide⟩

theorem c_number (G : GX) {h : AH} {a q : Nat} {w m : Int32} {f : Nat → Int64} {i : Int32} {N : Nat} (ha : h.1 a = some (ob 5 [.ref q, .int w, .int m])) (hq : h.1 q = some (aJ 60 f)) (hm : m = nI N) (hN : N ≤ 60) : MA G 1 yX5_number cX5_number 2 (some .long) 0 0 [.ref a, .int i] h (qL fun x h1 => x = numF m f i ∧ h1 = h) := by
  refine MA.of (own := RX5) false [some (.ref a), some (.int i)] (by decide +kernel) rfl (fun h => by cases h) (Nat.le_of_ble_eq_true rfl) rfl (fun X => ?_)
  refine A_aload_n dX5_number_0 rfl rfl ?_
  refine A_iload_n dX5_number_1 rfl rfl ?_
  refine A_callVi dX5_number_2 m_X5_35 cb_X5_has (As := [_]) rfl ha rfl (c_hasS1 G ha) rfl ⟨by decide, by decide⟩ (Nat.le_of_ble_eq_true rfl) ⟨by decide, by decide⟩ (fun x2 h2 hq => ?_)
  obtain ⟨rfl, rfl⟩ := hq
  refine A_if_eq 17 dX5_number_5 (by decide) (fun c5 => ?_) (fun c5 => ?_)
  · refine A_lconst (v := 0) dX5_number_17 (by decide) ?_
    exact A_lret dX5_number_18 ⟨by rw [numF, if_pos (show inI i m = 0 from by assumption)], rfl⟩ ⟨by decide, by decide⟩
  · have ci : ¬ inI i m = 0 := c5
    obtain ⟨k, hk, rfl⟩ := inI_of hm ci (by omega)
    refine A_aload_n dX5_number_8 rfl rfl ?_
    refine A_get dX5_number_9 f_X5_9 ha rfl ?_
    refine A_iload_n dX5_number_12 rfl rfl ?_
    refine A_lald dX5_number_13 hq (vp_in_nI (by omega) (by decide)) ?_
    refine A_goto 18 dX5_number_14 (by decide) ?_
    exact A_lret dX5_number_18 ⟨by rw [numF, if_neg ci], rfl⟩ ⟨by decide, by decide⟩

theorem c_cut (G : GX) {h : AH} {a q : Nat} {w m : Int32} {v : Int64} (ha : h.1 a = some (ob 5 [.ref q, .int w, .int m])) : MA G 0 yX5_cut cX5_cut 3 (some .long) 0 0 [.ref a, .long v] h (qL fun x h1 => x = cutF w v ∧ h1 = h) := by
  refine MA.of (own := RX5) false [some (.ref a), some (.long v), none] (by decide +kernel) rfl (fun h => by cases h) (Nat.le_of_ble_eq_true rfl) rfl (fun X => ?_)
  refine A_aload_n dX5_cut_0 rfl rfl ?_
  refine A_get dX5_cut_1 f_X5_13 ha rfl ?_
  by_cases s4_0 : w = 0
  · subst s4_0
    refine A_tableIn 32 dX5_cut_4 (by decide) (by decide) rfl (by decide) ?_
    refine A_lload_n dX5_cut_32 rfl rfl ?_
    refine A_l2i dX5_cut_33 ?_
    refine A_i2b dX5_cut_34 ?_
    refine A_i2l dX5_cut_35 ?_
    exact A_lret dX5_cut_36 ⟨rfl, rfl⟩ ⟨by decide, by decide⟩
  by_cases s4_1 : w = 1
  · subst s4_1
    refine A_tableIn 37 dX5_cut_4 (by decide) (by decide) rfl (by decide) ?_
    refine A_lload_n dX5_cut_37 rfl rfl ?_
    refine A_l2i dX5_cut_38 ?_
    refine A_i2s dX5_cut_39 ?_
    refine A_i2l dX5_cut_40 ?_
    exact A_lret dX5_cut_41 ⟨rfl, rfl⟩ ⟨by decide, by decide⟩
  by_cases s4_2 : w = 2
  · subst s4_2
    refine A_tableIn 42 dX5_cut_4 (by decide) (by decide) rfl (by decide) ?_
    refine A_lload_n dX5_cut_42 rfl rfl ?_
    refine A_l2i dX5_cut_43 ?_
    refine A_i2l dX5_cut_44 ?_
    exact A_lret dX5_cut_45 ⟨rfl, rfl⟩ ⟨by decide, by decide⟩
  refine A_tableOut 46 dX5_cut_4 (sw_out3 s4_0 s4_1 s4_2) (by decide) ?_
  refine A_lload_n dX5_cut_46 rfl rfl ?_
  exact A_lret dX5_cut_47 ⟨by rw [cutF, if_neg s4_0, if_neg s4_1, if_neg s4_2], rfl⟩ ⟨by decide, by decide⟩

theorem c_putS (G : GX) {h : AH} {a q : Nat} {w m : Int32} {f : Nat → Int64} {i : Int32} {v : Int64} {N : Nat} (ha : h.1 a = some (ob 5 [.ref q, .int w, .int m])) (hq : h.1 q = some (aJ 60 f)) (hm : m = nI N) (hN : N ≤ 60) : MA G 1 yX5_put cX5_put 4 none 0 0 [.ref a, .int i, .long v] h (qV fun h1 => h1 = if inI i m = 0 then h else upH h q (aJ 60 (vp_updL f (tcl i) (cutF w v)))) := by
  refine MA.of (own := RX5) false [some (.ref a), some (.int i), some (.long v), none] (by decide +kernel) rfl (fun h => by cases h) (Nat.le_of_ble_eq_true rfl) rfl (fun X => ?_)
  refine A_aload_n dX5_put_0 rfl rfl ?_
  refine A_iload_n dX5_put_1 rfl rfl ?_
  refine A_callVi dX5_put_2 m_X5_35 cb_X5_has (As := [_]) rfl ha rfl (c_hasS1 G ha) rfl ⟨by decide, by decide⟩ (Nat.le_of_ble_eq_true rfl) ⟨by decide, by decide⟩ (fun x2 h2 hq => ?_)
  obtain ⟨rfl, rfl⟩ := hq
  refine A_if_eq 19 dX5_put_5 (by decide) (fun c5 => ?_) (fun c5 => ?_)
  · exact A_vret dX5_put_19 (by rw [if_pos (show inI i m = 0 from by assumption)]) ⟨by decide, by decide⟩
  · have ci : ¬ inI i m = 0 := c5
    obtain ⟨k, hk, rfl⟩ := inI_of hm ci (by omega)
    refine A_aload_n dX5_put_8 rfl rfl ?_
    refine A_get dX5_put_9 f_X5_9 ha rfl ?_
    refine A_iload_n dX5_put_12 rfl rfl ?_
    refine A_aload_n dX5_put_13 rfl rfl ?_
    refine A_lload_n dX5_put_14 rfl rfl ?_
    refine A_callVl dX5_put_15 m_X5_39 cb_X5_cut (As := [_]) rfl ha rfl (c_cut G ha) rfl ⟨by decide, by decide⟩ (Nat.le_of_ble_eq_true rfl) ⟨by decide, by decide⟩ (fun x15 h15 hq => ?_)
    obtain ⟨rfl, rfl⟩ := hq
    refine A_last dX5_put_18 hq (vp_in_nI (by omega) (by decide)) ?_
    exact A_vret dX5_put_19 (by rw [if_neg ci]) ⟨by decide, by decide⟩

theorem c_fillJ (G : GX) {h : AH} {a N : Nat} {v : Int64} {f : Nat → Int64} (ha : h.1 a = some (aJ N f)) (hN : N < 2 ^ 31) : MA G 0 yJ7_fill_d0a16 cJ7_fill_d0a16 5 none 0 0 [.ref a, .long v] h (qV fun h1 => ∃ g, h1 = upH h a (aJ N g) ∧ ∀ j, j < N → g j = v) := by
  refine MA.of (own := RJ7) false [some (.ref a), some (.long v), none, none, none] (by decide +kernel) rfl (fun h => by cases h) (Nat.le_of_ble_eq_true rfl) rfl (fun X => ?_)
  have loop : ∀ (k i : Nat) (g : Nat → Int64), i + k = N → (∀ j, j < i → g j = v) → WA X G RJ7 cJ7_fill_d0a16 false none (qV fun h1 => ∃ g, h1 = upH h a (aJ N g) ∧ ∀ j, j < N → g j = v) 0 0 0 (upH h a (aJ N g)) 0 0 6 [some (.ref a), some (.long v), none, some (.int (nI i)), some (.int (nI N))] [] := by
    intro k
    induction k with
    | zero =>
      intro i g hk hg
      refine A_iload_n dJ7_fill_d0a16_6 rfl rfl ?_
      refine A_iload dJ7_fill_d0a16_7 rfl ?_
      refine A_icmp_ge 22 dJ7_fill_d0a16_9 (by decide) (fun c9 => ?_) (fun c9 => ?_)
      · exact A_vret dJ7_fill_d0a16_22 ⟨g, rfl, fun j hj => hg j (by omega)⟩ ⟨by decide, by decide⟩
      · exact absurd (by exact nI_le (by omega) (by omega)) c9
    | succ k ih =>
      intro i g hk hg
      have hi : i < N := by omega
      refine A_iload_n dJ7_fill_d0a16_6 rfl rfl ?_
      refine A_iload dJ7_fill_d0a16_7 rfl ?_
      refine A_icmp_ge 22 dJ7_fill_d0a16_9 (by decide) (fun c9 => ?_) (fun c9 => ?_)
      · exact absurd c9 (by exact nI_ge (by omega) (by omega))
      · refine A_aload_n dJ7_fill_d0a16_12 rfl rfl ?_
        refine A_iload_n dJ7_fill_d0a16_13 rfl rfl ?_
        refine A_lload_n dJ7_fill_d0a16_14 rfl rfl ?_
        refine A_last dJ7_fill_d0a16_15 up_eq (vp_in_nI (by omega) (by omega)) ?_
        rw [nI_clamp (by omega)]
        refine WA_h upH_upH ?_
        refine A_inc 1 (lv1 := [_, _, _, _, _]) dJ7_fill_d0a16_16 rfl (by decide) rfl rfl ?_
        refine A_goto 6 dJ7_fill_d0a16_19 (by decide) ?_
        rw [nI_1]
        exact ih (i + 1) (vp_updL g i v) (by omega) (fun j hj => by by_cases e : j = i; (simp [vp_updL, e]); (simp [vp_updL, e]; exact hg j (by omega)))
  refine A_iconst (v := 0) dJ7_fill_d0a16_0 (by decide) ?_
  refine A_istore_n (lv1 := [_, _, _, _, _]) dJ7_fill_d0a16_1 rfl (Nat.le_of_ble_eq_true rfl) rfl rfl ?_
  refine A_aload_n dJ7_fill_d0a16_2 rfl rfl ?_
  refine A_alenJ (v := nI _) dJ7_fill_d0a16_3 ha rfl ?_
  refine A_istore (lv1 := [_, _, _, _, _]) dJ7_fill_d0a16_4 (Nat.le_of_ble_eq_true rfl) rfl rfl ?_
  refine WA_h (upH_self ha).symm ?_
  exact loop N 0 f (by omega) (fun j hj => absurd hj (Nat.not_lt_zero j))

theorem c_beginS (G : GX) {h : AH} {a q : Nat} {w m : Int32} {f : Nat → Int64} {w2 m2 : Int32} (ha : h.1 a = some (ob 5 [.ref q, .int w, .int m])) (hq : h.1 q = some (aJ 60 f)) (hm2 : ¬ m2 < 0) (hm3 : ¬ 60 < m2) : MA G 1 yX5_begin cX5_begin 3 none 0 0 [.ref a, .int w2, .int m2] h (qV fun h1 => ∃ g, h1 = upH (upH h a (ob 5 [.ref q, .int w2, .int m2])) q (aJ 60 g) ∧ ∀ j, j < 60 → g j = 0) := by
  refine MA.of (own := RX5) false [some (.ref a), some (.int w2), some (.int m2)] (by decide +kernel) rfl (fun h => by cases h) (Nat.le_of_ble_eq_true rfl) rfl (fun X => ?_)
  have nq : q ≠ a := fun e => by rw [e, ha] at hq; cases hq
  have hq0 := hq
  refine A_aload_n dX5_begin_0 rfl rfl ?_
  refine A_iload_n dX5_begin_1 rfl rfl ?_
  refine A_put dX5_begin_2 p_X5_13 ha (Nat.le_of_ble_eq_true rfl) rfl rfl ?_
  have ha := up_eq (h := h) (a := a) (e := ob 5 ([Value.ref q, .int w, .int m].set 1 (.int w2)))
  have hq := (up_ne (h := h) (e := ob 5 ([Value.ref q, .int w, .int m].set 1 (.int w2))) nq).trans hq
  refine A_aload_n dX5_begin_5 rfl rfl ?_
  refine A_iconst (v := 0) dX5_begin_6 (by decide) ?_
  refine A_iload_n dX5_begin_7 rfl rfl ?_
  refine A_bipush (v := 60) dX5_begin_8 (by decide) ?_
  refine A_min dX5_begin_10 w_1134 (by decide) (Nat.le_of_ble_eq_true rfl) ⟨by decide, by decide⟩ ?_
  refine A_eqI (show _ = m2 from if_neg hm3) ?_
  refine A_max dX5_begin_13 w_1135 (by decide) (Nat.le_of_ble_eq_true rfl) ⟨by decide, by decide⟩ ?_
  refine A_eqI (show _ = m2 from ?_) ?_
  · split
    · rfl
    · next z => exact (Int32.le_antisymm (Int32.not_lt.mp z) (Int32.not_lt.mp hm2)).symm
  refine A_put dX5_begin_16 p_X5_26 ha (Nat.le_of_ble_eq_true rfl) rfl rfl ?_
  refine WA_h upH_upH ?_
  have ha := up_eq (h := h) (a := a) (e := ob 5 (([Value.ref q, .int w, .int m].set 1 (.int w2)).set 2 (.int m2)))
  have hq := (up_ne (h := h) (e := ob 5 (([Value.ref q, .int w, .int m].set 1 (.int w2)).set 2 (.int m2))) nq).trans hq0
  refine A_aload_n dX5_begin_19 rfl rfl ?_
  refine A_get dX5_begin_20 f_X5_9 ha rfl ?_
  refine A_lconst (v := 0) dX5_begin_23 (by decide) ?_
  refine A_callSv dX5_begin_24 m_X5_29 cb_J7_fill_d0a16 (As := [_, _]) rfl (c_fillJ G hq (by decide)) rfl ⟨by decide, by decide⟩ (Nat.le_of_ble_eq_true rfl) ⟨by decide, by decide⟩ (fun h24 hq => ?_)
  obtain ⟨g, rfl, hg⟩ := hq
  exact A_vret dX5_begin_27 ⟨g, rfl, hg⟩ ⟨by decide, by decide⟩
