/-! LITERALS -/
def tJ (j : Nat) : String := match litJS[j]? with
  | some q => q.2.2
  | none => ""
def lenJ (j : Nat) : Nat := (txB (tJ j)).length
def chJ (j k : Nat) : Int32 := (txB (tJ j)).getD k 0
theorem lit_H {G : GX} {U : State} {H : Heap} (hE : EnvH G U H) {j : Nat} (hj : j < 31) : StrH G j (tJ j) U H := by
  have hl : litJS.length = 31 := rfl
  have e : litJS[j]? = some litJS[j] := List.getElem?_eq_getElem (by omega)
  have h := hE.1 j _ e
  unfold tJ
  rw [e]
  exact h
theorem lenJ_all : ∀ j, j < 31 → lenJ j < 60 ∧ ∀ k, k < lenJ j → ((chJ j k &&& 255).toUInt32 % 65536).toInt32 = chJ j k := by decide +kernel
theorem A_gsC {X : XC} {G : GX} {own : String} {cc : ByteArray} {ini : Bool} {ret : Option FieldType} {Qp : Option Value → AH → Prop} {d mc ms : Nat} {h : AH} {uc us pc : Nat} {lv : List (Option Value)} {st : List Value} (ho : own = "java/lang/String") (hd : decode cc pc = .ok (.getstatic 38, 3)) (kk : WA X G own cc ini ret Qp d mc ms h uc us (pc + 3) lv (.int 1 :: st)) : WA X G own cc ini ret Qp d mc ms h uc us pc lv st := by
  obtain ⟨p, e, s, m, args, below, meth, c, h0⟩ := X
  intro H locs ls hX hR hS hdm hL
  subst ho
  have hts := hX.2.2.2.2.1
  have hE := hX.2.2.2.2.2.2.2.2.1
  have hAB := hX.2.2.2.2.2.2.2.2.2.1
  exact va_gets hX.1 hX.2.1 (hE.2.1.narrow hAB) hS hX.2.2.2.1 (hts _ w_461) (fun _ h => h) hd (kk H locs ls hX hR hS hdm hL)
theorem A_gsF {X : XC} {G : GX} {own : String} {cc : ByteArray} {ini : Bool} {ret : Option FieldType} {Qp : Option Value → AH → Prop} {d mc ms : Nat} {h : AH} {uc us pc : Nat} {lv : List (Option Value)} {st : List Value} (ho : own = "java/lang/String") (hd : decode cc pc = .ok (.getstatic 1053, 3)) (kk : ∀ v : Value, (v = .null ∨ ∃ t, v = .ref t) → WA X G own cc ini ret Qp d mc ms h uc us (pc + 3) lv (v :: st)) : WA X G own cc ini ret Qp d mc ms h uc us pc lv st := by
  obtain ⟨p, e, s, m, args, below, meth, c, h0⟩ := X
  intro H locs ls hX hR hS hdm hL
  subst ho
  have hts := hX.2.2.2.2.1
  have hE := hX.2.2.2.2.2.2.2.2.1
  have hAB := hX.2.2.2.2.2.2.2.2.2.1
  rcases va_Zq.narrow hE.2.2 hAB with hz | ⟨t, hz⟩
  · exact va_gets hX.1 hX.2.1 hz hS hX.2.2.2.1 (hts _ w_477) (fun _ h => h) hd (kk _ (Or.inl rfl) H locs ls hX hR hS hdm hL)
  · exact va_gets hX.1 hX.2.1 hz hS hX.2.2.2.1 (hts _ w_477) (fun _ h => h) hd (kk _ (Or.inr ⟨t, rfl⟩) H locs ls hX hR hS hdm hL)
theorem A_gfC {X : XC} {G : GX} {own : String} {cc : ByteArray} {ini : Bool} {ret : Option FieldType} {Qp : Option Value → AH → Prop} {d mc ms : Nat} {h : AH} {uc us pc : Nat} {lv : List (Option Value)} {st : List Value} {j : Nat} (hj : j < 31) (ho : own = "java/lang/String") (hd : decode cc pc = .ok (.getfield 15, 3)) (kk : WA X G own cc ini ret Qp d mc ms h uc us (pc + 3) lv (.int 0 :: st)) : WA X G own cc ini ret Qp d mc ms h uc us pc lv (.ref (gK G j) :: st) := by
  obtain ⟨p, e, s, m, args, below, meth, c, h0⟩ := X
  intro H locs ls hX hR hS hdm hL
  subst ho
  have hts := hX.2.2.2.2.1
  have hE := hX.2.2.2.2.2.2.2.2.1
  have hAB := hX.2.2.2.2.2.2.2.2.2.1
  exact vk_getf hX.1 hX.2.1 ((lit_H hE hj).2.1.narrow hAB) hS hX.2.2.2.1 (hts _ w_1805) (fun _ h => h) hd (kk H locs ls hX hR hS hdm hL)
theorem A_gfV {X : XC} {G : GX} {own : String} {cc : ByteArray} {ini : Bool} {ret : Option FieldType} {Qp : Option Value → AH → Prop} {d mc ms : Nat} {h : AH} {uc us pc : Nat} {lv : List (Option Value)} {st : List Value} {j : Nat} (hj : j < 31) (ho : own = "java/lang/String") (hd : decode cc pc = .ok (.getfield 9, 3)) (kk : WA X G own cc ini ret Qp d mc ms h uc us (pc + 3) lv (.ref (gV G j) :: st)) : WA X G own cc ini ret Qp d mc ms h uc us pc lv (.ref (gK G j) :: st) := by
  obtain ⟨p, e, s, m, args, below, meth, c, h0⟩ := X
  intro H locs ls hX hR hS hdm hL
  subst ho
  have hts := hX.2.2.2.2.1
  have hE := hX.2.2.2.2.2.2.2.2.1
  have hAB := hX.2.2.2.2.2.2.2.2.2.1
  exact vk_getf hX.1 hX.2.1 ((lit_H hE hj).2.2.1.narrow hAB) hS hX.2.2.2.1 (hts _ w_1804) (fun _ h => h) hd (kk H locs ls hX hR hS hdm hL)
theorem A_alenT {X : XC} {G : GX} {own : String} {cc : ByteArray} {ini : Bool} {ret : Option FieldType} {Qp : Option Value → AH → Prop} {d mc ms : Nat} {h : AH} {uc us pc : Nat} {lv : List (Option Value)} {st : List Value} {j : Nat} (hj : j < 31) (hd : decode cc pc = .ok (.arraylength, 1)) (kk : WA X G own cc ini ret Qp d mc ms h uc us (pc + 1) lv (.int (nI (lenJ j)) :: st)) : WA X G own cc ini ret Qp d mc ms h uc us pc lv (.ref (gV G j) :: st) := by
  obtain ⟨p, e, s, m, args, below, meth, c, h0⟩ := X
  intro H locs ls hX hR hS hdm hL
  have hts := hX.2.2.2.2.1
  have hE := hX.2.2.2.2.2.2.2.2.1
  have hAB := hX.2.2.2.2.2.2.2.2.2.1
  exact va_tlen hX.1 hX.2.1 ((lit_H hE hj).2.2.2.narrow hAB) hS rfl hd (kk H locs ls hX hR hS hdm hL)
theorem A_baldT {X : XC} {G : GX} {own : String} {cc : ByteArray} {ini : Bool} {ret : Option FieldType} {Qp : Option Value → AH → Prop} {d mc ms : Nat} {h : AH} {uc us pc : Nat} {lv : List (Option Value)} {st : List Value} {j k : Nat} (hj : j < 31) (hk : k < lenJ j) (hd : decode cc pc = .ok (.baload, 1)) (kk : WA X G own cc ini ret Qp d mc ms h uc us (pc + 1) lv (.int (chJ j k) :: st)) : WA X G own cc ini ret Qp d mc ms h uc us pc lv (.int (nI k) :: .ref (gV G j) :: st) := by
  obtain ⟨p, e, s, m, args, below, meth, c, h0⟩ := X
  intro H locs ls hX hR hS hdm hL
  have hts := hX.2.2.2.2.1
  have hE := hX.2.2.2.2.2.2.2.2.1
  have hAB := hX.2.2.2.2.2.2.2.2.2.1
  have h60 := (lenJ_all j hj).1
  exact va_tb hX.1 hX.2.1 ((lit_H hE hj).2.2.2.narrow hAB) hS (show vp_in (nI k) (lenJ j) from vp_in_nI hk (by omega)) (v := .int (chJ j k)) (by rw [nI_clamp (by omega)]; rfl) hd (kk H locs ls hX hR hS hdm hL)
theorem A_callLi {X : XC} {G : GX} {own : String} {cc : ByteArray} {ini : Bool} {ret : Option FieldType} {Qp : Option Value → AH → Prop} {d mc ms : Nat} {h : AH} {uc us pc : Nat} {lv : List (Option Value)} {st st0 : List Value} {i n dc mL mcc msc : Nat} {y : MethodName} {bc : ByteArray} {rc : Option FieldType} {As : List Value} {Q : Int32 → AH → Prop} {j : Nat} (hj : j < 31) (hd : decode cc pc = .ok (.invokevirtual i, 3)) (cw : CV own i y) (cb : CB y bc mL rc n) (hy : y.cls = "java/lang/String") (hst : st0 = As.reverse ++ .ref (gK G j) :: st) (M : MA G dc y bc mL rc mcc msc (.ref (gK G j) :: As) h (qI Q)) (hn : As.length = n) (hroom : dc + 1 ≤ d ∧ mL ≤ 45) (hcat : (st.map fun v => v.category).sum ≤ 8) (hbud : uc + mcc ≤ mc ∧ us + msc ≤ ms) (kk : ∀ (x : Int32) (h1 : AH), Q x h1 → WA X G own cc ini ret Qp d mc ms h1 (uc + mcc) (us + msc) (pc + 3) lv (.int x :: st)) : WA X G own cc ini ret Qp d mc ms h uc us pc lv st0 := by
  obtain ⟨p, e, s, m, args, below, meth, c, h0⟩ := X
  intro H locs ls hX hR hS hdm hL
  have hts := hX.2.2.2.2.1
  have hE := hX.2.2.2.2.2.2.2.2.1
  have hAB := hX.2.2.2.2.2.2.2.2.2.1
  subst hst
  have hrv : ∃ cell : Cell, H[gK G j]? = some cell ∧ cell.vm.isStatics = false ∧ s.vm.findClass y.cls = some cell.cls := by
    obtain ⟨cell, h1, h2, h3, -⟩ := ((lit_H hE hj).1.narrow hAB).kept hS.2.1
    exact ⟨cell, h1, h2, by rw [hy]; exact h3⟩
  refine A_run hX hS hdm hL (va_runV (As := As) (rest := st) ⟨hX.1, hX.2.1, hX.2.2.2.2.2.2.2.2.2.2.1, hX.2.2.2.1, hts⟩ M ⟨callB_of n hts (goodG cb.1) rfl rfl rfl (hts _ cb.2.1) (hts _ cw.1) ⟨cb.2.2.1, cb.2.2.2.1, cb.2.2.2.2⟩ (room_at hroom.1 hroom.2), hts _ cw.2.1, hts _ cw.2.2⟩ ⟨PA.blind, hrv, fun U hU hW => pre_at hX hR hS hdm hU hW⟩ rfl hn hL.1 rfl (lv_room hcat) hd hbud) ?_
  rintro rv h1 ⟨x, rfl, hq⟩
  exact kk x h1 hq
theorem l_coder (G : GX) {h : AH} {j : Nat} (hj : j < 31) : MA G 0 yJ0_coder_7d493 cJ0_coder_7d493 1 (some .byte) 0 0 [.ref (gK G j)] h (qI fun x h1 => x = 0 ∧ h1 = h) := by
  refine MA.of (own := RJ0) false [some (.ref (gK G j))] (by decide +kernel) rfl (fun h => by cases h) (Nat.le_of_ble_eq_true rfl) rfl (fun X => ?_)
  refine A_gsC rfl dJ0_coder_7d493_0 ?_
  refine A_if_eq 13 dJ0_coder_7d493_3 (by decide) (fun z => absurd z (by decide)) (fun _ => ?_)
  refine A_aload_n dJ0_coder_7d493_6 rfl rfl ?_
  refine A_gfC hj rfl dJ0_coder_7d493_7 ?_
  refine A_goto 14 dJ0_coder_7d493_10 (by decide) ?_
  exact A_zret dJ0_coder_7d493_14 (by decide) ⟨rfl, rfl⟩ (by decide)
theorem l_isLatin1 (G : GX) {h : AH} {j : Nat} (hj : j < 31) : MA G 0 yJ0_isLatin1_aae02 cJ0_isLatin1_aae02 1 (some .boolean) 0 0 [.ref (gK G j)] h (qI fun x h1 => x = 1 ∧ h1 = h) := by
  refine MA.of (own := RJ0) false [some (.ref (gK G j))] (by decide +kernel) rfl (fun h => by cases h) (Nat.le_of_ble_eq_true rfl) rfl (fun X => ?_)
  refine A_gsC rfl dJ0_isLatin1_aae02_0 ?_
  refine A_if_eq 17 dJ0_isLatin1_aae02_3 (by decide) (fun z => absurd z (by decide)) (fun _ => ?_)
  refine A_aload_n dJ0_isLatin1_aae02_6 rfl rfl ?_
  refine A_gfC hj rfl dJ0_isLatin1_aae02_7 ?_
  refine A_if_ne 17 dJ0_isLatin1_aae02_10 (by decide) (fun z => absurd rfl z) (fun _ => ?_)
  refine A_iconst (v := 1) dJ0_isLatin1_aae02_13 (by decide) ?_
  refine A_goto 18 dJ0_isLatin1_aae02_14 (by decide) ?_
  exact A_zret dJ0_isLatin1_aae02_18 (by decide) ⟨rfl, rfl⟩ (by decide)
theorem sh0_i {x : Int32} : x >>> (0 : Int32) = x := by simp
theorem l_length (G : GX) {h : AH} {j : Nat} (hj : j < 31) : MA G 1 yJ0_length_8abf5 cJ0_length_8abf5 1 (some .int) 0 0 [.ref (gK G j)] h (qI fun x h1 => x = nI (lenJ j) ∧ h1 = h) := by
  refine MA.of (own := RJ0) false [some (.ref (gK G j))] (by decide +kernel) rfl (fun h => by cases h) (Nat.le_of_ble_eq_true rfl) rfl (fun X => ?_)
  refine A_aload_n dJ0_length_8abf5_0 rfl rfl ?_
  refine A_gfV hj rfl dJ0_length_8abf5_1 ?_
  refine A_alenT hj dJ0_length_8abf5_4 ?_
  refine A_aload_n dJ0_length_8abf5_5 rfl rfl ?_
  refine A_callLi hj dJ0_length_8abf5_6 m_J0_335 cb_J0_coder_7d493 rfl (As := []) rfl (l_coder G hj) rfl ⟨by decide, by decide⟩ (Nat.le_of_ble_eq_true rfl) ⟨by decide, by decide⟩ (fun x h1 hq => ?_)
  obtain ⟨rfl, rfl⟩ := hq
  refine A_ishr dJ0_length_8abf5_9 ?_
  exact A_iret dJ0_length_8abf5_10 ⟨by rw [show (0 : Int32) &&& 31 = 0 by decide]; exact sh0_i, rfl⟩ (by decide)
theorem l_cix0 (G : GX) {h : AH} {a b : Nat} (ha : a < b) (hb : b < 2 ^ 31) : MA G 0 yJ3_checkIndex_8e157 cJ3_checkIndex_8e157 3 (some .int) 0 0 [.int (nI a), .int (nI b), .null] h (qI fun x h1 => x = nI a ∧ h1 = h) := by
  refine MA.of (own := RJ3) false [some (.int (nI a)), some (.int (nI b)), some (.null)] (by decide +kernel) rfl (fun h => by cases h) (Nat.le_of_ble_eq_true rfl) rfl (fun X => ?_)
  refine A_iload_n dJ3_checkIndex_8e157_0 rfl rfl ?_
  refine A_if_lt 9 dJ3_checkIndex_8e157_1 (by decide) (fun z => absurd z (nI_pos (by omega))) (fun _ => ?_)
  refine A_iload_n dJ3_checkIndex_8e157_4 rfl rfl ?_
  refine A_iload_n dJ3_checkIndex_8e157_5 rfl rfl ?_
  refine A_icmp_lt 16 dJ3_checkIndex_8e157_6 (by decide) (fun _ => ?_) (fun z => absurd (nI_lt ha hb) z)
  refine A_iload_n dJ3_checkIndex_8e157_16 rfl rfl ?_
  exact A_iret dJ3_checkIndex_8e157_17 ⟨rfl, rfl⟩ (by decide)
theorem l_cixR (G : GX) {h : AH} {a b : Nat} {t : Nat} (ha : a < b) (hb : b < 2 ^ 31) : MA G 0 yJ3_checkIndex_8e157 cJ3_checkIndex_8e157 3 (some .int) 0 0 [.int (nI a), .int (nI b), .ref t] h (qI fun x h1 => x = nI a ∧ h1 = h) := by
  refine MA.of (own := RJ3) false [some (.int (nI a)), some (.int (nI b)), some (.ref t)] (by decide +kernel) rfl (fun h => by cases h) (Nat.le_of_ble_eq_true rfl) rfl (fun X => ?_)
  refine A_iload_n dJ3_checkIndex_8e157_0 rfl rfl ?_
  refine A_if_lt 9 dJ3_checkIndex_8e157_1 (by decide) (fun z => absurd z (nI_pos (by omega))) (fun _ => ?_)
  refine A_iload_n dJ3_checkIndex_8e157_4 rfl rfl ?_
  refine A_iload_n dJ3_checkIndex_8e157_5 rfl rfl ?_
  refine A_icmp_lt 16 dJ3_checkIndex_8e157_6 (by decide) (fun _ => ?_) (fun z => absurd (nI_lt ha hb) z)
  refine A_iload_n dJ3_checkIndex_8e157_16 rfl rfl ?_
  exact A_iret dJ3_checkIndex_8e157_17 ⟨rfl, rfl⟩ (by decide)
theorem l_checkIndex (G : GX) {h : AH} {a b : Nat} (ha : a < b) (hb : b < 2 ^ 31) : MA G 1 yJ0_checkIndex_df160 cJ0_checkIndex_df160 2 none 0 0 [.int (nI a), .int (nI b)] h (qV fun h1 => h1 = h) := by
  refine MA.of (own := RJ0) false [some (.int (nI a)), some (.int (nI b))] (by decide +kernel) rfl (fun h => by cases h) (Nat.le_of_ble_eq_true rfl) rfl (fun X => ?_)
  refine A_iload_n dJ0_checkIndex_df160_0 rfl rfl ?_
  refine A_iload_n dJ0_checkIndex_df160_1 rfl rfl ?_
  refine A_gsF rfl dJ0_checkIndex_df160_2 (fun v hv => ?_)
  rcases hv with rfl | ⟨t, rfl⟩
  · refine A_callSi dJ0_checkIndex_df160_5 m_J0_1059 cb_J3_checkIndex_8e157 (As := [_, _, _]) rfl (l_cix0 G ha hb) rfl ⟨by decide, by decide⟩ (Nat.le_of_ble_eq_true rfl) ⟨by decide, by decide⟩ (fun x h1 hq => ?_)
    obtain ⟨rfl, rfl⟩ := hq
    refine A_pop dJ0_checkIndex_df160_8 rfl ?_
    exact A_vret dJ0_checkIndex_df160_9 rfl (by decide)
  · refine A_callSi dJ0_checkIndex_df160_5 m_J0_1059 cb_J3_checkIndex_8e157 (As := [_, _, _]) rfl (l_cixR G ha hb) rfl ⟨by decide, by decide⟩ (Nat.le_of_ble_eq_true rfl) ⟨by decide, by decide⟩ (fun x h1 hq => ?_)
    obtain ⟨rfl, rfl⟩ := hq
    refine A_pop dJ0_checkIndex_df160_8 rfl ?_
    exact A_vret dJ0_checkIndex_df160_9 rfl (by decide)
theorem ch_idem : ∀ a : Nat, a < 256 → ((nI a).toUInt32 % 65536).toInt32 = nI a := by decide +kernel
theorem ch_nar {x y : Int32} (h : ((y &&& 255).toUInt32 % 65536).toInt32 = x) : narrow .char (.int x) = .int x := by
  subst h
  show Value.int ((((y &&& 255).toUInt32 % 65536).toInt32.toUInt32 % 65536).toInt32) = _
  have e : ∀ u : UInt32, u % 65536 % 65536 = u % 65536 := fun u => UInt32.toNat_inj.mp (by rw [UInt32.toNat_mod, UInt32.toNat_mod]; exact Nat.mod_mod _ _)
  simp
  rw [e]
theorem l_charL (G : GX) {h : AH} {j k : Nat} (hj : j < 31) (hk : k < lenJ j) : MA G 2 yJ1_charAt_3b067 cJ1_charAt_3b067 2 (some .char) 0 0 [.ref (gV G j), .int (nI k)] h (qI fun x h1 => x = chJ j k ∧ h1 = h) := by
  refine MA.of (own := RJ1) false [some (.ref (gV G j)), some (.int (nI k))] (by decide +kernel) rfl (fun h => by cases h) (Nat.le_of_ble_eq_true rfl) rfl (fun X => ?_)
  obtain ⟨h60, hch⟩ := lenJ_all j hj
  refine A_iload_n dJ1_charAt_3b067_0 rfl rfl ?_
  refine A_aload_n dJ1_charAt_3b067_1 rfl rfl ?_
  refine A_alenT hj dJ1_charAt_3b067_2 ?_
  refine A_callSv dJ1_charAt_3b067_3 m_J1_9 cb_J0_checkIndex_df160 (As := [_, _]) rfl (l_checkIndex G hk (by omega)) rfl ⟨by decide, by decide⟩ (Nat.le_of_ble_eq_true rfl) ⟨by decide, by decide⟩ (fun h1 hq => ?_)
  obtain rfl := hq
  refine A_aload_n dJ1_charAt_3b067_6 rfl rfl ?_
  refine A_iload_n dJ1_charAt_3b067_7 rfl rfl ?_
  refine A_baldT hj hk dJ1_charAt_3b067_8 ?_
  refine A_sipush (v := 255) dJ1_charAt_3b067_9 (by decide) ?_
  refine A_iand dJ1_charAt_3b067_12 ?_
  refine A_i2c dJ1_charAt_3b067_13 ?_
  refine A_eqI (hch k hk) ?_
  exact A_zret dJ1_charAt_3b067_14 (ch_nar (hch k hk)) ⟨rfl, rfl⟩ (by decide)
theorem l_charAt (G : GX) {h : AH} {j k : Nat} (hj : j < 31) (hk : k < lenJ j) : MA G 3 yJ0_charAt_5068e cJ0_charAt_5068e 2 (some .char) 0 0 [.ref (gK G j), .int (nI k)] h (qI fun x h1 => x = chJ j k ∧ h1 = h) := by
  refine MA.of (own := RJ0) false [some (.ref (gK G j)), some (.int (nI k))] (by decide +kernel) rfl (fun h => by cases h) (Nat.le_of_ble_eq_true rfl) rfl (fun X => ?_)
  obtain ⟨h60, hch⟩ := lenJ_all j hj
  refine A_aload_n dJ0_charAt_5068e_0 rfl rfl ?_
  refine A_callLi hj dJ0_charAt_5068e_1 m_J0_492 cb_J0_isLatin1_aae02 rfl (As := []) rfl (l_isLatin1 G hj) rfl ⟨by decide, by decide⟩ (Nat.le_of_ble_eq_true rfl) ⟨by decide, by decide⟩ (fun x h1 hq => ?_)
  obtain ⟨rfl, rfl⟩ := hq
  refine A_if_eq 16 dJ0_charAt_5068e_4 (by decide) (fun z => absurd z (by decide)) (fun _ => ?_)
  refine A_aload_n dJ0_charAt_5068e_7 rfl rfl ?_
  refine A_gfV hj rfl dJ0_charAt_5068e_8 ?_
  refine A_iload_n dJ0_charAt_5068e_11 rfl rfl ?_
  refine A_callSi dJ0_charAt_5068e_12 m_J0_495 cb_J1_charAt_3b067 (As := [_, _]) rfl (l_charL G hj hk) rfl ⟨by decide, by decide⟩ (Nat.le_of_ble_eq_true rfl) ⟨by decide, by decide⟩ (fun x h1 hq => ?_)
  obtain ⟨rfl, rfl⟩ := hq
  exact A_zret dJ0_charAt_5068e_15 (ch_nar (hch k hk)) ⟨rfl, rfl⟩ (by decide)