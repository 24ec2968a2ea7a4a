/-! THE REFERENCE: rows, write, paste -/
theorem shl_b (x n : Int64) {k : Nat} (hn : (n.toBitVec.smod 64).toNat = k) : (x <<< n).toInt = (x.toInt * 2 ^ k).bmod (2 ^ 64) := by
  have e : (x <<< n).toInt = (x.toBitVec <<< (n.toBitVec.smod 64)).toInt := rfl
  rw [e, BitVec.shiftLeft_eq', BitVec.toInt_shiftLeft, hn]
  rw [Nat.shiftLeft_eq, Int.natCast_mul, Int.natCast_pow, ← Int.bmod_mul_bmod, ← BitVec.toInt_eq_toNat_bmod]
  rfl
theorem shr_b (x n : Int64) {k : Nat} (hn : (n.toBitVec.smod 64).toNat = k) : (x >>> n).toInt = x.toInt / 2 ^ k := by
  have e : (x >>> n).toInt = (x.toBitVec.sshiftRight' (n.toBitVec.smod 64)).toInt := rfl
  rw [e, BitVec.toInt_sshiftRight', hn, Int.shiftRight_eq_div_pow]
  rfl
theorem cut_56 (v : Int64) : (v <<< ((56 : Int32).toInt64 &&& 63)) >>> ((56 : Int32).toInt64 &&& 63) = v.toInt32.toInt8.toInt32.toInt64 := by
  apply Int64.toInt_inj.mp
  rw [shr_b _ _ (k := 56) (by decide), shl_b _ _ (k := 56) (by decide)]
  have e : (v.toInt32.toInt8.toInt32.toInt64).toInt = (v.toInt.bmod (2 ^ 32)).bmod (2 ^ 8) := by
    rw [Int32.toInt_toInt64, Int8.toInt_toInt32, Int32.toInt_toInt8, Int64.toInt_toInt32]
  rw [e]
  generalize v.toInt = a
  simp only [Int.bmod_def]
  omega
theorem cut_48 (v : Int64) : (v <<< ((48 : Int32).toInt64 &&& 63)) >>> ((48 : Int32).toInt64 &&& 63) = v.toInt32.toInt16.toInt32.toInt64 := by
  apply Int64.toInt_inj.mp
  rw [shr_b _ _ (k := 48) (by decide), shl_b _ _ (k := 48) (by decide)]
  have e : (v.toInt32.toInt16.toInt32.toInt64).toInt = (v.toInt.bmod (2 ^ 32)).bmod (2 ^ 16) := by
    rw [Int32.toInt_toInt64, Int16.toInt_toInt32, Int32.toInt_toInt16, Int64.toInt_toInt32]
  rw [e]
  generalize v.toInt = a
  simp only [Int.bmod_def]
  omega
theorem cut_32 (v : Int64) : (v <<< ((32 : Int32).toInt64 &&& 63)) >>> ((32 : Int32).toInt64 &&& 63) = v.toInt32.toInt64 := by
  apply Int64.toInt_inj.mp
  rw [shr_b _ _ (k := 32) (by decide), shl_b _ _ (k := 32) (by decide)]
  have e : (v.toInt32.toInt64).toInt = v.toInt.bmod (2 ^ 32) := by rw [Int32.toInt_toInt64, Int64.toInt_toInt32]
  rw [e]
  generalize v.toInt = a
  simp only [Int.bmod_def]
  omega
theorem cut_0 (v : Int64) : (v <<< ((0 : Int32).toInt64 &&& 63)) >>> ((0 : Int32).toInt64 &&& 63) = v := by
  apply Int64.toInt_inj.mp
  rw [shr_b _ _ (k := 0) (by decide), shl_b _ _ (k := 0) (by decide)]
  have h1 := Int64.le_toInt v
  have h2 := Int64.toInt_lt v
  rw [Int.pow_zero, Int.mul_one, Int.ediv_one]
  exact Int.bmod_eq_of_le (by omega) (by omega)
theorem cut_e {w : Int32} {v : Int64} (hw : w = 0 ∨ w = 1 ∨ w = 2 ∨ w = 3) : (v <<< (((64 : Int32) - ((8 : Int32) <<< (w &&& 31))).toInt64 &&& 63)) >>> (((64 : Int32) - ((8 : Int32) <<< (w &&& 31))).toInt64 &&& 63) = cutF w v := by
  rcases hw with rfl | rfl | rfl | rfl
  · rw [show ((64 : Int32) - ((8 : Int32) <<< ((0 : Int32) &&& 31))) = 56 by decide, cut_56]; rfl
  · rw [show ((64 : Int32) - ((8 : Int32) <<< ((1 : Int32) &&& 31))) = 48 by decide, cut_48]; rfl
  · rw [show ((64 : Int32) - ((8 : Int32) <<< ((2 : Int32) &&& 31))) = 32 by decide, cut_32]; rfl
  · rw [show ((64 : Int32) - ((8 : Int32) <<< ((3 : Int32) &&& 31))) = 0 by decide, cut_0]; rfl
theorem k_cut (G : GX) {h : AH} {v : Int64} {w : Int32} (hw : w = 0 ∨ w = 1 ∨ w = 2 ∨ w = 3) : MA G 0 yX10_cut cX10_cut 4 (some .long) 0 0 [.long v, .int w] h (qL fun x9 h1 => x9 = cutF w v ∧ h1 = h) := by
  refine MA.of (own := RX10) false [some (.long v), none, some (.int w), none] (by decide +kernel) rfl (fun h => by cases h) (Nat.le_of_ble_eq_true rfl) rfl (fun X => ?_)
  refine A_bipush (v := 64) dX10_cut_0 (by decide) ?_
  refine A_bipush (v := 8) dX10_cut_2 (by decide) ?_
  refine A_iload_n dX10_cut_4 rfl rfl ?_
  refine A_ishl dX10_cut_5 ?_
  refine A_isub dX10_cut_6 ?_
  refine A_istore_n (lv1 := [_, _, _, _]) dX10_cut_7 rfl (Nat.le_of_ble_eq_true rfl) rfl rfl ?_
  refine A_lload_n dX10_cut_8 rfl rfl ?_
  refine A_iload_n dX10_cut_9 rfl rfl ?_
  refine A_lshl dX10_cut_10 ?_
  refine A_iload_n dX10_cut_11 rfl rfl ?_
  refine A_lshr dX10_cut_12 ?_
  exact A_lret dX10_cut_13 ⟨cut_e hw, rfl⟩ ⟨by decide, by decide⟩

def rowA (s w k : Int32) : Int32 := if inI s 4 = 0 ∨ inI w 4 = 0 ∨ 60 < k then -2 else if k < 0 then -3 else 0
def rowM (s w k : Int32) (m : CT) (ml : Nat → Nat → Int64) (m1 : CT) (ml1 : Nat → Nat → Int64) : Prop := if rowA s w k = 0 then m1 = put (put m 17 (tcl s) k) 18 (tcl s) w ∧ (∀ i, i < 60 → ml1 19 (60 * tcl s + i) = 0) ∧ ∀ q, q < 60 * tcl s ∨ 60 * tcl s + 60 ≤ q → ml1 19 q = ml 19 q else m1 = m ∧ ml1 = ml
theorem k_row (G : GX) {b : Nat} {m : CT} {ml : Nat → Nat → Int64} {r : Nat → Option AE} {n : Nat} {s w k : Int32} : MA G 2 yX10_row cX10_row 5 (some .int) 0 0 [.ref b, .int s, .int w, .int k] (HM b m ml r n) (qI fun x9 h1 => x9 = rowA s w k ∧ ∃ m1 ml1, h1 = HM b m1 ml1 r n ∧ rowM s w k m ml m1 ml1) := by
  refine MA.of (own := RX10) false [some (.ref b), some (.int s), some (.int w), some (.int k), none] (by decide +kernel) rfl (fun h => by cases h) (Nat.le_of_ble_eq_true rfl) rfl (fun X => ?_)
  refine A_iload_n dX10_row_0 rfl rfl ?_
  refine A_callSi dX10_row_1 m_X10_383 cb_X10_isSlot (As := [_]) rfl (k_isSlot G) rfl ⟨by decide, by decide⟩ (Nat.le_of_ble_eq_true rfl) ⟨by decide, by decide⟩ (fun x1 h1 hq => ?_)
  obtain ⟨rfl, rfl⟩ := hq
  refine A_if_eq 25 dX10_row_4 (by decide) (fun c4 => ?_) (fun c4 => ?_)
  · refine A_bipush (v := (-2)) dX10_row_25 (by decide) ?_
    exact A_iret dX10_row_27 ⟨by rw [rowA]; exact (if_pos (Or.inl c4)).symm, m, ml, rfl, by rw [rowM, if_neg (show ¬ rowA s w k = 0 from fun z => by rw [rowA, if_pos (show inI s 4 = 0 ∨ inI w 4 = 0 ∨ 60 < k from Or.inl c4)] at z; exact absurd z (by decide))]; exact ⟨rfl, rfl⟩⟩ ⟨by decide, by decide⟩
  · refine A_iload_n dX10_row_7 rfl rfl ?_
    refine A_i2l dX10_row_8 ?_
    refine A_lconst (v := 0) dX10_row_9 (by decide) ?_
    refine A_ldc2 dX10_row_10 w_1504 ?_
    refine A_callSi dX10_row_13 m_X10_85 cb_X10_in (As := [_, _, _]) rfl (k_in G) rfl ⟨by decide, by decide⟩ (Nat.le_of_ble_eq_true rfl) ⟨by decide, by decide⟩ (fun x13 h13 hq => ?_)
    obtain ⟨rfl, rfl⟩ := hq
    refine A_eqI (inL_n 3 (by decide) (by decide)) ?_
    refine A_if_eq 25 dX10_row_16 (by decide) (fun c16 => ?_) (fun c16 => ?_)
    · refine A_bipush (v := (-2)) dX10_row_25 (by decide) ?_
      exact A_iret dX10_row_27 ⟨by rw [rowA]; exact (if_pos (Or.inr (Or.inl c16))).symm, m, ml, rfl, by rw [rowM, if_neg (show ¬ rowA s w k = 0 from fun z => by rw [rowA, if_pos (show inI s 4 = 0 ∨ inI w 4 = 0 ∨ 60 < k from Or.inr (Or.inl c16))] at z; exact absurd z (by decide))]; exact ⟨rfl, rfl⟩⟩ ⟨by decide, by decide⟩
    · refine A_iload_n dX10_row_19 rfl rfl ?_
      refine A_bipush (v := 60) dX10_row_20 (by decide) ?_
      refine A_icmp_le 28 dX10_row_22 (by decide) (fun c22 => ?_) (fun c22 => ?_)
      · have hn9 : ¬ (inI s 4 = 0 ∨ inI w 4 = 0 ∨ 60 < k) := fun z => z.elim c4 (fun z => z.elim c16 (fun z => absurd z (Int32.not_lt.mpr c22)))
        refine A_iload_n dX10_row_28 rfl rfl ?_
        refine A_if_ge 35 dX10_row_29 (by decide) (fun c29 => ?_) (fun c29 => ?_)
        · have eA : rowA s w k = 0 := by rw [rowA, if_neg hn9, if_neg (Int32.not_lt.mpr c29)]
          obtain ⟨j, hj, rfl⟩ := inI_of (k := 4) rfl c4 (by decide)
          refine A_aload_n dX10_row_35 rfl rfl ?_
          refine A_get dX10_row_36 f_X10_67 HM_at0 rfl ?_
          refine A_iload_n dX10_row_39 rfl rfl ?_
          refine A_iload_n dX10_row_40 rfl rfl ?_
          refine A_iastMK (i := j) dX10_row_41 (by decide) (fun _ => rfl) rfl (by omega) (by decide) ?_
          refine A_aload_n dX10_row_42 rfl rfl ?_
          refine A_get dX10_row_43 f_X10_70 HM_at0 rfl ?_
          refine A_iload_n dX10_row_46 rfl rfl ?_
          refine A_iload_n dX10_row_47 rfl rfl ?_
          refine A_iastMK (i := j) dX10_row_48 (by decide) (fun _ => rfl) rfl (by omega) (by decide) ?_
          refine A_iconst (v := 0) dX10_row_49 (by decide) ?_
          refine A_istore (lv1 := [_, _, _, _, _]) dX10_row_50 (Nat.le_of_ble_eq_true rfl) rfl rfl ?_
          have loop : ∀ (q i : Nat) (ml' : Nat → Nat → Int64), i + q = 60 → (∀ a, a < i → ml' 19 (60 * j + a) = 0) → (∀ a, a < 60 * j ∨ 60 * j + 60 ≤ a → ml' 19 a = ml 19 a) → WA X G RX10 cX10_row false (some .int) (qI fun x9 h1 => x9 = 0 ∧ ∃ m1 ml1, h1 = HM b m1 ml1 r n ∧ (m1 = put (put m 17 j k) 18 j w ∧ (∀ i, i < 60 → ml1 19 (60 * j + i) = 0) ∧ ∀ q, q < 60 * j ∨ 60 * j + 60 ≤ q → ml1 19 q = ml 19 q)) 2 0 0 (HM b (put (put m 17 j k) 18 j w) ml' r n) 0 0 52 [some (.ref b), some (.int (nI j)), some (.int w), some (.int k), some (.int (nI i))] [] := by
            intro q
            induction q with
            | zero =>
              intro i ml' hk hz ho
              have e9 : i = 60 := by omega
              subst e9
              refine A_iload dX10_row_52 rfl ?_
              refine A_bipush (v := 60) dX10_row_54 (by decide) ?_
              refine A_icmp_ge 78 dX10_row_56 (by decide) (fun c56 => ?_) (fun c56 => ?_)
              · refine A_iconst (v := 0) dX10_row_78 (by decide) ?_
                exact A_iret dX10_row_79 ⟨rfl, _, _, rfl, rfl, hz, ho⟩ ⟨by decide, by decide⟩
              · exact absurd (by decide) c56
            | succ q ih =>
              intro i ml' hk hz ho
              refine A_iload dX10_row_52 rfl ?_
              refine A_bipush (v := 60) dX10_row_54 (by decide) ?_
              refine A_icmp_ge 78 dX10_row_56 (by decide) (fun c56 => ?_) (fun c56 => ?_)
              · exact absurd c56 (nI_ge (b := 60) (by omega) (by decide))
              · refine A_aload_n dX10_row_59 rfl rfl ?_
                refine A_get dX10_row_60 f_X10_73 HM_at0 rfl ?_
                refine A_bipush (v := 60) dX10_row_63 (by decide) ?_
                refine A_iload_n dX10_row_65 rfl rfl ?_
                refine A_imul dX10_row_66 ?_
                refine A_iload dX10_row_67 rfl ?_
                refine A_iadd dX10_row_69 ?_
                refine A_lconst (v := 0) dX10_row_70 (by decide) ?_
                refine A_lastMK (i := ((60 * j) + i)) dX10_row_71 (by decide) (fun _ => rfl) (ixA (ixU rfl rfl) rfl) (by omega) (by decide) ?_
                refine A_inc 1 (lv1 := [_, _, _, _, _]) dX10_row_72 rfl (by decide) rfl rfl ?_
                refine A_goto 52 dX10_row_75 (by decide) ?_
                rw [nI_1]
                exact ih (i + 1) _ (by omega) (fun a ha => by by_cases e : a = i; (subst e; rw [put_at]); (rw [put_no (by omega)]; exact hz a (by omega))) (fun a ha => by rw [put_no (by omega)]; exact ho a ha)
          have e := loop 60 0 ml (by omega) (fun a ha => absurd ha (by omega)) (fun _ _ => rfl)
          rw [eA]
          simp only [rowM, if_pos eA, tcl_nI (show j < 2 ^ 31 by omega)]
          exact e
        · refine A_bipush (v := (-3)) dX10_row_32 (by decide) ?_
          exact A_iret dX10_row_34 ⟨by rw [rowA, if_neg hn9, if_pos (Int32.not_le.mp c29)], m, ml, rfl, by rw [rowM, if_neg (show ¬ rowA s w k = 0 from fun z => by rw [rowA, if_neg hn9, if_pos (Int32.not_le.mp c29)] at z; exact absurd z (by decide))]; exact ⟨rfl, rfl⟩⟩ ⟨by decide, by decide⟩
      · refine A_bipush (v := (-2)) dX10_row_25 (by decide) ?_
        exact A_iret dX10_row_27 ⟨by rw [rowA]; exact (if_pos (Or.inr (Or.inr (Int32.not_le.mp c22)))).symm, m, ml, rfl, by rw [rowM, if_neg (show ¬ rowA s w k = 0 from fun z => by rw [rowA, if_pos (show inI s 4 = 0 ∨ inI w 4 = 0 ∨ 60 < k from Or.inr (Or.inr (Int32.not_le.mp c22)))] at z; exact absurd z (by decide))]; exact ⟨rfl, rfl⟩⟩ ⟨by decide, by decide⟩

def wrM (S : Nat → Option ST) (s i : Int32) (v : Int64) (x : Int32) (ml ml1 : Nat → Nat → Int64) : Prop :=
  if inI s 4 = 0 then x = -2 ∧ ml1 = ml else match S (tcl s) with
  | none => x = -6 ∧ ml1 = ml
  | some (_, _, w, N, _) => if inI i (nI N) = 0 then x = -7 ∧ ml1 = ml else x = 0 ∧ ml1 = put ml 19 (60 * tcl s + tcl i) (cutF w v)
theorem k_write (G : GX) {b : Nat} {m : CT} {ml : Nat → Nat → Int64} {r : Nat → Option AE} {n : Nat} {S : Nat → Option ST} {s i : Int32} {v : Int64} (hS : SL S m ml) : MA G 2 yX10_write cX10_write 5 (some .int) 0 0 [.ref b, .int s, .int i, .long v] (HM b m ml r n) (qI fun x9 h1 => ∃ ml1, h1 = HM b m ml1 r n ∧ wrM S s i v x9 ml ml1) := by
  refine MA.of (own := RX10) false [some (.ref b), some (.int s), some (.int i), some (.long v), none] (by decide +kernel) rfl (fun h => by cases h) (Nat.le_of_ble_eq_true rfl) rfl (fun X => ?_)
  refine A_iload_n dX10_write_0 rfl rfl ?_
  refine A_callSi dX10_write_1 m_X10_383 cb_X10_isSlot (As := [_]) rfl (k_isSlot G) rfl ⟨by decide, by decide⟩ (Nat.le_of_ble_eq_true rfl) ⟨by decide, by decide⟩ (fun x1 h1 hq => ?_)
  obtain ⟨rfl, rfl⟩ := hq
  refine A_if_ne 10 dX10_write_4 (by decide) (fun c4 => ?_) (fun c4 => ?_)
  · obtain ⟨j, hj, rfl⟩ := inI_of (k := 4) rfl c4 (by decide)
    have hsj := hS j hj
    rcases hs : S j with _ | ⟨a, q, w, N, f⟩
    · refine A_aload_n dX10_write_10 rfl rfl ?_
      refine A_get dX10_write_11 f_X10_67 HM_at0 rfl ?_
      refine A_iload_n dX10_write_14 rfl rfl ?_
      refine A_ialdK (i := j) dX10_write_15 (HM_at (by decide)) rfl (by omega) (by decide) ?_
      refine A_eqI (hsj.1 hs) ?_
      refine A_iconst (v := (-1)) dX10_write_16 (by decide) ?_
      refine A_icmp_ne 23 dX10_write_17 (by decide) (fun c17 => ?_) (fun c17 => ?_)
      · exact absurd rfl c17
      · refine A_bipush (v := (-6)) dX10_write_20 (by decide) ?_
        exact A_iret dX10_write_22 ⟨ml, rfl, by rw [wrM, if_neg c4, tcl_nI (by omega), hs]; exact ⟨rfl, rfl⟩⟩ ⟨by decide, by decide⟩
    · obtain ⟨e17, hN60, e18, hw3, e19⟩ := hsj.2 a q w N f hs
      refine A_aload_n dX10_write_10 rfl rfl ?_
      refine A_get dX10_write_11 f_X10_67 HM_at0 rfl ?_
      refine A_iload_n dX10_write_14 rfl rfl ?_
      refine A_ialdK (i := j) dX10_write_15 (HM_at (by decide)) rfl (by omega) (by decide) ?_
      refine A_eqI e17 ?_
      refine A_iconst (v := (-1)) dX10_write_16 (by decide) ?_
      refine A_icmp_ne 23 dX10_write_17 (by decide) (fun c17 => ?_) (fun c17 => ?_)
      · refine A_iload_n dX10_write_23 rfl rfl ?_
        refine A_i2l dX10_write_24 ?_
        refine A_lconst (v := 0) dX10_write_25 (by decide) ?_
        refine A_aload_n dX10_write_26 rfl rfl ?_
        refine A_get dX10_write_27 f_X10_67 HM_at0 rfl ?_
        refine A_iload_n dX10_write_30 rfl rfl ?_
        refine A_ialdK (i := j) dX10_write_31 (HM_at (by decide)) rfl (by omega) (by decide) ?_
        refine A_eqI e17 ?_
        refine A_iconst (v := 1) dX10_write_32 (by decide) ?_
        refine A_isub dX10_write_33 ?_
        refine A_i2l dX10_write_34 ?_
        refine A_callSi dX10_write_35 m_X10_85 cb_X10_in (As := [_, _, _]) rfl (k_in G) rfl ⟨by decide, by decide⟩ (Nat.le_of_ble_eq_true rfl) ⟨by decide, by decide⟩ (fun x35 h35 hq => ?_)
        obtain ⟨rfl, rfl⟩ := hq
        refine A_eqI (inL_b (by omega)) ?_
        refine A_if_ne 44 dX10_write_38 (by decide) (fun c38 => ?_) (fun c38 => ?_)
        · obtain ⟨u, hu, rfl⟩ := inI_of rfl c38 (by omega)
          refine A_aload_n dX10_write_44 rfl rfl ?_
          refine A_get dX10_write_45 f_X10_73 HM_at0 rfl ?_
          refine A_bipush (v := 60) dX10_write_48 (by decide) ?_
          refine A_iload_n dX10_write_50 rfl rfl ?_
          refine A_imul dX10_write_51 ?_
          refine A_iload_n dX10_write_52 rfl rfl ?_
          refine A_iadd dX10_write_53 ?_
          refine A_lload_n dX10_write_54 rfl rfl ?_
          refine A_aload_n dX10_write_55 rfl rfl ?_
          refine A_get dX10_write_56 f_X10_70 HM_at0 rfl ?_
          refine A_iload_n dX10_write_59 rfl rfl ?_
          refine A_ialdK (i := j) dX10_write_60 (HM_at (by decide)) rfl (by omega) (by decide) ?_
          refine A_eqI e18 ?_
          refine A_callSl dX10_write_61 m_X10_474 cb_X10_cut (As := [_, _]) rfl (k_cut G hw3) rfl ⟨by decide, by decide⟩ (Nat.le_of_ble_eq_true rfl) ⟨by decide, by decide⟩ (fun x61 h61 hq => ?_)
          obtain ⟨rfl, rfl⟩ := hq
          refine A_lastMK (i := ((60 * j) + u)) dX10_write_64 (by decide) (fun _ => rfl) (ixA (ixU rfl rfl) rfl) (by omega) (by decide) ?_
          refine A_iconst (v := 0) dX10_write_65 (by decide) ?_
          exact A_iret dX10_write_66 ⟨_, rfl, by rw [wrM, if_neg c4, tcl_nI (by omega), tcl_nI (by omega), hs]; show if inI (nI u) (nI N) = 0 then _ else _; rw [if_neg c38]; exact ⟨rfl, rfl⟩⟩ ⟨by decide, by decide⟩
        · refine A_bipush (v := (-7)) dX10_write_41 (by decide) ?_
          exact A_iret dX10_write_43 ⟨ml, rfl, by rw [wrM, if_neg c4, tcl_nI (by omega), hs]; show if inI i (nI N) = 0 then _ else _; rw [if_pos c38]; exact ⟨rfl, rfl⟩⟩ ⟨by decide, by decide⟩
      · exact absurd c17 (n1_ne (by omega))
  · refine A_bipush (v := (-2)) dX10_write_7 (by decide) ?_
    exact A_iret dX10_write_9 ⟨ml, rfl, by rw [wrM, if_pos c4]; exact ⟨rfl, rfl⟩⟩ ⟨by decide, by decide⟩

def pasM (S : Nat → Option ST) (s i t k l : Int32) (x : Int32) (ml ml1 : Nat → Nat → Int64) : Prop :=
  if inI s 4 = 0 ∨ inI t 4 = 0 then x = -2 ∧ ml1 = ml else match S (tcl s), S (tcl t) with
  | some (_, _, w1, m1, _), some (_, _, w2, m2, _) => if w1 = w2 then if hasS (nI m1) i l = 0 ∨ hasS (nI m2) k l = 0 then x = -7 ∧ ml1 = ml else x = 0 ∧ ∀ q, ml1 19 q = if 60 * tcl t + tcl k ≤ q ∧ q < 60 * tcl t + tcl k + tcl l then ml 19 (60 * tcl s + tcl i + (q - (60 * tcl t + tcl k))) else ml 19 q else x = -8 ∧ ml1 = ml
  | _, _ => x = -6 ∧ ml1 = ml
theorem has_e {m : Nat} {i l : Int32} (hm : m ≤ 60) (hi : ¬ i < 0) (hl : ¬ l < 0) : (hasS (nI m) i l = 0 ↔ (nI m).toInt64 < i.toInt64 + l.toInt64) := by
  rw [Int32.lt_iff_toInt_lt, T0] at hi hl
  have b1 := i32_b i
  have b2 := i32_b l
  have e : (i.toInt64 + l.toInt64).toInt = i.toInt + l.toInt := by rw [add64 (by rw [Int32.toInt_toInt64, Int32.toInt_toInt64]; omega) (by rw [Int32.toInt_toInt64, Int32.toInt_toInt64]; omega), Int32.toInt_toInt64, Int32.toInt_toInt64]
  rw [Int64.lt_iff_toInt_lt, e, Int32.toInt_toInt64, nI_toInt (by omega), hasS]
  by_cases z : (m : Int) < l.toInt
  · rw [if_pos (Or.inr (Or.inr (Or.inl (by rw [Int32.lt_iff_toInt_lt, nI_toInt (by omega)]; exact z))))]
    exact ⟨fun _ => by omega, fun _ => rfl⟩
  · have es : (nI m - l).toInt = m - l.toInt := by rw [subT (by rw [nI_toInt (by omega)]; omega) (by rw [nI_toInt (by omega)]; omega), nI_toInt (by omega)]
    by_cases y : (m : Int) - l.toInt < i.toInt
    · rw [if_pos (Or.inr (Or.inr (Or.inr (by rw [Int32.lt_iff_toInt_lt, es]; exact y))))]
      exact ⟨fun _ => by omega, fun _ => rfl⟩
    · rw [if_neg]
      · exact ⟨fun q => absurd q (by decide), fun q => by omega⟩
      · rintro (q | q | q | q)
        · rw [Int32.lt_iff_toInt_lt, T0] at q; omega
        · rw [Int32.lt_iff_toInt_lt, T0] at q; omega
        · rw [Int32.lt_iff_toInt_lt, nI_toInt (by omega)] at q; omega
        · rw [Int32.lt_iff_toInt_lt, es] at q; omega
theorem k_paste (G : GX) {b : Nat} {m : CT} {ml : Nat → Nat → Int64} {r : Nat → Option AE} {n : Nat} {S : Nat → Option ST} {s i t k l : Int32} (hS : SL S m ml) : MA G 2 yX10_paste cX10_paste 7 (some .int) 0 0 [.ref b, .int s, .int i, .int t, .int k, .int l] (HM b m ml r n) (qI fun x9 h1 => ∃ ml1, h1 = HM b m ml1 r n ∧ pasM S s i t k l x9 ml ml1) := by
  refine MA.of (own := RX10) false [some (.ref b), some (.int s), some (.int i), some (.int t), some (.int k), some (.int l), none] (by decide +kernel) rfl (fun h => by cases h) (Nat.le_of_ble_eq_true rfl) rfl (fun X => ?_)
  refine A_iload_n dX10_paste_0 rfl rfl ?_
  refine A_callSi dX10_paste_1 m_X10_383 cb_X10_isSlot (As := [_]) rfl (k_isSlot G) rfl ⟨by decide, by decide⟩ (Nat.le_of_ble_eq_true rfl) ⟨by decide, by decide⟩ (fun x1 h1 hq => ?_)
  obtain ⟨rfl, rfl⟩ := hq
  refine A_if_eq 14 dX10_paste_4 (by decide) (fun c4 => ?_) (fun c4 => ?_)
  · refine A_bipush (v := (-2)) dX10_paste_14 (by decide) ?_
    exact A_iret dX10_paste_16 ⟨ml, rfl, by rw [pasM, if_pos (show inI s 4 = 0 ∨ inI t 4 = 0 from Or.inl c4)]; exact ⟨rfl, rfl⟩⟩ ⟨by decide, by decide⟩
  · refine A_iload_n dX10_paste_7 rfl rfl ?_
    refine A_callSi dX10_paste_8 m_X10_383 cb_X10_isSlot (As := [_]) rfl (k_isSlot G) rfl ⟨by decide, by decide⟩ (Nat.le_of_ble_eq_true rfl) ⟨by decide, by decide⟩ (fun x8 h8 hq => ?_)
    obtain ⟨rfl, rfl⟩ := hq
    refine A_if_ne 17 dX10_paste_11 (by decide) (fun c11 => ?_) (fun c11 => ?_)
    · have hst : ¬ (inI s 4 = 0 ∨ inI t 4 = 0) := fun z => z.elim c4 c11
      obtain ⟨js, hjs, rfl⟩ := inI_of (k := 4) rfl c4 (by decide)
      obtain ⟨jt, hjt, rfl⟩ := inI_of (k := 4) rfl c11 (by decide)
      have hsj := hS js hjs
      have htj := hS jt hjt
      rcases hs : S js with _ | ⟨a1, q1, w1, N1, f1⟩
      · refine A_aload_n dX10_paste_17 rfl rfl ?_
        refine A_get dX10_paste_18 f_X10_67 HM_at0 rfl ?_
        refine A_iload_n dX10_paste_21 rfl rfl ?_
        refine A_ialdK (i := js) dX10_paste_22 (HM_at (by decide)) rfl (by omega) (by decide) ?_
        refine A_eqI (hsj.1 hs) ?_
        refine A_iconst (v := (-1)) dX10_paste_23 (by decide) ?_
        refine A_icmp_eq 37 dX10_paste_24 (by decide) (fun c24 => ?_) (fun c24 => ?_)
        · refine A_bipush (v := (-6)) dX10_paste_37 (by decide) ?_
          exact A_iret dX10_paste_39 ⟨ml, rfl, by rw [pasM, if_neg hst, tcl_nI (show js < 2 ^ 31 by omega), tcl_nI (show jt < 2 ^ 31 by omega), hs]; exact ⟨rfl, rfl⟩⟩ ⟨by decide, by decide⟩
        · exact absurd rfl c24
      · obtain ⟨e17, hN60, e18, hw3, e19⟩ := hsj.2 a1 q1 w1 N1 f1 hs
        rcases ht : S jt with _ | ⟨a2, q2, w2, N2, f2⟩
        · refine A_aload_n dX10_paste_17 rfl rfl ?_
          refine A_get dX10_paste_18 f_X10_67 HM_at0 rfl ?_
          refine A_iload_n dX10_paste_21 rfl rfl ?_
          refine A_ialdK (i := js) dX10_paste_22 (HM_at (by decide)) rfl (by omega) (by decide) ?_
          refine A_eqI e17 ?_
          refine A_iconst (v := (-1)) dX10_paste_23 (by decide) ?_
          refine A_icmp_eq 37 dX10_paste_24 (by decide) (fun c24 => ?_) (fun c24 => ?_)
          · exact absurd c24 (n1_ne (by omega))
          · refine A_aload_n dX10_paste_27 rfl rfl ?_
            refine A_get dX10_paste_28 f_X10_67 HM_at0 rfl ?_
            refine A_iload_n dX10_paste_31 rfl rfl ?_
            refine A_ialdK (i := jt) dX10_paste_32 (HM_at (by decide)) rfl (by omega) (by decide) ?_
            refine A_eqI (htj.1 ht) ?_
            refine A_iconst (v := (-1)) dX10_paste_33 (by decide) ?_
            refine A_icmp_ne 40 dX10_paste_34 (by decide) (fun c34 => ?_) (fun c34 => ?_)
            · exact absurd rfl c34
            · refine A_bipush (v := (-6)) dX10_paste_37 (by decide) ?_
              exact A_iret dX10_paste_39 ⟨ml, rfl, by rw [pasM, if_neg hst, tcl_nI (show js < 2 ^ 31 by omega), tcl_nI (show jt < 2 ^ 31 by omega), hs, ht]; exact ⟨rfl, rfl⟩⟩ ⟨by decide, by decide⟩
        · obtain ⟨t17, tN60, t18, tw3, t19⟩ := htj.2 a2 q2 w2 N2 f2 ht
          refine A_aload_n dX10_paste_17 rfl rfl ?_
          refine A_get dX10_paste_18 f_X10_67 HM_at0 rfl ?_
          refine A_iload_n dX10_paste_21 rfl rfl ?_
          refine A_ialdK (i := js) dX10_paste_22 (HM_at (by decide)) rfl (by omega) (by decide) ?_
          refine A_eqI e17 ?_
          refine A_iconst (v := (-1)) dX10_paste_23 (by decide) ?_
          refine A_icmp_eq 37 dX10_paste_24 (by decide) (fun c24 => ?_) (fun c24 => ?_)
          · exact absurd c24 (n1_ne (by omega))
          · refine A_aload_n dX10_paste_27 rfl rfl ?_
            refine A_get dX10_paste_28 f_X10_67 HM_at0 rfl ?_
            refine A_iload_n dX10_paste_31 rfl rfl ?_
            refine A_ialdK (i := jt) dX10_paste_32 (HM_at (by decide)) rfl (by omega) (by decide) ?_
            refine A_eqI t17 ?_
            refine A_iconst (v := (-1)) dX10_paste_33 (by decide) ?_
            refine A_icmp_ne 40 dX10_paste_34 (by decide) (fun c34 => ?_) (fun c34 => ?_)
            · refine A_aload_n dX10_paste_40 rfl rfl ?_
              refine A_get dX10_paste_41 f_X10_70 HM_at0 rfl ?_
              refine A_iload_n dX10_paste_44 rfl rfl ?_
              refine A_ialdK (i := js) dX10_paste_45 (HM_at (by decide)) rfl (by omega) (by decide) ?_
              refine A_eqI e18 ?_
              refine A_aload_n dX10_paste_46 rfl rfl ?_
              refine A_get dX10_paste_47 f_X10_70 HM_at0 rfl ?_
              refine A_iload_n dX10_paste_50 rfl rfl ?_
              refine A_ialdK (i := jt) dX10_paste_51 (HM_at (by decide)) rfl (by omega) (by decide) ?_
              refine A_eqI t18 ?_
              refine A_icmp_eq 58 dX10_paste_52 (by decide) (fun c52 => ?_) (fun c52 => ?_)
              · refine A_iload_n dX10_paste_58 rfl rfl ?_
                refine A_if_lt 107 dX10_paste_59 (by decide) (fun c59 => ?_) (fun c59 => ?_)
                · refine A_bipush (v := (-7)) dX10_paste_107 (by decide) ?_
                  exact A_iret dX10_paste_109 ⟨ml, rfl, by rw [pasM, if_neg hst, tcl_nI (show js < 2 ^ 31 by omega), tcl_nI (show jt < 2 ^ 31 by omega), hs, ht]; show if w1 = w2 then _ else _; rw [if_pos c52, if_pos (show hasS (nI N1) i l = 0 ∨ hasS (nI N2) k l = 0 from Or.inl (if_pos (Or.inl c59)))]; exact ⟨rfl, rfl⟩⟩ ⟨by decide, by decide⟩
                · refine A_iload dX10_paste_62 rfl ?_
                  refine A_if_lt 107 dX10_paste_64 (by decide) (fun c64 => ?_) (fun c64 => ?_)
                  · refine A_bipush (v := (-7)) dX10_paste_107 (by decide) ?_
                    exact A_iret dX10_paste_109 ⟨ml, rfl, by rw [pasM, if_neg hst, tcl_nI (show js < 2 ^ 31 by omega), tcl_nI (show jt < 2 ^ 31 by omega), hs, ht]; show if w1 = w2 then _ else _; rw [if_pos c52, if_pos (show hasS (nI N1) i l = 0 ∨ hasS (nI N2) k l = 0 from Or.inr (if_pos (Or.inl c64)))]; exact ⟨rfl, rfl⟩⟩ ⟨by decide, by decide⟩
                  · refine A_iload dX10_paste_67 rfl ?_
                    refine A_if_lt 107 dX10_paste_69 (by decide) (fun c69 => ?_) (fun c69 => ?_)
                    · refine A_bipush (v := (-7)) dX10_paste_107 (by decide) ?_
                      exact A_iret dX10_paste_109 ⟨ml, rfl, by rw [pasM, if_neg hst, tcl_nI (show js < 2 ^ 31 by omega), tcl_nI (show jt < 2 ^ 31 by omega), hs, ht]; show if w1 = w2 then _ else _; rw [if_pos c52, if_pos (show hasS (nI N1) i l = 0 ∨ hasS (nI N2) k l = 0 from Or.inl (if_pos (Or.inr (Or.inl c69))))]; exact ⟨rfl, rfl⟩⟩ ⟨by decide, by decide⟩
                    · refine A_iload_n dX10_paste_72 rfl rfl ?_
                      refine A_i2l dX10_paste_73 ?_
                      refine A_iload dX10_paste_74 rfl ?_
                      refine A_i2l dX10_paste_76 ?_
                      refine A_ladd dX10_paste_77 ?_
                      refine A_aload_n dX10_paste_78 rfl rfl ?_
                      refine A_get dX10_paste_79 f_X10_67 HM_at0 rfl ?_
                      refine A_iload_n dX10_paste_82 rfl rfl ?_
                      refine A_ialdK (i := js) dX10_paste_83 (HM_at (by decide)) rfl (by omega) (by decide) ?_
                      refine A_eqI e17 ?_
                      refine A_i2l dX10_paste_84 ?_
                      refine A_lcmp dX10_paste_85 ?_
                      refine A_if_gt 107 dX10_paste_86 (by decide) (fun c86 => ?_) (fun c86 => ?_)
                      · refine A_bipush (v := (-7)) dX10_paste_107 (by decide) ?_
                        exact A_iret dX10_paste_109 ⟨ml, rfl, by rw [pasM, if_neg hst, tcl_nI (show js < 2 ^ 31 by omega), tcl_nI (show jt < 2 ^ 31 by omega), hs, ht]; show if w1 = w2 then _ else _; rw [if_pos c52, if_pos (show hasS (nI N1) i l = 0 ∨ hasS (nI N2) k l = 0 from Or.inl ((has_e (by omega) c59 c69).mpr ((lg_cmp_gt _ _).mp c86)))]; exact ⟨rfl, rfl⟩⟩ ⟨by decide, by decide⟩
                      · refine A_iload dX10_paste_89 rfl ?_
                        refine A_i2l dX10_paste_91 ?_
                        refine A_iload dX10_paste_92 rfl ?_
                        refine A_i2l dX10_paste_94 ?_
                        refine A_ladd dX10_paste_95 ?_
                        refine A_aload_n dX10_paste_96 rfl rfl ?_
                        refine A_get dX10_paste_97 f_X10_67 HM_at0 rfl ?_
                        refine A_iload_n dX10_paste_100 rfl rfl ?_
                        refine A_ialdK (i := jt) dX10_paste_101 (HM_at (by decide)) rfl (by omega) (by decide) ?_
                        refine A_eqI t17 ?_
                        refine A_i2l dX10_paste_102 ?_
                        refine A_lcmp dX10_paste_103 ?_
                        refine A_if_le 110 dX10_paste_104 (by decide) (fun c104 => ?_) (fun c104 => ?_)
                        · have a1 : ¬ hasS (nI N1) i l = 0 := fun z => by
                            have := (has_e (by omega) c59 c69).mp z
                            exact absurd ((lg_cmp_gt _ _).mpr this) c86
                          have a2 : ¬ hasS (nI N2) k l = 0 := fun z => by
                            have := (has_e (by omega) c64 c69).mp z
                            exact absurd ((lg_cmp_gt _ _).mpr this) (Int32.not_lt.mpr c104)
                          have ep : ∀ x9 ml1, pasM S (nI js) i (nI jt) k l x9 ml ml1 ↔ (x9 = 0 ∧ ∀ q, ml1 19 q = if 60 * jt + tcl k ≤ q ∧ q < 60 * jt + tcl k + tcl l then ml 19 (60 * js + tcl i + (q - (60 * jt + tcl k))) else ml 19 q) := by
                            intro x9 ml1
                            rw [pasM, if_neg hst, tcl_nI (show js < 2 ^ 31 by omega), tcl_nI (show jt < 2 ^ 31 by omega), hs, ht]
                            show (if w1 = w2 then _ else _) ↔ _
                            rw [if_pos c52, if_neg (show ¬ (hasS (nI N1) i l = 0 ∨ hasS (nI N2) k l = 0) from fun z => z.elim a1 a2)]
                          simp only [ep]
                          obtain ⟨u, N, huN, rfl, rfl⟩ := hasS_of a1 (by omega)
                          obtain ⟨v, N', hvN, rfl, eN⟩ := hasS_of a2 (by omega)
                          have eNN : N' = N := ((nI_eq (by omega) (by omega)).mp eN).symm
                          subst eNN
                          rw [tcl_nI (show u < 2 ^ 31 by omega), tcl_nI (show v < 2 ^ 31 by omega), tcl_nI (show N' < 2 ^ 31 by omega)]
                          refine A_iconst (v := 0) dX10_paste_110 (by decide) ?_
                          refine A_istore (lv1 := [_, _, _, _, _, _, _]) dX10_paste_111 (Nat.le_of_ble_eq_true rfl) rfl rfl ?_
                          have loop2 : ∀ (q x : Nat) (ml' : Nat → Nat → Int64), x + q = N' → (∀ a, a < N' → ml' 20 a = ml 19 (60 * js + u + a)) → (∀ a, ml' 19 a = if 60 * jt + v ≤ a ∧ a < 60 * jt + v + x then ml 19 (60 * js + u + (a - (60 * jt + v))) else ml 19 a) → WA X G RX10 cX10_paste false (some .int) (qI fun x9 h1 => ∃ ml1, h1 = HM b m ml1 r n ∧ (x9 = 0 ∧ ∀ q, ml1 19 q = if 60 * jt + v ≤ q ∧ q < 60 * jt + v + N' then ml 19 (60 * js + u + (q - (60 * jt + v))) else ml 19 q)) 2 0 0 (HM b m ml' r n) 0 0 150 [some (.ref b), some (.int (nI js)), some (.int (nI u)), some (.int (nI jt)), some (.int (nI v)), some (.int (nI N')), some (.int (nI x))] [] := by
                            intro q
                            induction q with
                            | zero =>
                              intro x ml' hk h20 h19
                              refine A_iload dX10_paste_150 rfl ?_
                              refine A_iload dX10_paste_152 rfl ?_
                              refine A_icmp_ge 185 dX10_paste_154 (by decide) (fun c154 => ?_) (fun c154 => ?_)
                              · refine A_iconst (v := 0) dX10_paste_185 (by decide) ?_
                                exact A_iret dX10_paste_186 ⟨_, rfl, rfl, fun q => by rw [h19 q, show x = N' by omega]⟩ ⟨by decide, by decide⟩
                              · exact absurd (nI_le (by omega) (by omega)) c154
                            | succ q ih =>
                              intro x ml' hk h20 h19
                              refine A_iload dX10_paste_150 rfl ?_
                              refine A_iload dX10_paste_152 rfl ?_
                              refine A_icmp_ge 185 dX10_paste_154 (by decide) (fun c154 => ?_) (fun c154 => ?_)
                              · exact absurd c154 (nI_ge (by omega) (by omega))
                              · refine A_aload_n dX10_paste_157 rfl rfl ?_
                                refine A_get dX10_paste_158 f_X10_73 HM_at0 rfl ?_
                                refine A_bipush (v := 60) dX10_paste_161 (by decide) ?_
                                refine A_iload_n dX10_paste_163 rfl rfl ?_
                                refine A_imul dX10_paste_164 ?_
                                refine A_iload dX10_paste_165 rfl ?_
                                refine A_iadd dX10_paste_167 ?_
                                refine A_iload dX10_paste_168 rfl ?_
                                refine A_iadd dX10_paste_170 ?_
                                refine A_aload_n dX10_paste_171 rfl rfl ?_
                                refine A_get dX10_paste_172 f_X10_77 HM_at0 rfl ?_
                                refine A_iload dX10_paste_175 rfl ?_
                                refine A_laldK (i := x) dX10_paste_177 (HM_at (by decide)) rfl (by omega) (by decide) ?_
                                refine A_lastMK (i := (((60 * jt) + v) + x)) dX10_paste_178 (by decide) (fun _ => rfl) (ixA (ixA (ixU rfl rfl) rfl) rfl) (by omega) (by decide) ?_
                                refine A_inc 1 (lv1 := [_, _, _, _, _, _, _]) dX10_paste_179 rfl (by decide) rfl rfl ?_
                                refine A_goto 150 dX10_paste_182 (by decide) ?_
                                rw [nI_1]
                                exact ih (x + 1) _ (by omega) (fun a ha => by rw [put_ne (by decide)]; exact h20 a ha) (fun a => by by_cases e : a = 60 * jt + v + x; (subst e; rw [put_at, if_pos (by omega), h20 x (by omega)]; congr 2; omega); (rw [put_no e, h19 a]; by_cases e2 : 60 * jt + v ≤ a ∧ a < 60 * jt + v + x; (rw [if_pos e2, if_pos (by omega)]); (rw [if_neg e2, if_neg (by omega)])))
                          have loop1 : ∀ (q x : Nat) (ml' : Nat → Nat → Int64), x + q = N' → (∀ l, l ≠ 20 → ml' l = ml l) → (∀ a, a < x → ml' 20 a = ml 19 (60 * js + u + a)) → WA X G RX10 cX10_paste false (some .int) (qI fun x9 h1 => ∃ ml1, h1 = HM b m ml1 r n ∧ (x9 = 0 ∧ ∀ q, ml1 19 q = if 60 * jt + v ≤ q ∧ q < 60 * jt + v + N' then ml 19 (60 * js + u + (q - (60 * jt + v))) else ml 19 q)) 2 0 0 (HM b m ml' r n) 0 0 113 [some (.ref b), some (.int (nI js)), some (.int (nI u)), some (.int (nI jt)), some (.int (nI v)), some (.int (nI N')), some (.int (nI x))] [] := by
                            intro q
                            induction q with
                            | zero =>
                              intro x ml' hk hl h20
                              refine A_iload dX10_paste_113 rfl ?_
                              refine A_iload dX10_paste_115 rfl ?_
                              refine A_icmp_ge 147 dX10_paste_117 (by decide) (fun c117 => ?_) (fun c117 => ?_)
                              · refine A_iconst (v := 0) dX10_paste_147 (by decide) ?_
                                refine A_istore (lv1 := [_, _, _, _, _, _, _]) dX10_paste_148 (Nat.le_of_ble_eq_true rfl) rfl rfl ?_
                                exact loop2 N' 0 ml' (by omega) (fun a ha => h20 a (by omega)) (fun a => by rw [hl 19 (by decide), if_neg (by omega)])
                              · exact absurd (nI_le (by omega) (by omega)) c117
                            | succ q ih =>
                              intro x ml' hk hl h20
                              refine A_iload dX10_paste_113 rfl ?_
                              refine A_iload dX10_paste_115 rfl ?_
                              refine A_icmp_ge 147 dX10_paste_117 (by decide) (fun c117 => ?_) (fun c117 => ?_)
                              · exact absurd c117 (nI_ge (by omega) (by omega))
                              · refine A_aload_n dX10_paste_120 rfl rfl ?_
                                refine A_get dX10_paste_121 f_X10_77 HM_at0 rfl ?_
                                refine A_iload dX10_paste_124 rfl ?_
                                refine A_aload_n dX10_paste_126 rfl rfl ?_
                                refine A_get dX10_paste_127 f_X10_73 HM_at0 rfl ?_
                                refine A_bipush (v := 60) dX10_paste_130 (by decide) ?_
                                refine A_iload_n dX10_paste_132 rfl rfl ?_
                                refine A_imul dX10_paste_133 ?_
                                refine A_iload_n dX10_paste_134 rfl rfl ?_
                                refine A_iadd dX10_paste_135 ?_
                                refine A_iload dX10_paste_136 rfl ?_
                                refine A_iadd dX10_paste_138 ?_
                                refine A_laldK (i := (((60 * js) + u) + x)) dX10_paste_139 (HM_at (by decide)) (ixA (ixA (ixU rfl rfl) rfl) rfl) (by omega) (by decide) ?_
                                refine A_lastMK (i := x) dX10_paste_140 (by decide) (fun _ => rfl) rfl (by omega) (by decide) ?_
                                refine A_inc 1 (lv1 := [_, _, _, _, _, _, _]) dX10_paste_141 rfl (by decide) rfl rfl ?_
                                refine A_goto 113 dX10_paste_144 (by decide) ?_
                                rw [nI_1]
                                exact ih (x + 1) _ (by omega) (fun l hl9 => (put_ne hl9).trans (hl l hl9)) (fun a ha => by by_cases e : a = x; (subst e; rw [put_at, hl 19 (by decide)]); (rw [put_no e]; exact h20 a (by omega)))
                          exact loop1 N' 0 ml (by omega) (fun _ _ => rfl) (fun a ha => absurd ha (by omega))
                        · refine A_bipush (v := (-7)) dX10_paste_107 (by decide) ?_
                          exact A_iret dX10_paste_109 ⟨ml, rfl, by rw [pasM, if_neg hst, tcl_nI (show js < 2 ^ 31 by omega), tcl_nI (show jt < 2 ^ 31 by omega), hs, ht]; show if w1 = w2 then _ else _; rw [if_pos c52, if_pos (show hasS (nI N1) i l = 0 ∨ hasS (nI N2) k l = 0 from Or.inr ((has_e (by omega) c64 c69).mpr ((lg_cmp_gt _ _).mp (Int32.not_le.mp c104))))]; exact ⟨rfl, rfl⟩⟩ ⟨by decide, by decide⟩
              · refine A_bipush (v := (-8)) dX10_paste_55 (by decide) ?_
                exact A_iret dX10_paste_57 ⟨ml, rfl, by rw [pasM, if_neg hst, tcl_nI (show js < 2 ^ 31 by omega), tcl_nI (show jt < 2 ^ 31 by omega), hs, ht]; show if w1 = w2 then _ else _; rw [if_neg c52]; exact ⟨rfl, rfl⟩⟩ ⟨by decide, by decide⟩
            · exact absurd c34 (n1_ne (by omega))
    · refine A_bipush (v := (-2)) dX10_paste_14 (by decide) ?_
      exact A_iret dX10_paste_16 ⟨ml, rfl, by rw [pasM, if_pos (show inI s 4 = 0 ∨ inI t 4 = 0 from Or.inr c11)]; exact ⟨rfl, rfl⟩⟩ ⟨by decide, by decide⟩
