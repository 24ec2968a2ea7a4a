/-! MARKS: which is missed in a YEAR by some TAKERS -/
theorem i64_small {x : Int64} {N : Nat} (h1 : ¬ x < 0) (h2 : x < (nI N).toInt64) (hN : N ≤ 100) : ∃ v, v < N ∧ x.toInt32 = nI v := by
  have e1 := Int64.lt_iff_toInt_lt.mp h2
  have e2 : ¬ x.toInt < 0 := fun z => h1 (Int64.lt_iff_toInt_lt.mpr z)
  have e3 : (nI N).toInt64.toInt = N := by rw [Int32.toInt_toInt64, nI_toInt (by omega)]
  rw [e3] at e1
  refine ⟨x.toInt.toNat, by omega, ?_⟩
  have e4 : x = (nI x.toInt.toNat).toInt64 := by
    refine Int64.toInt_inj.mp ?_
    rw [Int32.toInt_toInt64, nI_toInt (by omega)]
    omega
  exact (congrArg Int64.toInt32 e4).trans (by simp)
theorem mkV {f : Nat → Int64} {nv wk i : Nat} (h : mkOk f nv wk i = true) (hv : nv ≤ 6) (hw : wk ≤ 30) : ∃ v w, v < nv ∧ w < wk ∧ (f (3 * i)).toInt32 = nI v ∧ (f (3 * i + 1)).toInt32 = nI w := by
  obtain ⟨h1, h2, h3, h4⟩ := of_decide_eq_true h
  obtain ⟨v, a1, a2⟩ := i64_small h1 h2 (by omega)
  obtain ⟨w, b1, b2⟩ := i64_small h3 h4 (by omega)
  exact ⟨v, w, a1, b1, a2, b2⟩
theorem mwR_ok {f : Nat → Int64} {nv wk : Nat} : ∀ (k i : Nat), mwR f nv wk i k = 0 → ∀ j, i ≤ j → j < i + k → mkOk f nv wk j = true
  | 0, i, _, j, h1, h2 => absurd h2 (by omega)
  | k + 1, i, h, j, h1, h2 => by
    rw [mwR] at h
    by_cases e : mkOk f nv wk i = true
    · rw [if_pos e] at h
      by_cases ej : j = i
      · rw [ej]; exact e
      · exact mwR_ok k (i + 1) h j (by omega) (by omega)
    · rw [if_neg e] at h; exact absurd h (by decide)
/-- the one MARK that is missed: NONE, it, or several -/
def miR (e : Nat → Int32) (f : Nat → Int64) : Nat → Nat → Int32 → Int32
  | _, 0, ms => ms
  | i, k + 1, ms => if f (3 * i + 2) = (e (tcl (f (3 * i)).toInt32 * 30 + tcl (f (3 * i + 1)).toInt32)).toInt64 then miR e f (i + 1) k ms else if ms = -1 then miR e f (i + 1) k (nI i) else 99
theorem miR_c {e e' : Nat → Int32} {f : Nat → Int64} {nv wk : Nat} (hv : nv ≤ 6) (hw : wk ≤ 30) (h : ∀ v w, v < nv → w < wk → e' (v * 30 + w) = e (v * 30 + w)) : ∀ (k i : Nat) (ms : Int32), (∀ j, i ≤ j → j < i + k → mkOk f nv wk j = true) → miR e' f i k ms = miR e f i k ms
  | 0, _, _, _ => rfl
  | k + 1, i, ms, ho => by
    obtain ⟨v, w, h1, h2, h3, h4⟩ := mkV (ho i (by omega) (by omega)) hv hw
    have eq : ∀ ms, miR e' f (i + 1) k ms = miR e f (i + 1) k ms := fun ms => miR_c hv hw h k (i + 1) ms (fun j a b => ho j (by omega) (by omega))
    rw [miR, miR, eq, eq, h3, h4, tcl_nI (by omega), tcl_nI (by omega), h v w h1 h2]
theorem div3 : ∀ i, i < 21 → nI (3 * i) / 3 = nI i := by decide
theorem sameQ.run {c : CT} {k : Nat} : sameQ c (runF (leadF c k)) := fun l hl => (runF_P (c := leadF c k) l (by omega)).trans (leadF_l (by omega))
theorem lead_Q {c c' : CT} (h : sameQ c c') (k : Nat) : EqY (leadF c k) (leadF c' k) := lead_Y (EqP.of_same (fun l hl => h l (by omega))) k
theorem IX.ld {c : CT} {nv nc nf nl wk : Nat} (h : IX c nv nc nf nl wk) (k : Nat) : IX (leadF c k) nv nc nf nl wk := h.to (fun l hl => leadF_l (by omega))
theorem c_goBy (G : GX) {b : Nat} {c : CT} {co : Nat → Nat → Option Nat} {r : Nat → Option AE} {n : Nat} {nv nc nf nl wk : Nat} {k : Nat} (hI : IX c nv nc nf nl wk) (hk9 : k < 343) : MA G 5 yX9_goThroughYearBy cX9_goThroughYearBy 2 none 0 0 [.ref b, .int (nI k)] (HC b c co r n) (qV fun h1 => h1 = HC b (runF (leadF c k)) co r n) := by
  refine MA.of (own := RX9) false [some (.ref b), some (.int (nI k))] (by decide +kernel) rfl (fun h => by cases h) (Nat.le_of_ble_eq_true rfl) rfl (fun X => ?_)
  refine A_aload_n dX9_goThroughYearBy_0 rfl rfl ?_
  refine A_get dX9_goThroughYearBy_1 f_X9_59 HC_at0 rfl ?_
  refine A_iload_n dX9_goThroughYearBy_4 rfl rfl ?_
  refine A_callVv dX9_goThroughYearBy_5 m_X9_298 cb_X1_lead (As := [_]) rfl (HC_at (by decide)) rfl (c_lead G hI hk9) rfl ⟨by decide, by decide⟩ (Nat.le_of_ble_eq_true rfl) ⟨by decide, by decide⟩ (fun h5 hq => ?_)
  obtain rfl := hq
  have hI2 := hI.ld k
  have hT2 := TX_lead hI k
  obtain ⟨y, ey⟩ : ∃ y, leadF c k = y := ⟨_, rfl⟩
  rw [ey] at hI2 hT2 ⊢
  refine A_aload_n dX9_goThroughYearBy_8 rfl rfl ?_
  refine A_get dX9_goThroughYearBy_9 f_X9_50 HC_at0 rfl ?_
  refine A_callVv dX9_goThroughYearBy_12 m_X9_156 cb_X8_run (As := []) rfl (HC_at (by decide)) rfl (c_run G hI2 hT2) rfl ⟨by decide, by decide⟩ (Nat.le_of_ble_eq_true rfl) ⟨by decide, by decide⟩ (fun h12 hq => ?_)
  obtain rfl := hq
  exact A_vret dX9_goThroughYearBy_15 rfl ⟨by decide, by decide⟩

theorem missed_w (G : GX) (X : XC) {b : Nat} {c : CT} {co : Nat → Nat → Option Nat} {r : Nat → Option AE} {n : Nat} {s nv wk : Nat} {T : Int32} {a q m K : Nat} {w : Int32} {f : Nat → Int64} (ha : r a = some (ob 5 [.ref q, .int w, .int (nI m)])) (hq : r q = some (aJ 60 f)) (hm : m ≤ 60) (oa : ¬ (b ≤ a ∧ a < b + 55)) (oq : ¬ (b ≤ q ∧ q < b + 55)) (hK : m = 3 * K) (hok : ∀ j, j < K → mkOk f nv wk j = true) (hv6 : nv ≤ 6) (hw30 : wk ≤ 30) (hT0 : miR (c 31) f 0 K (-1) = T) : WA X G RX9 cX9_missed false (some .int) (qI fun x h1 => x = T ∧ h1 = HC b c co r n) 2 0 0 (HC b c co r n) 0 0 17 [some (.ref b), some (.int (nI s)), some (.ref a), some (.int (-1)), some (.int 0), none, none] [] := by
  have loop : ∀ (k i : Nat) (ms : Int32), i + k = K → (miR (c 31) f i k ms = T) → WA X G RX9 cX9_missed false (some .int) (qI fun x h1 => x = T ∧ h1 = HC b c co r n) 2 0 0 (HC b c co r n) 0 0 17 [some (.ref b), some (.int (nI s)), some (.ref a), some (.int ms), some (.int (nI (3 * i))), none, none] [] := by
    intro k
    induction k with
    | zero =>
      intro i ms hk hT
      refine A_iload dX9_missed_17 rfl ?_
      refine A_aload_n dX9_missed_19 rfl rfl ?_
      refine A_get dX9_missed_20 f_X9_294 ((HC_out oa).trans ha) rfl ?_
      refine A_icmp_ge 89 dX9_missed_23 (by decide) (fun c23 => ?_) (fun c23 => ?_)
      · refine A_iload_n dX9_missed_89 rfl rfl ?_
        exact A_iret dX9_missed_90 ⟨by rw [← hT]; rfl, rfl⟩ ⟨by decide, by decide⟩
      · exact absurd (nI_le (by omega) (by omega)) c23
    | succ k ih =>
      intro i ms hk hT
      have hi : i < K := by omega
      obtain ⟨v, w2, hv2, hw2, e1, e2⟩ := mkV (hok i hi) hv6 hw30
      have eM : miR (c 31) f i (k + 1) ms = if f (3 * i + 2) = (c 31 (v * 30 + w2)).toInt64 then miR (c 31) f (i + 1) k ms else if ms = -1 then miR (c 31) f (i + 1) k (nI i) else 99 := by rw [miR, e1, e2, tcl_nI (by omega), tcl_nI (by omega)]
      refine A_iload dX9_missed_17 rfl ?_
      refine A_aload_n dX9_missed_19 rfl rfl ?_
      refine A_get dX9_missed_20 f_X9_294 ((HC_out oa).trans ha) rfl ?_
      refine A_icmp_ge 89 dX9_missed_23 (by decide) (fun c23 => ?_) (fun c23 => ?_)
      · exact absurd c23 (nI_ge (by omega) (by omega))
      · refine A_aload_n dX9_missed_26 rfl rfl ?_
        refine A_iload dX9_missed_27 rfl ?_
        refine A_callVl dX9_missed_29 m_X9_295 cb_X5_number (As := [_]) rfl ((HC_out oa).trans ha) rfl (c_number G ((HC_out oa).trans ha) ((HC_out oq).trans hq) rfl hm) rfl ⟨by decide, by decide⟩ (Nat.le_of_ble_eq_true rfl) ⟨by decide, by decide⟩ (fun x29 h29 hq => ?_)
        obtain ⟨rfl, rfl⟩ := hq
        refine A_eqL (numF_in (by omega) hm) ?_
        refine A_l2i dX9_missed_32 ?_
        refine A_eqI e1 ?_
        refine A_istore (lv1 := [_, _, _, _, _, _, _]) dX9_missed_33 (Nat.le_of_ble_eq_true rfl) rfl rfl ?_
        refine A_aload_n dX9_missed_35 rfl rfl ?_
        refine A_iload dX9_missed_36 rfl ?_
        refine A_iconst (v := 1) dX9_missed_38 (by decide) ?_
        refine A_iadd dX9_missed_39 ?_
        rw [nI_1]
        refine A_callVl dX9_missed_40 m_X9_295 cb_X5_number (As := [_]) rfl ((HC_out oa).trans ha) rfl (c_number G ((HC_out oa).trans ha) ((HC_out oq).trans hq) rfl hm) rfl ⟨by decide, by decide⟩ (Nat.le_of_ble_eq_true rfl) ⟨by decide, by decide⟩ (fun x40 h40 hq => ?_)
        obtain ⟨rfl, rfl⟩ := hq
        refine A_eqL (numF_in (by omega) hm) ?_
        refine A_l2i dX9_missed_43 ?_
        refine A_eqI e2 ?_
        refine A_istore (lv1 := [_, _, _, _, _, _, _]) dX9_missed_44 (Nat.le_of_ble_eq_true rfl) rfl rfl ?_
        refine A_aload_n dX9_missed_46 rfl rfl ?_
        refine A_iload dX9_missed_47 rfl ?_
        refine A_iconst (v := 2) dX9_missed_49 (by decide) ?_
        refine A_iadd dX9_missed_50 ?_
        rw [show nI (3 * i) + 2 = nI (3 * i + 2) from by rw [show (2 : Int32) = nI 2 from rfl, nI_add]]
        refine A_callVl dX9_missed_51 m_X9_295 cb_X5_number (As := [_]) rfl ((HC_out oa).trans ha) rfl (c_number G ((HC_out oa).trans ha) ((HC_out oq).trans hq) rfl hm) rfl ⟨by decide, by decide⟩ (Nat.le_of_ble_eq_true rfl) ⟨by decide, by decide⟩ (fun x51 h51 hq => ?_)
        obtain ⟨rfl, rfl⟩ := hq
        refine A_eqL (numF_in (by omega) hm) ?_
        refine A_aload_n dX9_missed_54 rfl rfl ?_
        refine A_get dX9_missed_55 f_X9_50 HC_at0 rfl ?_
        refine A_iload dX9_missed_58 rfl ?_
        refine A_iload dX9_missed_60 rfl ?_
        refine A_callVi dX9_missed_62 m_X9_165 cb_X8_waterBehind (As := [_, _]) rfl (HC_at (by decide)) rfl (c_waterBehind G (by omega) (by omega)) rfl ⟨by decide, by decide⟩ (Nat.le_of_ble_eq_true rfl) ⟨by decide, by decide⟩ (fun x62 h62 hq => ?_)
        obtain ⟨rfl, rfl⟩ := hq
        refine A_i2l dX9_missed_65 ?_
        refine A_lcmp dX9_missed_66 ?_
        refine A_if_eq 83 dX9_missed_67 (by decide) (fun c67 => ?_) (fun c67 => ?_)
        · refine A_inc 3 (lv1 := [_, _, _, _, _, _, _]) dX9_missed_83 rfl (by decide) rfl rfl ?_
          refine A_goto 17 dX9_missed_86 (by decide) ?_
          refine A_fg 5 (lv1 := [_, _, _, _, _, _, _]) rfl ?_
          refine A_fg 6 (lv1 := [_, _, _, _, _, _, _]) rfl ?_
          rw [nI_3]
          exact ih (i + 1) _ (by omega) (by rw [← hT, eM, if_pos ((lgc_eq _ _).mp c67)])
        · refine A_iload_n dX9_missed_70 rfl rfl ?_
          refine A_iconst (v := (-1)) dX9_missed_71 (by decide) ?_
          refine A_icmp_eq 78 dX9_missed_72 (by decide) (fun c72 => ?_) (fun c72 => ?_)
          · refine A_iload dX9_missed_78 rfl ?_
            refine A_iconst (v := 3) dX9_missed_80 (by decide) ?_
            refine A_idiv dX9_missed_81 (by decide) ?_
            refine A_eqI (div3 i (by omega)) ?_
            refine A_istore_n (lv1 := [_, _, _, _, _, _, _]) dX9_missed_82 rfl (Nat.le_of_ble_eq_true rfl) rfl rfl ?_
            refine A_inc 3 (lv1 := [_, _, _, _, _, _, _]) dX9_missed_83 rfl (by decide) rfl rfl ?_
            refine A_goto 17 dX9_missed_86 (by decide) ?_
            refine A_fg 5 (lv1 := [_, _, _, _, _, _, _]) rfl ?_
            refine A_fg 6 (lv1 := [_, _, _, _, _, _, _]) rfl ?_
            rw [nI_3]
            exact ih (i + 1) _ (by omega) (by rw [← hT, eM, if_neg (fun z => c67 ((lgc_eq _ _).mpr z)), if_pos c72])
          · refine A_bipush (v := 99) dX9_missed_75 (by decide) ?_
            exact A_iret dX9_missed_77 ⟨by rw [← hT, eM, if_neg (fun z => c67 ((lgc_eq _ _).mpr z)), if_neg c72], rfl⟩ ⟨by decide, by decide⟩
  exact loop K 0 _ (by omega) hT0
theorem c_missed (G : GX) {b : Nat} {c : CT} {co : Nat → Nat → Option Nat} {r : Nat → Option AE} {n : Nat} {s nv wk : Nat} {a q m K : Nat} {w : Int32} {f : Nat → Int64} (hs4 : s < 4) (hco : co 27 s = some a) (ha : r a = some (ob 5 [.ref q, .int w, .int (nI m)])) (hq : r q = some (aJ 60 f)) (hm : m ≤ 60) (oa : ¬ (b ≤ a ∧ a < b + 55)) (oq : ¬ (b ≤ q ∧ q < b + 55)) (hK : m = 3 * K) (hok : ∀ j, j < K → mkOk f nv wk j = true) (hv6 : nv ≤ 6) (hw30 : wk ≤ 30) : MA G 2 yX9_missed cX9_missed 7 (some .int) 0 0 [.ref b, .int (nI s)] (HC b c co r n) (qI fun x h1 => x = miR (c 31) f 0 K (-1) ∧ h1 = HC b c co r n) := by
  refine MA.of (own := RX9) false [some (.ref b), some (.int (nI s)), none, none, none, none, none] (by decide +kernel) rfl (fun h => by cases h) (Nat.le_of_ble_eq_true rfl) rfl (fun X => ?_)
  refine A_aload_n dX9_missed_0 rfl rfl ?_
  refine A_iload_n dX9_missed_1 rfl rfl ?_
  refine A_callVo dX9_missed_2 m_X9_290 cb_X9_slotAt (As := [_]) rfl HC_at0 rfl (c_slotAt G hs4) rfl ⟨by decide, by decide⟩ (Nat.le_of_ble_eq_true rfl) ⟨by decide, by decide⟩ (fun x2 h2 hq => ?_)
  obtain ⟨rfl, rfl⟩ := hq
  rw [hco]
  refine A_astore_n (lv1 := [_, _, _, _, _, _, _]) dX9_missed_5 rfl (Nat.le_of_ble_eq_true rfl) rfl rfl ?_
  refine A_aload_n dX9_missed_6 rfl rfl ?_
  refine A_ifnonnull 12 dX9_missed_7 (by decide) ?_
  refine A_iconst (v := (-1)) dX9_missed_12 (by decide) ?_
  refine A_istore_n (lv1 := [_, _, _, _, _, _, _]) dX9_missed_13 rfl (Nat.le_of_ble_eq_true rfl) rfl rfl ?_
  refine A_iconst (v := 0) dX9_missed_14 (by decide) ?_
  refine A_istore (lv1 := [_, _, _, _, _, _, _]) dX9_missed_15 (Nat.le_of_ble_eq_true rfl) rfl rfl ?_
  exact missed_w G X ha hq hm oa oq hK hok hv6 hw30 rfl
