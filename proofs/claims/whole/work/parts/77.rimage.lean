/-! THE REFERENCE: images, feed -/
theorem k_image (G : GX) {b : Nat} {m : CT} {ml : Nat → Nat → Int64} {r : Nat → Option AE} {n : Nat} {v : Int32} : MA G 1 yX10_image cX10_image 3 (some .int) 0 0 [.ref b, .int v] (HM b m ml r n) (qI fun x9 h1 => if inI v 3 = 0 then x9 = -2 ∧ h1 = HM b m ml r n else x9 = 0 ∧ h1 = HM b (put (st1 m 2 (fun j => if 160 * tcl v ≤ j ∧ j < 160 * tcl v + 160 then m 1 (j - 160 * tcl v) else m 2 j)) 3 (tcl v) 1) ml r n) := by
  refine MA.of (own := RX10) false [some (.ref b), some (.int v), none] (by decide +kernel) rfl (fun h => by cases h) (Nat.le_of_ble_eq_true rfl) rfl (fun X => ?_)
  refine A_iload_n dX10_image_0 rfl rfl ?_
  refine A_i2l dX10_image_1 ?_
  refine A_lconst (v := 0) dX10_image_2 (by decide) ?_
  refine A_ldc2 dX10_image_3 w_1291 ?_
  refine A_callSi dX10_image_6 m_X10_85 cb_X10_in (As := [_, _, _]) rfl (k_in G) rfl ⟨by decide, by decide⟩ (Nat.le_of_ble_eq_true rfl) ⟨by decide, by decide⟩ (fun x6 h6 hq => ?_)
  obtain ⟨rfl, rfl⟩ := hq
  refine A_eqI (inL_n 2 (by decide) (by decide)) ?_
  refine A_if_ne 15 dX10_image_9 (by decide) (fun c9 => ?_) (fun c9 => ?_)
  · obtain ⟨k, hk3, rfl⟩ := inI_of rfl c9 (by decide)
    have eQ : (qI fun x9 h1 => if inI (nI k) 3 = 0 then x9 = -2 ∧ h1 = HM b m ml r n else x9 = 0 ∧ h1 = HM b (put (st1 m 2 (fun j => if 160 * tcl (nI k) ≤ j ∧ j < 160 * tcl (nI k) + 160 then m 1 (j - 160 * tcl (nI k)) else m 2 j)) 3 (tcl (nI k)) 1) ml r n) = (qI fun x9 h1 => x9 = 0 ∧ h1 = HM b (put (st1 m 2 (fun j => if 160 * k ≤ j ∧ j < 160 * k + 160 then m 1 (j - 160 * k) else m 2 j)) 3 k 1) ml r n) := by
      congr 1; funext x9 h1; rw [if_neg (show ¬ inI (nI k) 3 = 0 from c9), tcl_nI (by omega)]
    rw [eQ]
    refine A_iconst (v := 0) dX10_image_15 (by decide) ?_
    refine A_istore_n (lv1 := [_, _, _]) dX10_image_16 rfl (Nat.le_of_ble_eq_true rfl) rfl rfl ?_
    have loop : ∀ (q i : Nat) (g : Nat → Int32), i + q = 160 → (∀ j, g j = if 160 * k ≤ j ∧ j < 160 * k + i then m 1 (j - 160 * k) else m 2 j) → WA X G RX10 cX10_image false (some .int) (qI fun x9 h1 => x9 = 0 ∧ h1 = HM b (put (st1 m 2 (fun j => if 160 * k ≤ j ∧ j < 160 * k + 160 then m 1 (j - 160 * k) else m 2 j)) 3 k 1) ml r n) 1 0 0 (HM b (st1 m 2 g) ml r n) 0 0 17 [some (.ref b), some (.int (nI k)), some (.int (nI i))] [] := by
      intro q
      induction q with
      | zero =>
        intro i g hk hg
        have e9 : i = 160 := by omega
        subst e9
        have eg : g = (fun j => if 160 * k ≤ j ∧ j < 160 * k + 160 then m 1 (j - 160 * k) else m 2 j) := funext hg
        subst eg
        refine A_iload_n dX10_image_17 rfl rfl ?_
        refine A_sipush (v := 160) dX10_image_18 (by decide) ?_
        refine A_icmp_ge 48 dX10_image_21 (by decide) (fun c21 => ?_) (fun c21 => ?_)
        · refine A_aload_n dX10_image_48 rfl rfl ?_
          refine A_get dX10_image_49 f_X10_16 HM_at0 rfl ?_
          refine A_iload_n dX10_image_52 rfl rfl ?_
          refine A_iconst (v := 1) dX10_image_53 (by decide) ?_
          refine A_zastMK (i := k) dX10_image_54 (by decide) (fun _ => rfl) rfl (by omega) (by decide) ?_
          refine A_iconst (v := 0) dX10_image_55 (by decide) ?_
          exact A_iret dX10_image_56 ⟨rfl, by rw [show vp_nar .boolean 1 = 1 from rfl]⟩ ⟨by decide, by decide⟩
        · exact absurd (by decide) c21
      | succ q ih =>
        intro i g hk hg
        refine A_iload_n dX10_image_17 rfl rfl ?_
        refine A_sipush (v := 160) dX10_image_18 (by decide) ?_
        refine A_icmp_ge 48 dX10_image_21 (by decide) (fun c21 => ?_) (fun c21 => ?_)
        · exact absurd c21 (nI_ge (b := 160) (by omega) (by decide))
        · refine A_aload_n dX10_image_24 rfl rfl ?_
          refine A_get dX10_image_25 f_X10_13 HM_at0 rfl ?_
          refine A_sipush (v := 160) dX10_image_28 (by decide) ?_
          refine A_iload_n dX10_image_31 rfl rfl ?_
          refine A_imul dX10_image_32 ?_
          refine A_iload_n dX10_image_33 rfl rfl ?_
          refine A_iadd dX10_image_34 ?_
          refine A_aload_n dX10_image_35 rfl rfl ?_
          refine A_get dX10_image_36 f_X10_9 HM_at0 rfl ?_
          refine A_iload_n dX10_image_39 rfl rfl ?_
          refine A_ialdK (i := i) dX10_image_40 (HM_at (by decide)) rfl (by omega) (by decide) ?_
          refine A_iastMK (i := ((160 * k) + i)) dX10_image_41 (by decide) (fun _ => rfl) (ixA (ixU rfl rfl) rfl) (by omega) (by decide) ?_
          refine A_inc 1 (lv1 := [_, _, _]) dX10_image_42 rfl (by decide) rfl rfl ?_
          refine A_goto 17 dX10_image_45 (by decide) ?_
          rw [nI_1]
          rw [st1M, st1_ne (by decide)]
          exact ih (i + 1) _ (by omega) (fun j => by by_cases e : j = 160 * k + i; (subst e; rw [pk_us, if_pos (by omega), Nat.add_sub_cancel_left]); (rw [pk_un e, hg j]; by_cases e2 : 160 * k ≤ j ∧ j < 160 * k + i; (rw [if_pos e2, if_pos (by omega)]); (rw [if_neg e2, if_neg (by omega)])))
    rw [show HM b m ml r n = HM b (st1 m 2 (m 2)) ml r n by rw [st1_self]]
    exact loop 160 0 (m 2) (by omega) (fun j => by rw [if_neg (by omega)])
  · refine A_bipush (v := (-2)) dX10_image_12 (by decide) ?_
    exact A_iret dX10_image_14 (show if inI v 3 = 0 then _ else _ by rw [if_pos (show inI v 3 = 0 from c9)]; exact ⟨rfl, rfl⟩) ⟨by decide, by decide⟩

theorem k_restore (G : GX) {b : Nat} {m : CT} {ml : Nat → Nat → Int64} {r : Nat → Option AE} {n : Nat} {v : Int32} : MA G 1 yX10_restore cX10_restore 3 (some .int) 0 0 [.ref b, .int v] (HM b m ml r n) (qI fun x9 h1 => if inI v 3 = 0 then x9 = -2 ∧ h1 = HM b m ml r n else if m 3 (tcl v) = 0 then x9 = -6 ∧ h1 = HM b m ml r n else x9 = 0 ∧ h1 = HM b (st1 m 1 (fun j => if j < 160 then m 2 (160 * tcl v + j) else m 1 j)) ml r n) := by
  refine MA.of (own := RX10) false [some (.ref b), some (.int v), none] (by decide +kernel) rfl (fun h => by cases h) (Nat.le_of_ble_eq_true rfl) rfl (fun X => ?_)
  refine A_iload_n dX10_restore_0 rfl rfl ?_
  refine A_i2l dX10_restore_1 ?_
  refine A_lconst (v := 0) dX10_restore_2 (by decide) ?_
  refine A_ldc2 dX10_restore_3 w_1291 ?_
  refine A_callSi dX10_restore_6 m_X10_85 cb_X10_in (As := [_, _, _]) rfl (k_in G) rfl ⟨by decide, by decide⟩ (Nat.le_of_ble_eq_true rfl) ⟨by decide, by decide⟩ (fun x6 h6 hq => ?_)
  obtain ⟨rfl, rfl⟩ := hq
  refine A_eqI (inL_n 2 (by decide) (by decide)) ?_
  refine A_if_ne 15 dX10_restore_9 (by decide) (fun c9 => ?_) (fun c9 => ?_)
  · obtain ⟨k, hk3, rfl⟩ := inI_of rfl c9 (by decide)
    refine A_aload_n dX10_restore_15 rfl rfl ?_
    refine A_get dX10_restore_16 f_X10_16 HM_at0 rfl ?_
    refine A_iload_n dX10_restore_19 rfl rfl ?_
    refine A_zaldK (i := k) dX10_restore_20 (HM_at (by decide)) rfl (by omega) (by decide) ?_
    refine A_if_ne 27 dX10_restore_21 (by decide) (fun c21 => ?_) (fun c21 => ?_)
    · have eQ : (qI fun x9 h1 => if inI (nI k) 3 = 0 then x9 = -2 ∧ h1 = HM b m ml r n else if m 3 (tcl (nI k)) = 0 then x9 = -6 ∧ h1 = HM b m ml r n else x9 = 0 ∧ h1 = HM b (st1 m 1 (fun j => if j < 160 then m 2 (160 * tcl (nI k) + j) else m 1 j)) ml r n) = (qI fun x9 h1 => x9 = 0 ∧ h1 = HM b (st1 m 1 (fun j => if j < 160 then m 2 (160 * k + j) else m 1 j)) ml r n) := by
        congr 1; funext x9 h1; rw [if_neg (show ¬ inI (nI k) 3 = 0 from c9), tcl_nI (by omega), if_neg c21]
      rw [eQ]
      refine A_iconst (v := 0) dX10_restore_27 (by decide) ?_
      refine A_istore_n (lv1 := [_, _, _]) dX10_restore_28 rfl (Nat.le_of_ble_eq_true rfl) rfl rfl ?_
      have loop : ∀ (q i : Nat) (g : Nat → Int32), i + q = 160 → (∀ j, g j = if j < i then m 2 (160 * k + j) else m 1 j) → WA X G RX10 cX10_restore false (some .int) (qI fun x9 h1 => x9 = 0 ∧ h1 = HM b (st1 m 1 (fun j => if j < 160 then m 2 (160 * k + j) else m 1 j)) ml r n) 1 0 0 (HM b (st1 m 1 g) ml r n) 0 0 29 [some (.ref b), some (.int (nI k)), some (.int (nI i))] [] := by
        intro q
        induction q with
        | zero =>
          intro i g hk hg
          have e9 : i = 160 := by omega
          subst e9
          have eg : g = (fun j => if j < 160 then m 2 (160 * k + j) else m 1 j) := funext hg
          subst eg
          refine A_iload_n dX10_restore_29 rfl rfl ?_
          refine A_sipush (v := 160) dX10_restore_30 (by decide) ?_
          refine A_icmp_ge 60 dX10_restore_33 (by decide) (fun c33 => ?_) (fun c33 => ?_)
          · refine A_iconst (v := 0) dX10_restore_60 (by decide) ?_
            exact A_iret dX10_restore_61 ⟨rfl, rfl⟩ ⟨by decide, by decide⟩
          · exact absurd (by decide) c33
        | succ q ih =>
          intro i g hk hg
          refine A_iload_n dX10_restore_29 rfl rfl ?_
          refine A_sipush (v := 160) dX10_restore_30 (by decide) ?_
          refine A_icmp_ge 60 dX10_restore_33 (by decide) (fun c33 => ?_) (fun c33 => ?_)
          · exact absurd c33 (nI_ge (b := 160) (by omega) (by decide))
          · refine A_aload_n dX10_restore_36 rfl rfl ?_
            refine A_get dX10_restore_37 f_X10_9 HM_at0 rfl ?_
            refine A_iload_n dX10_restore_40 rfl rfl ?_
            refine A_aload_n dX10_restore_41 rfl rfl ?_
            refine A_get dX10_restore_42 f_X10_13 HM_at0 rfl ?_
            refine A_sipush (v := 160) dX10_restore_45 (by decide) ?_
            refine A_iload_n dX10_restore_48 rfl rfl ?_
            refine A_imul dX10_restore_49 ?_
            refine A_iload_n dX10_restore_50 rfl rfl ?_
            refine A_iadd dX10_restore_51 ?_
            refine A_ialdK (i := ((160 * k) + i)) dX10_restore_52 (HM_at (by decide)) (ixA (ixU rfl rfl) rfl) (by omega) (by decide) ?_
            refine A_iastMK (i := i) dX10_restore_53 (by decide) (fun _ => rfl) rfl (by omega) (by decide) ?_
            refine A_inc 1 (lv1 := [_, _, _]) dX10_restore_54 rfl (by decide) rfl rfl ?_
            refine A_goto 29 dX10_restore_57 (by decide) ?_
            rw [nI_1]
            rw [st1M, st1_ne (by decide)]
            exact ih (i + 1) _ (by omega) (fun j => by by_cases e : j = i; (subst e; rw [pk_us, if_pos (by omega)]); (rw [pk_un e, hg j]; by_cases e2 : j < i; (rw [if_pos e2, if_pos (by omega)]); (rw [if_neg e2, if_neg (by omega)])))
      rw [show HM b m ml r n = HM b (st1 m 1 (m 1)) ml r n by rw [st1_self]]
      exact loop 160 0 (m 1) (by omega) (fun j => by rw [if_neg (by omega)])
    · have eQ : (qI fun x9 h1 => if inI (nI k) 3 = 0 then x9 = -2 ∧ h1 = HM b m ml r n else if m 3 (tcl (nI k)) = 0 then x9 = -6 ∧ h1 = HM b m ml r n else x9 = 0 ∧ h1 = HM b (st1 m 1 (fun j => if j < 160 then m 2 (160 * tcl (nI k) + j) else m 1 j)) ml r n) = (qI fun x9 h1 => x9 = -6 ∧ h1 = HM b m ml r n) := by
        congr 1; funext x9 h1; rw [if_neg (show ¬ inI (nI k) 3 = 0 from c9), tcl_nI (by omega), if_pos c21]
      rw [eQ]
      refine A_bipush (v := (-6)) dX10_restore_24 (by decide) ?_
      exact A_iret dX10_restore_26 ⟨rfl, rfl⟩ ⟨by decide, by decide⟩
  · refine A_bipush (v := (-2)) dX10_restore_12 (by decide) ?_
    exact A_iret dX10_restore_14 (show if inI v 3 = 0 then _ else _ by rw [if_pos (show inI v 3 = 0 from c9)]; exact ⟨rfl, rfl⟩) ⟨by decide, by decide⟩

def fv (a1 a2 a3 a4 a5 : Int32) : Nat → Int32
  | 0 => a1
  | 1 => a2
  | 2 => a3
  | 3 => a4
  | _ => a5
def fdB (a1 a2 a3 a4 a5 : Int32) (q : Nat) : Int32 := bsF (fv a1 a2 a3 a4 a5 (q / 4)) (nI (24 - 8 * (q % 4)))
theorem five_e {m : CT} {a1 a2 a3 a4 a5 : Int32} {q : Nat} (hq : q < 5) : (put (put (put (put (put m 5 0 a1) 5 1 a2) 5 2 a3) 5 3 a4) 5 4 a5) 5 q = fv a1 a2 a3 a4 a5 q := by
  match q, hq with
  | 0, _ => simp [put, fv]
  | 1, _ => simp [put, fv]
  | 2, _ => simp [put, fv]
  | 3, _ => simp [put, fv]
  | 4, _ => simp [put, fv]
theorem k_feed (G : GX) {b : Nat} {m : CT} {ml : Nat → Nat → Int64} {r : Nat → Option AE} {n : Nat} {L : Nat} {a1 a2 a3 a4 a5 : Int32} (hL : m 0 5 = nI L) (hL2 : L ≤ 1600) : MA G 0 yX10_feed cX10_feed 7 (some .int) 0 0 [.ref b, .int a1, .int a2, .int a3, .int a4, .int a5] (HM b m ml r n) (qI fun x9 h1 => if 1600 < nI L + 20 then x9 = -1 ∧ h1 = HM b m ml r n else x9 = nI (L + 20) ∧ ∃ m1, h1 = HM b m1 ml r n ∧ (∀ l, l ≠ 0 → l ≠ 4 → l ≠ 5 → m1 l = m l) ∧ m1 0 = (put m 0 5 (nI (L + 20))) 0 ∧ ∀ j, m1 4 j = if L ≤ j ∧ j < L + 20 then fdB a1 a2 a3 a4 a5 (j - L) else m 4 j) := by
  refine MA.of (own := RX10) false [some (.ref b), some (.int a1), some (.int a2), some (.int a3), some (.int a4), some (.int a5), none] (by decide +kernel) rfl (fun h => by cases h) (Nat.le_of_ble_eq_true rfl) rfl (fun X => ?_)
  refine A_aload_n dX10_feed_0 rfl rfl ?_
  refine A_get dX10_feed_1 f_X10_97 HM_at0 rfl ?_
  refine A_eqI hL ?_
  refine A_bipush (v := 20) dX10_feed_4 (by decide) ?_
  refine A_iadd dX10_feed_6 ?_
  refine A_sipush (v := 1600) dX10_feed_7 (by decide) ?_
  refine A_icmp_le 15 dX10_feed_10 (by decide) (fun c10 => ?_) (fun c10 => ?_)
  · have c9 : ¬ (1600 : Int32) < nI L + 20 := Int32.not_lt.mpr c10
    have hL20 : L + 20 ≤ 1600 := by
      rw [show nI L + 20 = nI (L + 20) from nI_add L 20] at c10
      have e := Int32.le_iff_toInt_le.mp c10
      rw [nI_toInt (by omega)] at e
      have : (1600 : Int32).toInt = 1600 := rfl
      omega
    simp only [if_neg c9]
    refine A_aload_n dX10_feed_15 rfl rfl ?_
    refine A_get dX10_feed_16 f_X10_24 HM_at0 rfl ?_
    refine A_iconst (v := 0) dX10_feed_19 (by decide) ?_
    refine A_iload_n dX10_feed_20 rfl rfl ?_
    refine A_iastMK (i := 0) dX10_feed_21 (by decide) (fun _ => rfl) rfl (by omega) (by decide) ?_
    refine A_aload_n dX10_feed_22 rfl rfl ?_
    refine A_get dX10_feed_23 f_X10_24 HM_at0 rfl ?_
    refine A_iconst (v := 1) dX10_feed_26 (by decide) ?_
    refine A_iload_n dX10_feed_27 rfl rfl ?_
    refine A_iastMK (i := 1) dX10_feed_28 (by decide) (fun _ => rfl) rfl (by omega) (by decide) ?_
    refine A_aload_n dX10_feed_29 rfl rfl ?_
    refine A_get dX10_feed_30 f_X10_24 HM_at0 rfl ?_
    refine A_iconst (v := 2) dX10_feed_33 (by decide) ?_
    refine A_iload_n dX10_feed_34 rfl rfl ?_
    refine A_iastMK (i := 2) dX10_feed_35 (by decide) (fun _ => rfl) rfl (by omega) (by decide) ?_
    refine A_aload_n dX10_feed_36 rfl rfl ?_
    refine A_get dX10_feed_37 f_X10_24 HM_at0 rfl ?_
    refine A_iconst (v := 3) dX10_feed_40 (by decide) ?_
    refine A_iload dX10_feed_41 rfl ?_
    refine A_iastMK (i := 3) dX10_feed_43 (by decide) (fun _ => rfl) rfl (by omega) (by decide) ?_
    refine A_aload_n dX10_feed_44 rfl rfl ?_
    refine A_get dX10_feed_45 f_X10_24 HM_at0 rfl ?_
    refine A_iconst (v := 4) dX10_feed_48 (by decide) ?_
    refine A_iload dX10_feed_49 rfl ?_
    refine A_iastMK (i := 4) dX10_feed_51 (by decide) (fun _ => rfl) rfl (by omega) (by decide) ?_
    refine A_iconst (v := 0) dX10_feed_52 (by decide) ?_
    refine A_istore (lv1 := [_, _, _, _, _, _, _]) dX10_feed_53 (Nat.le_of_ble_eq_true rfl) rfl rfl ?_
    have loop : ∀ (q i : Nat) (m' : CT), i + q = 20 → (∀ l, l ≠ 4 → l ≠ 5 → m' l = m l) → (∀ q, q < 5 → m' 5 q = fv a1 a2 a3 a4 a5 q) → (∀ j, m' 4 j = if L ≤ j ∧ j < L + i then fdB a1 a2 a3 a4 a5 (j - L) else m 4 j) → WA X G RX10 cX10_feed false (some .int) (qI fun x9 h1 => x9 = nI (L + 20) ∧ ∃ m1, h1 = HM b m1 ml r n ∧ (∀ l, l ≠ 0 → l ≠ 4 → l ≠ 5 → m1 l = m l) ∧ m1 0 = (put m 0 5 (nI (L + 20))) 0 ∧ ∀ j, m1 4 j = if L ≤ j ∧ j < L + 20 then fdB a1 a2 a3 a4 a5 (j - L) else m 4 j) 0 0 0 (HM b m' ml r n) 0 0 55 [some (.ref b), some (.int a1), some (.int a2), some (.int a3), some (.int a4), some (.int a5), some (.int (nI i))] [] := by
      intro q
      induction q with
      | zero =>
        intro i m' hk hl h5 h4
        have h0 : m' 0 5 = nI L := by rw [hl 0 (by decide) (by decide)]; exact hL
        have e9 : i = 20 := by omega
        subst e9
        refine A_iload dX10_feed_55 rfl ?_
        refine A_bipush (v := 20) dX10_feed_57 (by decide) ?_
        refine A_icmp_ge 101 dX10_feed_59 (by decide) (fun c59 => ?_) (fun c59 => ?_)
        · refine A_aload_n dX10_feed_101 rfl rfl ?_
          refine A_dup dX10_feed_102 rfl ?_
          refine A_get dX10_feed_103 f_X10_97 HM_at0 rfl ?_
          refine A_bipush (v := 20) dX10_feed_106 (by decide) ?_
          refine A_iadd dX10_feed_108 ?_
          refine A_eqI (y := nI (L + 20)) (by rw [h0]; exact nI_add L 20) ?_
          refine A_putM0 dX10_feed_109 p_X10_97 rfl (Nat.le_of_ble_eq_true rfl) rfl ?_
          refine A_aload_n dX10_feed_112 rfl rfl ?_
          refine A_get dX10_feed_113 f_X10_97 HM_at0 rfl ?_
          exact A_iret dX10_feed_116 ⟨put_at, _, rfl, fun l q0 q4 q5 => (put_ne q0).trans (hl l q4 q5), by rw [show put m' 0 5 (nI (L + 20)) 0 = put m 0 5 (nI (L + 20)) 0 from by funext j; simp only [put]; rw [hl 0 (by decide) (by decide)]], fun j => by rw [put_ne (by decide)]; exact h4 j⟩ ⟨by decide, by decide⟩
        · exact absurd (by decide) c59
      | succ q ih =>
        intro i m' hk hl h5 h4
        have h0 : m' 0 5 = nI L := by rw [hl 0 (by decide) (by decide)]; exact hL
        have hi : i < 20 := by omega
        refine A_iload dX10_feed_55 rfl ?_
        refine A_bipush (v := 20) dX10_feed_57 (by decide) ?_
        refine A_icmp_ge 101 dX10_feed_59 (by decide) (fun c59 => ?_) (fun c59 => ?_)
        · exact absurd c59 (nI_ge (b := 20) (by omega) (by decide))
        · refine A_aload_n dX10_feed_62 rfl rfl ?_
          refine A_get dX10_feed_63 f_X10_20 HM_at0 rfl ?_
          refine A_aload_n dX10_feed_66 rfl rfl ?_
          refine A_get dX10_feed_67 f_X10_97 HM_at0 rfl ?_
          refine A_eqI h0 ?_
          refine A_iload dX10_feed_70 rfl ?_
          refine A_iadd dX10_feed_72 ?_
          refine A_eqI (y := nI (L + i)) (nI_add L i) ?_
          refine A_aload_n dX10_feed_73 rfl rfl ?_
          refine A_get dX10_feed_74 f_X10_24 HM_at0 rfl ?_
          refine A_iload dX10_feed_77 rfl ?_
          refine A_iconst (v := 4) dX10_feed_79 (by decide) ?_
          refine A_idiv dX10_feed_80 (by decide) ?_
          refine A_eqI (y := nI (i / 4)) (pk_div (d := 4) (by omega) (by decide) (by decide)) ?_
          refine A_ialdN dX10_feed_81 (HM_at (by decide)) (by omega) (by decide) ?_
          refine A_eqI (h5 (i / 4) (by omega)) ?_
          refine A_bipush (v := 24) dX10_feed_82 (by decide) ?_
          refine A_bipush (v := 8) dX10_feed_84 (by decide) ?_
          refine A_iload dX10_feed_86 rfl ?_
          refine A_iconst (v := 4) dX10_feed_88 (by decide) ?_
          refine A_irem dX10_feed_89 (by decide) ?_
          refine A_eqI (y := nI (i % 4)) (pk_rem (d := 4) (by omega) (by decide) (by decide)) ?_
          refine A_imul dX10_feed_90 ?_
          refine A_isub dX10_feed_91 ?_
          refine A_eqI (y := nI (24 - 8 * (i % 4))) (by rw [show (8 : Int32) = nI 8 from rfl, pk_mul]; exact pk_sub (a := 24) (by omega)) ?_
          refine A_ishr dX10_feed_92 ?_
          refine A_i2b dX10_feed_93 ?_
          refine A_bastMN dX10_feed_94 (by decide) (fun _ => rfl) (by omega) (by decide) ?_
          refine A_inc 1 (lv1 := [_, _, _, _, _, _, _]) dX10_feed_95 rfl (by decide) rfl rfl ?_
          refine A_goto 55 dX10_feed_98 (by decide) ?_
          rw [nI_1]
          exact ih (i + 1) _ (by omega) (fun l q4 q5 => (put_ne q4).trans (hl l q4 q5)) (fun q hq => by rw [put_ne (by decide)]; exact h5 q hq) (fun j => by by_cases e : j = L + i; (subst e; rw [put_at, if_pos (by omega), Nat.add_sub_cancel_left]; rfl); (rw [put_no e, h4 j]; by_cases e2 : L ≤ j ∧ j < L + i; (rw [if_pos e2, if_pos (by omega)]); (rw [if_neg e2, if_neg (by omega)])))
    exact loop 20 0 _ (by omega) (fun l q4 q5 => by rw [put_ne q5, put_ne q5, put_ne q5, put_ne q5, put_ne q5]) (fun q hq => five_e hq) (fun j => by rw [if_neg (by omega)]; simp (decide := true) only [put_ne])
  · refine A_iconst (v := (-1)) dX10_feed_13 (by decide) ?_
    exact A_iret dX10_feed_14 (show if 1600 < nI L + 20 then _ else _ by rw [if_pos (Int32.not_le.mp c10)]; exact ⟨rfl, rfl⟩) ⟨by decide, by decide⟩
