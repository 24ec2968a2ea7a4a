/-! a LINE's numbers added to the draft -/
def adS (L W N i : Nat) (y : CT) : CT := put y (L + 1) (W * N + i) (y 4 i)
def addF (L W N : Nat) (c : CT) : CT := forR (adS L W N) 0 W (put c L 2 (c L 2 + 1))
theorem c_add17 (G : GX) {b : Nat} {c : CT} {co : Nat → Nat → Option Nat} {r : Nat → Option AE} {n : Nat} {N : Nat} (hN : c 17 2 = nI N) (hN2 : N < 6) : MA G 1 yX3_add cX3_add 3 none 0 0 [.ref (b + 17), .ref (b + 4)] (HC b c co r n) (qV fun h1 => h1 = HC b (addF 17 5 N c) co r n) := by
  refine MA.of (own := RX3) false [some (.ref (b + 17)), some (.ref (b + 4)), none] (by decide +kernel) rfl (fun h => by cases h) (Nat.le_of_ble_eq_true rfl) rfl (fun X => ?_)
  obtain ⟨T, hTe⟩ : ∃ T, addF 17 5 N c = T := ⟨_, rfl⟩
  rw [hTe]
  have loop : ∀ (k i : Nat) (y : CT), i + k = 5 → (y 17 2 = nI (N + 1)) → (forR (adS 17 5 N) i k y = T) → WA X G RX3 cX3_add false none (qV fun h1 => h1 = HC b T co r n) 1 0 0 (HC b y co r n) 0 0 19 [some (.ref (b + 17)), some (.ref (b + 4)), some (.int (nI i))] [] := by
    intro k
    induction k with
    | zero =>
      intro i y hk hyN hT
      refine A_iload_n dX3_add_19 rfl rfl ?_
      refine A_aload_n dX3_add_20 rfl rfl ?_
      refine A_get dX3_add_21 f_X3_13 (HC_at (by decide)) rfl ?_
      refine A_icmp_ge 53 dX3_add_24 (by decide) (fun c24 => ?_) (fun c24 => ?_)
      · exact A_vret dX3_add_53 (by rw [← hT]; rfl) ⟨by decide, by decide⟩
      · exact absurd (nI_le (a := 5) (by omega) (by omega)) c24
    | succ k ih =>
      intro i y hk hyN hT
      have hi : i < 5 := by omega
      refine A_iload_n dX3_add_19 rfl rfl ?_
      refine A_aload_n dX3_add_20 rfl rfl ?_
      refine A_get dX3_add_21 f_X3_13 (HC_at (by decide)) rfl ?_
      refine A_icmp_ge 53 dX3_add_24 (by decide) (fun c24 => ?_) (fun c24 => ?_)
      · exact absurd c24 (nI_ge (b := 5) (by omega) (by decide))
      · refine A_iload_n dX3_add_27 rfl rfl ?_
        refine A_aload_n dX3_add_28 rfl rfl ?_
        refine A_alenI (v := nI _) dX3_add_29 (HC_at (by decide)) rfl ?_
        refine A_icmp_ge 53 dX3_add_30 (by decide) (fun c30 => ?_) (fun c30 => ?_)
        · exact absurd c30 (nI_ge (by omega) (by decide))
        · refine A_aload_n dX3_add_33 rfl rfl ?_
          refine A_aload_n dX3_add_34 rfl rfl ?_
          refine A_get dX3_add_35 f_X3_20 (HC_at (by decide)) rfl ?_
          refine A_iconst (v := 1) dX3_add_38 (by decide) ?_
          refine A_isub dX3_add_39 ?_
          refine A_eqI (y := nI N) (by rw [hyN]; exact nI_pred N) ?_
          refine A_iload_n dX3_add_40 rfl rfl ?_
          refine A_aload_n dX3_add_41 rfl rfl ?_
          refine A_iload_n dX3_add_42 rfl rfl ?_
          refine A_ialdN dX3_add_43 (HC_at (by decide)) (by omega) (by decide) ?_
          refine A_callVv dX3_add_44 m_X3_27 cb_X3_put (As := [_, _, _]) rfl (HC_at (by decide)) rfl (c_put G (HC b y co r n) (b + 17) (b + 18) (nI 6) (nI 5) (nI (N + 1)) 30 (y 18) (nI N) (nI i) (y 4 i) ((HC_at (by decide)).trans (by rw [← hyN]; rfl)) (HC_at (by decide)) (fun _ _ _ _ => by rw [pk_mul, nI_add]; exact vp_in_nI (by omega) (by decide))) rfl ⟨by decide, by decide⟩ (Nat.le_of_ble_eq_true rfl) ⟨by decide, by decide⟩ (fun h44 hq => ?_)
          rw [rPut_in (by omega) (by omega) (by omega) (by decide), HC_up (k := 18) (g := upd (y 18) (5 * N + i) (y 4 i)) (e := aI 30 (upd (y 18) (5 * N + i) (y 4 i))) (by decide) rfl] at hq
          obtain rfl := hq
          refine A_inc 1 (lv1 := [_, _, _]) dX3_add_47 rfl (by decide) rfl rfl ?_
          refine A_goto 19 dX3_add_50 (by decide) ?_
          rw [nI_1]
          exact ih (i + 1) _ (by omega) (show put y 18 (5 * N + i) (y 4 i) 17 2 = nI (N + 1) by rw [put_ne (by decide)]; exact hyN) (by rw [← hT]; rfl)
  refine A_aload_n dX3_add_0 rfl rfl ?_
  refine A_callVi dX3_add_1 m_X3_23 cb_X3_isFull (As := []) rfl (HC_at (by decide)) rfl (c_isFull G (HC b c co r n) (b + 17) (b + 18) (nI 6) 5 (c 17 2) (HC_at (k := 17) (by decide))) rfl ⟨by decide, by decide⟩ (Nat.le_of_ble_eq_true rfl) ⟨by decide, by decide⟩ (fun x1 h1 hq => ?_)
  obtain ⟨rfl, rfl⟩ := hq
  refine A_if_ne 53 dX3_add_4 (by decide) (fun c4 => ?_) (fun c4 => ?_)
  · exact absurd (if_neg (by rw [hN]; exact nI_ge hN2 (by decide))) c4
  · refine A_aload_n dX3_add_7 rfl rfl ?_
    refine A_dup dX3_add_8 rfl ?_
    refine A_get dX3_add_9 f_X3_20 (HC_at (by decide)) rfl ?_
    refine A_iconst (v := 1) dX3_add_12 (by decide) ?_
    refine A_iadd dX3_add_13 ?_
    refine A_putC 2 dX3_add_14 p_X3_20 (by decide) rfl (Nat.le_of_ble_eq_true rfl) rfl ?_
    refine A_iconst (v := 0) dX3_add_17 (by decide) ?_
    refine A_istore_n (lv1 := [_, _, _]) dX3_add_18 rfl (Nat.le_of_ble_eq_true rfl) rfl rfl ?_
    exact loop 5 0 _ (by omega) (by rw [put_kk, hN]; exact nI_1 N) hTe

theorem c_add19 (G : GX) {b : Nat} {c : CT} {co : Nat → Nat → Option Nat} {r : Nat → Option AE} {n : Nat} {N : Nat} (hN : c 19 2 = nI N) (hN2 : N < 8) : MA G 1 yX3_add cX3_add 3 none 0 0 [.ref (b + 19), .ref (b + 4)] (HC b c co r n) (qV fun h1 => h1 = HC b (addF 19 5 N c) co r n) := by
  refine MA.of (own := RX3) false [some (.ref (b + 19)), some (.ref (b + 4)), none] (by decide +kernel) rfl (fun h => by cases h) (Nat.le_of_ble_eq_true rfl) rfl (fun X => ?_)
  obtain ⟨T, hTe⟩ : ∃ T, addF 19 5 N c = T := ⟨_, rfl⟩
  rw [hTe]
  have loop : ∀ (k i : Nat) (y : CT), i + k = 5 → (y 19 2 = nI (N + 1)) → (forR (adS 19 5 N) i k y = T) → WA X G RX3 cX3_add false none (qV fun h1 => h1 = HC b T co r n) 1 0 0 (HC b y co r n) 0 0 19 [some (.ref (b + 19)), some (.ref (b + 4)), some (.int (nI i))] [] := by
    intro k
    induction k with
    | zero =>
      intro i y hk hyN hT
      refine A_iload_n dX3_add_19 rfl rfl ?_
      refine A_aload_n dX3_add_20 rfl rfl ?_
      refine A_get dX3_add_21 f_X3_13 (HC_at (by decide)) rfl ?_
      refine A_icmp_ge 53 dX3_add_24 (by decide) (fun c24 => ?_) (fun c24 => ?_)
      · exact A_vret dX3_add_53 (by rw [← hT]; rfl) ⟨by decide, by decide⟩
      · exact absurd (nI_le (a := 5) (by omega) (by omega)) c24
    | succ k ih =>
      intro i y hk hyN hT
      have hi : i < 5 := by omega
      refine A_iload_n dX3_add_19 rfl rfl ?_
      refine A_aload_n dX3_add_20 rfl rfl ?_
      refine A_get dX3_add_21 f_X3_13 (HC_at (by decide)) rfl ?_
      refine A_icmp_ge 53 dX3_add_24 (by decide) (fun c24 => ?_) (fun c24 => ?_)
      · exact absurd c24 (nI_ge (b := 5) (by omega) (by decide))
      · refine A_iload_n dX3_add_27 rfl rfl ?_
        refine A_aload_n dX3_add_28 rfl rfl ?_
        refine A_alenI (v := nI _) dX3_add_29 (HC_at (by decide)) rfl ?_
        refine A_icmp_ge 53 dX3_add_30 (by decide) (fun c30 => ?_) (fun c30 => ?_)
        · exact absurd c30 (nI_ge (by omega) (by decide))
        · refine A_aload_n dX3_add_33 rfl rfl ?_
          refine A_aload_n dX3_add_34 rfl rfl ?_
          refine A_get dX3_add_35 f_X3_20 (HC_at (by decide)) rfl ?_
          refine A_iconst (v := 1) dX3_add_38 (by decide) ?_
          refine A_isub dX3_add_39 ?_
          refine A_eqI (y := nI N) (by rw [hyN]; exact nI_pred N) ?_
          refine A_iload_n dX3_add_40 rfl rfl ?_
          refine A_aload_n dX3_add_41 rfl rfl ?_
          refine A_iload_n dX3_add_42 rfl rfl ?_
          refine A_ialdN dX3_add_43 (HC_at (by decide)) (by omega) (by decide) ?_
          refine A_callVv dX3_add_44 m_X3_27 cb_X3_put (As := [_, _, _]) rfl (HC_at (by decide)) rfl (c_put G (HC b y co r n) (b + 19) (b + 20) (nI 8) (nI 5) (nI (N + 1)) 40 (y 20) (nI N) (nI i) (y 4 i) ((HC_at (by decide)).trans (by rw [← hyN]; rfl)) (HC_at (by decide)) (fun _ _ _ _ => by rw [pk_mul, nI_add]; exact vp_in_nI (by omega) (by decide))) rfl ⟨by decide, by decide⟩ (Nat.le_of_ble_eq_true rfl) ⟨by decide, by decide⟩ (fun h44 hq => ?_)
          rw [rPut_in (by omega) (by omega) (by omega) (by decide), HC_up (k := 20) (g := upd (y 20) (5 * N + i) (y 4 i)) (e := aI 40 (upd (y 20) (5 * N + i) (y 4 i))) (by decide) rfl] at hq
          obtain rfl := hq
          refine A_inc 1 (lv1 := [_, _, _]) dX3_add_47 rfl (by decide) rfl rfl ?_
          refine A_goto 19 dX3_add_50 (by decide) ?_
          rw [nI_1]
          exact ih (i + 1) _ (by omega) (show put y 20 (5 * N + i) (y 4 i) 19 2 = nI (N + 1) by rw [put_ne (by decide)]; exact hyN) (by rw [← hT]; rfl)
  refine A_aload_n dX3_add_0 rfl rfl ?_
  refine A_callVi dX3_add_1 m_X3_23 cb_X3_isFull (As := []) rfl (HC_at (by decide)) rfl (c_isFull G (HC b c co r n) (b + 19) (b + 20) (nI 8) 5 (c 19 2) (HC_at (k := 19) (by decide))) rfl ⟨by decide, by decide⟩ (Nat.le_of_ble_eq_true rfl) ⟨by decide, by decide⟩ (fun x1 h1 hq => ?_)
  obtain ⟨rfl, rfl⟩ := hq
  refine A_if_ne 53 dX3_add_4 (by decide) (fun c4 => ?_) (fun c4 => ?_)
  · exact absurd (if_neg (by rw [hN]; exact nI_ge hN2 (by decide))) c4
  · refine A_aload_n dX3_add_7 rfl rfl ?_
    refine A_dup dX3_add_8 rfl ?_
    refine A_get dX3_add_9 f_X3_20 (HC_at (by decide)) rfl ?_
    refine A_iconst (v := 1) dX3_add_12 (by decide) ?_
    refine A_iadd dX3_add_13 ?_
    refine A_putC 2 dX3_add_14 p_X3_20 (by decide) rfl (Nat.le_of_ble_eq_true rfl) rfl ?_
    refine A_iconst (v := 0) dX3_add_17 (by decide) ?_
    refine A_istore_n (lv1 := [_, _, _]) dX3_add_18 rfl (Nat.le_of_ble_eq_true rfl) rfl rfl ?_
    exact loop 5 0 _ (by omega) (by rw [put_kk, hN]; exact nI_1 N) hTe

theorem c_add21 (G : GX) {b : Nat} {c : CT} {co : Nat → Nat → Option Nat} {r : Nat → Option AE} {n : Nat} {N : Nat} (hN : c 21 2 = nI N) (hN2 : N < 3) : MA G 1 yX3_add cX3_add 3 none 0 0 [.ref (b + 21), .ref (b + 4)] (HC b c co r n) (qV fun h1 => h1 = HC b (addF 21 4 N c) co r n) := by
  refine MA.of (own := RX3) false [some (.ref (b + 21)), some (.ref (b + 4)), none] (by decide +kernel) rfl (fun h => by cases h) (Nat.le_of_ble_eq_true rfl) rfl (fun X => ?_)
  obtain ⟨T, hTe⟩ : ∃ T, addF 21 4 N c = T := ⟨_, rfl⟩
  rw [hTe]
  have loop : ∀ (k i : Nat) (y : CT), i + k = 4 → (y 21 2 = nI (N + 1)) → (forR (adS 21 4 N) i k y = T) → WA X G RX3 cX3_add false none (qV fun h1 => h1 = HC b T co r n) 1 0 0 (HC b y co r n) 0 0 19 [some (.ref (b + 21)), some (.ref (b + 4)), some (.int (nI i))] [] := by
    intro k
    induction k with
    | zero =>
      intro i y hk hyN hT
      refine A_iload_n dX3_add_19 rfl rfl ?_
      refine A_aload_n dX3_add_20 rfl rfl ?_
      refine A_get dX3_add_21 f_X3_13 (HC_at (by decide)) rfl ?_
      refine A_icmp_ge 53 dX3_add_24 (by decide) (fun c24 => ?_) (fun c24 => ?_)
      · exact A_vret dX3_add_53 (by rw [← hT]; rfl) ⟨by decide, by decide⟩
      · exact absurd (nI_le (a := 4) (by omega) (by omega)) c24
    | succ k ih =>
      intro i y hk hyN hT
      have hi : i < 4 := by omega
      refine A_iload_n dX3_add_19 rfl rfl ?_
      refine A_aload_n dX3_add_20 rfl rfl ?_
      refine A_get dX3_add_21 f_X3_13 (HC_at (by decide)) rfl ?_
      refine A_icmp_ge 53 dX3_add_24 (by decide) (fun c24 => ?_) (fun c24 => ?_)
      · exact absurd c24 (nI_ge (b := 4) (by omega) (by decide))
      · refine A_iload_n dX3_add_27 rfl rfl ?_
        refine A_aload_n dX3_add_28 rfl rfl ?_
        refine A_alenI (v := nI _) dX3_add_29 (HC_at (by decide)) rfl ?_
        refine A_icmp_ge 53 dX3_add_30 (by decide) (fun c30 => ?_) (fun c30 => ?_)
        · exact absurd c30 (nI_ge (by omega) (by decide))
        · refine A_aload_n dX3_add_33 rfl rfl ?_
          refine A_aload_n dX3_add_34 rfl rfl ?_
          refine A_get dX3_add_35 f_X3_20 (HC_at (by decide)) rfl ?_
          refine A_iconst (v := 1) dX3_add_38 (by decide) ?_
          refine A_isub dX3_add_39 ?_
          refine A_eqI (y := nI N) (by rw [hyN]; exact nI_pred N) ?_
          refine A_iload_n dX3_add_40 rfl rfl ?_
          refine A_aload_n dX3_add_41 rfl rfl ?_
          refine A_iload_n dX3_add_42 rfl rfl ?_
          refine A_ialdN dX3_add_43 (HC_at (by decide)) (by omega) (by decide) ?_
          refine A_callVv dX3_add_44 m_X3_27 cb_X3_put (As := [_, _, _]) rfl (HC_at (by decide)) rfl (c_put G (HC b y co r n) (b + 21) (b + 22) (nI 3) (nI 4) (nI (N + 1)) 12 (y 22) (nI N) (nI i) (y 4 i) ((HC_at (by decide)).trans (by rw [← hyN]; rfl)) (HC_at (by decide)) (fun _ _ _ _ => by rw [pk_mul, nI_add]; exact vp_in_nI (by omega) (by decide))) rfl ⟨by decide, by decide⟩ (Nat.le_of_ble_eq_true rfl) ⟨by decide, by decide⟩ (fun h44 hq => ?_)
          rw [rPut_in (by omega) (by omega) (by omega) (by decide), HC_up (k := 22) (g := upd (y 22) (4 * N + i) (y 4 i)) (e := aI 12 (upd (y 22) (4 * N + i) (y 4 i))) (by decide) rfl] at hq
          obtain rfl := hq
          refine A_inc 1 (lv1 := [_, _, _]) dX3_add_47 rfl (by decide) rfl rfl ?_
          refine A_goto 19 dX3_add_50 (by decide) ?_
          rw [nI_1]
          exact ih (i + 1) _ (by omega) (show put y 22 (4 * N + i) (y 4 i) 21 2 = nI (N + 1) by rw [put_ne (by decide)]; exact hyN) (by rw [← hT]; rfl)
  refine A_aload_n dX3_add_0 rfl rfl ?_
  refine A_callVi dX3_add_1 m_X3_23 cb_X3_isFull (As := []) rfl (HC_at (by decide)) rfl (c_isFull G (HC b c co r n) (b + 21) (b + 22) (nI 3) 4 (c 21 2) (HC_at (k := 21) (by decide))) rfl ⟨by decide, by decide⟩ (Nat.le_of_ble_eq_true rfl) ⟨by decide, by decide⟩ (fun x1 h1 hq => ?_)
  obtain ⟨rfl, rfl⟩ := hq
  refine A_if_ne 53 dX3_add_4 (by decide) (fun c4 => ?_) (fun c4 => ?_)
  · exact absurd (if_neg (by rw [hN]; exact nI_ge hN2 (by decide))) c4
  · refine A_aload_n dX3_add_7 rfl rfl ?_
    refine A_dup dX3_add_8 rfl ?_
    refine A_get dX3_add_9 f_X3_20 (HC_at (by decide)) rfl ?_
    refine A_iconst (v := 1) dX3_add_12 (by decide) ?_
    refine A_iadd dX3_add_13 ?_
    refine A_putC 2 dX3_add_14 p_X3_20 (by decide) rfl (Nat.le_of_ble_eq_true rfl) rfl ?_
    refine A_iconst (v := 0) dX3_add_17 (by decide) ?_
    refine A_istore_n (lv1 := [_, _, _]) dX3_add_18 rfl (Nat.le_of_ble_eq_true rfl) rfl rfl ?_
    exact loop 4 0 _ (by omega) (by rw [put_kk, hN]; exact nI_1 N) hTe

theorem c_add23 (G : GX) {b : Nat} {c : CT} {co : Nat → Nat → Option Nat} {r : Nat → Option AE} {n : Nat} {N : Nat} (hN : c 23 2 = nI N) (hN2 : N < 8) : MA G 1 yX3_add cX3_add 3 none 0 0 [.ref (b + 23), .ref (b + 4)] (HC b c co r n) (qV fun h1 => h1 = HC b (addF 23 5 N c) co r n) := by
  refine MA.of (own := RX3) false [some (.ref (b + 23)), some (.ref (b + 4)), none] (by decide +kernel) rfl (fun h => by cases h) (Nat.le_of_ble_eq_true rfl) rfl (fun X => ?_)
  obtain ⟨T, hTe⟩ : ∃ T, addF 23 5 N c = T := ⟨_, rfl⟩
  rw [hTe]
  have loop : ∀ (k i : Nat) (y : CT), i + k = 5 → (y 23 2 = nI (N + 1)) → (forR (adS 23 5 N) i k y = T) → WA X G RX3 cX3_add false none (qV fun h1 => h1 = HC b T co r n) 1 0 0 (HC b y co r n) 0 0 19 [some (.ref (b + 23)), some (.ref (b + 4)), some (.int (nI i))] [] := by
    intro k
    induction k with
    | zero =>
      intro i y hk hyN hT
      refine A_iload_n dX3_add_19 rfl rfl ?_
      refine A_aload_n dX3_add_20 rfl rfl ?_
      refine A_get dX3_add_21 f_X3_13 (HC_at (by decide)) rfl ?_
      refine A_icmp_ge 53 dX3_add_24 (by decide) (fun c24 => ?_) (fun c24 => ?_)
      · exact A_vret dX3_add_53 (by rw [← hT]; rfl) ⟨by decide, by decide⟩
      · exact absurd (nI_le (a := 5) (by omega) (by omega)) c24
    | succ k ih =>
      intro i y hk hyN hT
      have hi : i < 5 := by omega
      refine A_iload_n dX3_add_19 rfl rfl ?_
      refine A_aload_n dX3_add_20 rfl rfl ?_
      refine A_get dX3_add_21 f_X3_13 (HC_at (by decide)) rfl ?_
      refine A_icmp_ge 53 dX3_add_24 (by decide) (fun c24 => ?_) (fun c24 => ?_)
      · exact absurd c24 (nI_ge (b := 5) (by omega) (by decide))
      · refine A_iload_n dX3_add_27 rfl rfl ?_
        refine A_aload_n dX3_add_28 rfl rfl ?_
        refine A_alenI (v := nI _) dX3_add_29 (HC_at (by decide)) rfl ?_
        refine A_icmp_ge 53 dX3_add_30 (by decide) (fun c30 => ?_) (fun c30 => ?_)
        · exact absurd c30 (nI_ge (by omega) (by decide))
        · refine A_aload_n dX3_add_33 rfl rfl ?_
          refine A_aload_n dX3_add_34 rfl rfl ?_
          refine A_get dX3_add_35 f_X3_20 (HC_at (by decide)) rfl ?_
          refine A_iconst (v := 1) dX3_add_38 (by decide) ?_
          refine A_isub dX3_add_39 ?_
          refine A_eqI (y := nI N) (by rw [hyN]; exact nI_pred N) ?_
          refine A_iload_n dX3_add_40 rfl rfl ?_
          refine A_aload_n dX3_add_41 rfl rfl ?_
          refine A_iload_n dX3_add_42 rfl rfl ?_
          refine A_ialdN dX3_add_43 (HC_at (by decide)) (by omega) (by decide) ?_
          refine A_callVv dX3_add_44 m_X3_27 cb_X3_put (As := [_, _, _]) rfl (HC_at (by decide)) rfl (c_put G (HC b y co r n) (b + 23) (b + 24) (nI 8) (nI 5) (nI (N + 1)) 40 (y 24) (nI N) (nI i) (y 4 i) ((HC_at (by decide)).trans (by rw [← hyN]; rfl)) (HC_at (by decide)) (fun _ _ _ _ => by rw [pk_mul, nI_add]; exact vp_in_nI (by omega) (by decide))) rfl ⟨by decide, by decide⟩ (Nat.le_of_ble_eq_true rfl) ⟨by decide, by decide⟩ (fun h44 hq => ?_)
          rw [rPut_in (by omega) (by omega) (by omega) (by decide), HC_up (k := 24) (g := upd (y 24) (5 * N + i) (y 4 i)) (e := aI 40 (upd (y 24) (5 * N + i) (y 4 i))) (by decide) rfl] at hq
          obtain rfl := hq
          refine A_inc 1 (lv1 := [_, _, _]) dX3_add_47 rfl (by decide) rfl rfl ?_
          refine A_goto 19 dX3_add_50 (by decide) ?_
          rw [nI_1]
          exact ih (i + 1) _ (by omega) (show put y 24 (5 * N + i) (y 4 i) 23 2 = nI (N + 1) by rw [put_ne (by decide)]; exact hyN) (by rw [← hT]; rfl)
  refine A_aload_n dX3_add_0 rfl rfl ?_
  refine A_callVi dX3_add_1 m_X3_23 cb_X3_isFull (As := []) rfl (HC_at (by decide)) rfl (c_isFull G (HC b c co r n) (b + 23) (b + 24) (nI 8) 5 (c 23 2) (HC_at (k := 23) (by decide))) rfl ⟨by decide, by decide⟩ (Nat.le_of_ble_eq_true rfl) ⟨by decide, by decide⟩ (fun x1 h1 hq => ?_)
  obtain ⟨rfl, rfl⟩ := hq
  refine A_if_ne 53 dX3_add_4 (by decide) (fun c4 => ?_) (fun c4 => ?_)
  · exact absurd (if_neg (by rw [hN]; exact nI_ge hN2 (by decide))) c4
  · refine A_aload_n dX3_add_7 rfl rfl ?_
    refine A_dup dX3_add_8 rfl ?_
    refine A_get dX3_add_9 f_X3_20 (HC_at (by decide)) rfl ?_
    refine A_iconst (v := 1) dX3_add_12 (by decide) ?_
    refine A_iadd dX3_add_13 ?_
    refine A_putC 2 dX3_add_14 p_X3_20 (by decide) rfl (Nat.le_of_ble_eq_true rfl) rfl ?_
    refine A_iconst (v := 0) dX3_add_17 (by decide) ?_
    refine A_istore_n (lv1 := [_, _, _]) dX3_add_18 rfl (Nat.le_of_ble_eq_true rfl) rfl rfl ?_
    exact loop 5 0 _ (by omega) (by rw [put_kk, hN]; exact nI_1 N) hTe
