/-! THE LAW: its loop, its start -/
theorem Law_loop (G : GX) (X : XC) {sc b L : Nat} {xs : Nat → Int32} (hX : SCR X sc L xs) (hL : L ≤ 3072) : ∀ (q k uc us : Nat) (c : CT) (co : Nat → Nat → Option Nat) (m : CT) (ml : Nat → Nat → Int64) (r : Nat → Option AE) (n : Nat), k + q = L / 6 → LJ b c co m ml r n → uc ≤ 100 + 12 * k → us ≤ 7000 + 180 * k → LW X G (qI fun x _ => x = 1) sc b k uc us 18 (HCM b c co m ml r n) := by
  intro q
  induction q with
  | zero =>
    intro k uc us c co m ml r n hk hJ h1 h2
    have hlt : nI L - nI 6 < nI (6 * k) := by
      rw [Int32.lt_iff_toInt_lt, subT (by rw [nI_toInt (by omega), nI_toInt (by omega)]; omega) (by rw [nI_toInt (by omega), nI_toInt (by omega)]; omega), nI_toInt (by omega), nI_toInt (by omega), nI_toInt (by omega)]
      omega
    unfold LW
    refine A_iload_n dL_law_18 rfl rfl ?_
    refine A_aload_n dL_law_19 rfl rfl ?_
    refine A_slen hX dL_law_20 ?_
    refine A_bipush (v := 6) dL_law_21 (by decide) ?_
    refine A_isub dL_law_23 ?_
    refine A_icmp_gt 1450 dL_law_24 (by decide) (fun c24 => ?_) (fun c24 => ?_)
    · refine A_iconst (v := 1) dL_law_1450 (by decide) ?_
      exact A_zret dL_law_1451 rfl rfl ⟨by omega, by omega⟩
    · exact absurd hlt c24
  | succ q ih =>
    intro k uc us c co m ml r n hq hJ h1 h2
    have hk : 6 * k + 6 ≤ L := by omega
    have hlt : ¬ nI L - nI 6 < nI (6 * k) := by
      rw [Int32.lt_iff_toInt_lt, subT (by rw [nI_toInt (by omega), nI_toInt (by omega)]; omega) (by rw [nI_toInt (by omega), nI_toInt (by omega)]; omega), nI_toInt (by omega), nI_toInt (by omega), nI_toInt (by omega)]
      omega
    have hu : uc ≤ 500000 ∧ us ≤ 7000000 := ⟨by omega, by omega⟩
    have kk : LN X G (qI fun x _ => x = 1) sc b k uc us := by
      intro c1 co1 m1 ml1 r1 n1 uc1 us1 hJ1 e1 e2
      unfold LW
      refine A_inc 6 (lv1 := [_, _, _, _]) dL_law_1444 rfl (by decide) rfl rfl ?_
      refine A_goto 18 dL_law_1447 (by decide) ?_
      rw [show nI (6 * k) + 6 = nI (6 * (k + 1)) by rw [show (6 : Int32) = nI 6 from rfl, nI_add, Nat.mul_add]]
      exact ih (k + 1) uc1 us1 c1 co1 m1 ml1 r1 n1 (by omega) hJ1 (by omega) (by omega)
    unfold LW
    refine A_iload_n dL_law_18 rfl rfl ?_
    refine A_aload_n dL_law_19 rfl rfl ?_
    refine A_slen hX dL_law_20 ?_
    refine A_bipush (v := 6) dL_law_21 (by decide) ?_
    refine A_isub dL_law_23 ?_
    refine A_icmp_gt 1450 dL_law_24 (by decide) (fun c24 => ?_) (fun c24 => ?_)
    · exact absurd c24 hlt
    refine A_aload_n dL_law_27 rfl rfl ?_
    refine A_iload_n dL_law_28 rfl rfl ?_
    refine A_sld hX (vp_in_nI (by omega) (by omega)) dL_law_29 ?_
    refine A_bipush (v := 63) dL_law_30 (by decide) ?_
    refine A_iand dL_law_32 ?_
    obtain ⟨v, hv⟩ : ∃ v, xs (nI (6 * k)).toNatClampNeg &&& 63 = v := ⟨_, rfl⟩
    rw [hv]
    by_cases z : v.toInt < 0 ∨ 41 < v.toInt
    · refine A_tableOut 1444 dL_law_33 z (by decide) ?_
      exact kk c co m ml r n uc us hJ (by omega) (by omega)
    · have v0 : 0 ≤ v.toInt := Int.not_lt.mp (fun y => z (Or.inl y))
      have v1 : v.toInt ≤ 41 := Int.not_lt.mp (fun y => z (Or.inr y))
      obtain ⟨j, hj, ej⟩ : ∃ j, j < 42 ∧ v = nI j := ⟨_, by omega, nI_nat v0⟩
      rw [ej]
      clear z hv v0 v1 ej
      match j, hj with
      | 0, _ =>
        refine A_tableIn 216 dL_law_33 (by decide) (by decide) rfl (by decide) ?_
        exact op_0 G X hX hk hL hu hJ kk
      | 1, _ =>
        refine A_tableIn 279 dL_law_33 (by decide) (by decide) rfl (by decide) ?_
        exact op_1 G X hX hk hL hu hJ kk
      | 2, _ =>
        refine A_tableIn 302 dL_law_33 (by decide) (by decide) rfl (by decide) ?_
        exact op_2 G X hX hk hL hu hJ kk
      | 3, _ =>
        refine A_tableIn 315 dL_law_33 (by decide) (by decide) rfl (by decide) ?_
        exact op_3 G X hX hk hL hu hJ kk
      | 4, _ =>
        refine A_tableIn 338 dL_law_33 (by decide) (by decide) rfl (by decide) ?_
        exact op_4 G X hX hk hL hu hJ kk
      | 5, _ =>
        refine A_tableIn 371 dL_law_33 (by decide) (by decide) rfl (by decide) ?_
        exact op_5 G X hX hk hL hu hJ kk
      | 6, _ =>
        refine A_tableIn 404 dL_law_33 (by decide) (by decide) rfl (by decide) ?_
        exact op_6 G X hX hk hL hu hJ kk
      | 7, _ =>
        refine A_tableIn 437 dL_law_33 (by decide) (by decide) rfl (by decide) ?_
        exact op_7 G X hX hk hL hu hJ kk
      | 8, _ =>
        refine A_tableIn 470 dL_law_33 (by decide) (by decide) rfl (by decide) ?_
        exact op_8 G X hX hk hL hu hJ kk
      | 9, _ =>
        refine A_tableIn 503 dL_law_33 (by decide) (by decide) rfl (by decide) ?_
        exact op_9 G X hX hk hL hu hJ kk
      | 10, _ =>
        refine A_tableIn 536 dL_law_33 (by decide) (by decide) rfl (by decide) ?_
        exact op_10 G X hX hk hL hu hJ kk
      | 11, _ =>
        refine A_tableIn 559 dL_law_33 (by decide) (by decide) rfl (by decide) ?_
        exact op_11 G X hX hk hL hu hJ kk
      | 12, _ =>
        refine A_tableIn 572 dL_law_33 (by decide) (by decide) rfl (by decide) ?_
        exact op_12 G X hX hk hL hu hJ kk
      | 13, _ =>
        refine A_tableIn 585 dL_law_33 (by decide) (by decide) rfl (by decide) ?_
        exact op_13 G X hX hk hL hu hJ kk
      | 14, _ =>
        refine A_tableIn 608 dL_law_33 (by decide) (by decide) rfl (by decide) ?_
        exact op_14 G X hX hk hL hu hJ kk
      | 15, _ =>
        refine A_tableIn 621 dL_law_33 (by decide) (by decide) rfl (by decide) ?_
        exact op_15 G X hX hk hL hu hJ kk
      | 16, _ =>
        refine A_tableIn 645 dL_law_33 (by decide) (by decide) rfl (by decide) ?_
        exact op_16 G X hX hk hL hu hJ kk
      | 17, _ =>
        refine A_tableIn 668 dL_law_33 (by decide) (by decide) rfl (by decide) ?_
        exact op_17 G X hX hk hL hu hJ kk
      | 18, _ =>
        refine A_tableIn 692 dL_law_33 (by decide) (by decide) rfl (by decide) ?_
        exact op_18 G X hX hk hL hu hJ kk
      | 19, _ =>
        refine A_tableIn 715 dL_law_33 (by decide) (by decide) rfl (by decide) ?_
        exact op_19 G X hX hk hL hu hJ kk
      | 20, _ =>
        refine A_tableIn 748 dL_law_33 (by decide) (by decide) rfl (by decide) ?_
        exact op_20 G X hX hk hL hu hJ kk
      | 21, _ =>
        refine A_tableIn 791 dL_law_33 (by decide) (by decide) rfl (by decide) ?_
        exact op_21 G X hX hk hL hu hJ kk
      | 22, _ =>
        refine A_tableIn 814 dL_law_33 (by decide) (by decide) rfl (by decide) ?_
        exact op_22 G X hX hk hL hu hJ kk
      | 23, _ =>
        refine A_tableIn 837 dL_law_33 (by decide) (by decide) rfl (by decide) ?_
        exact op_23 G X hX hk hL hu hJ kk
      | 24, _ =>
        refine A_tableIn 860 dL_law_33 (by decide) (by decide) rfl (by decide) ?_
        exact op_24 G X hX hk hL hu hJ kk
      | 25, _ =>
        refine A_tableIn 893 dL_law_33 (by decide) (by decide) rfl (by decide) ?_
        exact op_25 G X hX hk hL hu hJ kk
      | 26, _ =>
        refine A_tableIn 916 dL_law_33 (by decide) (by decide) rfl (by decide) ?_
        exact op_26 G X hX hk hL hu hJ kk
      | 27, _ =>
        refine A_tableIn 939 dL_law_33 (by decide) (by decide) rfl (by decide) ?_
        exact op_27 G X hX hk hL hu hJ kk
      | 28, _ =>
        refine A_tableIn 972 dL_law_33 (by decide) (by decide) rfl (by decide) ?_
        exact op_28 G X hX hk hL hu hJ kk
      | 29, _ =>
        refine A_tableIn 1005 dL_law_33 (by decide) (by decide) rfl (by decide) ?_
        exact op_29 G X hX hk hL hu hJ kk
      | 30, _ =>
        refine A_tableIn 1048 dL_law_33 (by decide) (by decide) rfl (by decide) ?_
        exact op_30 G X hX hk hL hu hJ kk
      | 31, _ =>
        refine A_tableIn 1061 dL_law_33 (by decide) (by decide) rfl (by decide) ?_
        exact op_31 G X hX hk hL hu hJ kk
      | 32, _ =>
        refine A_tableIn 1084 dL_law_33 (by decide) (by decide) rfl (by decide) ?_
        exact op_32 G X hX hk hL hu hJ kk
      | 33, _ =>
        refine A_tableIn 1107 dL_law_33 (by decide) (by decide) rfl (by decide) ?_
        exact op_33 G X hX hk hL hu hJ kk
      | 34, _ =>
        refine A_tableIn 1130 dL_law_33 (by decide) (by decide) rfl (by decide) ?_
        exact op_34 G X hX hk hL hu hJ kk
      | 35, _ =>
        refine A_tableIn 1163 dL_law_33 (by decide) (by decide) rfl (by decide) ?_
        exact op_35 G X hX hk hL hu hJ kk
      | 36, _ =>
        refine A_tableIn 1196 dL_law_33 (by decide) (by decide) rfl (by decide) ?_
        exact op_36 G X hX hk hL hu hJ kk
      | 37, _ =>
        refine A_tableIn 1219 dL_law_33 (by decide) (by decide) rfl (by decide) ?_
        exact op_37 G X hX hk hL hu hJ kk
      | 38, _ =>
        refine A_tableIn 1242 dL_law_33 (by decide) (by decide) rfl (by decide) ?_
        exact op_38 G X hX hk hL hu hJ kk
      | 39, _ =>
        refine A_tableIn 1265 dL_law_33 (by decide) (by decide) rfl (by decide) ?_
        exact op_39 G X hX hk hL hu hJ kk
      | 40, _ =>
        refine A_tableIn 1308 dL_law_33 (by decide) (by decide) rfl (by decide) ?_
        exact op_40 G X hX hk hL hu hJ kk
      | 41, _ =>
        refine A_tableIn 1381 dL_law_33 (by decide) (by decide) rfl (by decide) ?_
        exact op_41 G X hX hk hL hu hJ kk
      | j + 42, h9 => exact absurd h9 (Nat.not_lt_of_le (Nat.le_add_left 42 j))
theorem LJ_new {b n : Nat} (hn : b + 76 ≤ n) : LJ b c0C co0 c0M cz0 (fun _ => none) n := by
  have f := fun l (h : l ≠ 3) => c0C_f h
  have g := fun l (h : l ≠ 0) (h2 : l ≠ 17) => c0M_f h h2
  have no : ∀ v, ¬ v < 0 := fun v => Nat.not_lt_zero v
  have z0 : 0 ≤ (0 : Int32).toInt := by decide
  have z9 : (0 : Int32).toInt ≤ 99 := by decide
  have z1 : (0 : Int32).toInt ≤ 100 := by decide
  refine ⟨0, 0, 0, 0, 0, 0, fun _ => none, fun _ => none, fun _ => 0, ⟨⟨by rw [f 7 (by decide)]; rfl, by decide, by rw [f 9 (by decide)]; rfl, by decide, by rw [f 11 (by decide)]; rfl, by decide, by rw [f 13 (by decide)]; rfl, by decide, by rw [f 6 (by decide)]; rfl, by decide, fun i hi => absurd hi (no i), fun i hi => absurd hi (no i)⟩, fun i hi => absurd hi (no i), ⟨fun i hi => absurd hi (no i), fun i hi => absurd hi (no i), fun i hi => absurd hi (no i), fun i hi => absurd hi (no i), fun w hw => by rw [f 15 (by decide)]; exact ⟨z0, z9⟩⟩, ⟨by rw [g 1 (by decide) (by decide)]; rfl, by decide, by rw [g 1 (by decide) (by decide)]; rfl, by decide, by rw [g 1 (by decide) (by decide)]; rfl, by decide, by rw [g 1 (by decide) (by decide)]; rfl, by decide, by rw [g 1 (by decide) (by decide)]; rfl, by decide, fun i hi => absurd hi (no i), fun i hi => absurd hi (no i)⟩, ⟨fun i hi => absurd hi (no i), fun i hi => absurd hi (no i), fun i hi => absurd hi (no i), fun i hi => absurd hi (no i), fun w hw => by rw [f 15 (by decide), g 1 (by decide) (by decide)], by rw [f 6 (by decide), g 1 (by decide) (by decide)]⟩, fun i hi => absurd hi (no i), fun i hi => absurd hi (no i), by rw [f 6 (by decide), g 1 (by decide) (by decide)], by rw [f 6 (by decide)]; exact ⟨z0, z1⟩, rfl, by rw [f 6 (by decide), g 1 (by decide) (by decide)], by rw [f 6 (by decide), g 1 (by decide) (by decide)]⟩, fun k _ h => absurd (by rw [f 45 (by decide)]) h, ⟨by rw [f 1 (by decide)]; rfl, by decide, rfl, fun i _ => by rw [f 2 (by decide), g 4 (by decide) (by decide)], fun i => by rw [g 4 (by decide) (by decide)]; exact (by decide : (0 : Int32).toInt8.toInt32 = 0)⟩, ⟨rfl, rfl⟩, fun j _ => ⟨fun _ => rfl, fun a q w N f h => by cases h⟩, fun j hj => ⟨fun _ => if_pos (Or.inr ⟨rfl, hj⟩), fun a q w N f h => by cases h⟩, fun k _ => ⟨rfl, fun q Q h => by cases h⟩, fun k _ => ⟨fun _ => by rw [g 3 (by decide) (by decide)], fun q Q h => by cases h⟩, hn⟩
theorem law_go (G : GX) (X : XC) {sc b L : Nat} {xs : Nat → Int32} (hX : SCR X sc L xs) (hL : L ≤ 3072) : WA X G RL cL_law false (some .boolean) (qI fun x _ => x = 1) 20 510000 7100000 (h00 b) 0 0 0 [some (.ref sc), none, none, none] [] := by
  refine A_new (ci := 9) (fs := [.null, .null, .null, .null, .null, .null, .null, .null, .null]) dL_law_0 rfl ⟨w_21, w_22, w_1⟩ tyX9 tyX9_ok (by decide) (Nat.le_of_ble_eq_true rfl) (Nat.le_of_ble_eq_true rfl) ?_
  refine A_dup dL_law_3 rfl ?_
  refine A_callIv dL_law_4 m_L_9 cb_X9_init (As := []) rfl (i_X9 G (h := h00 b) (a := b) rfl) rfl ⟨by decide, by decide⟩ (Nat.le_of_ble_eq_true rfl) ⟨Nat.le_of_ble_eq_true rfl, Nat.le_of_ble_eq_true rfl⟩ (fun h4 hq => ?_)
  subst hq
  refine WA_h (HC_new rfl) ?_
  refine A_astore_n (lv1 := [some (.ref sc), some (.ref b), none, none]) dL_law_7 rfl (Nat.le_of_ble_eq_true rfl) rfl rfl ?_
  refine A_new (ci := 10) (fs := [.int 0, .null, .null, .null, .null, .int 0, .null, .int 0, .int 0, .int 0, .int 0, .int 0, .int 0, .int 0, .null, .null, .null, .null, .null, .null, .int 0, .int 0, .int 0, .int 0, .int 0, .int 0, .null, .int 0, .long 0, .null, .null, .int 0, .int 0, .null, .null, .long 0, .null, .null, .null, .null]) dL_law_8 rfl ⟨w_1161, w_1162, w_11⟩ tyX10 tyX10_ok (by decide) (Nat.le_of_ble_eq_true rfl) (Nat.le_of_ble_eq_true rfl) ?_
  refine A_dup dL_law_11 rfl ?_
  refine A_callIv dL_law_12 m_L_12 cb_X10_init (As := []) rfl (i_X10 G (h := HC b c0C co0 (h00 b).1 (b + 55)) (a := b + 55) rfl) rfl ⟨by decide, by decide⟩ (Nat.le_of_ble_eq_true rfl) ⟨Nat.le_of_ble_eq_true rfl, Nat.le_of_ble_eq_true rfl⟩ (fun h12 hq => ?_)
  subst hq
  refine WA_h (HM_new rfl) ?_
  refine A_astore_n (lv1 := [some (.ref sc), some (.ref b), some (.ref (b + 55)), none]) dL_law_15 rfl (Nat.le_of_ble_eq_true rfl) rfl rfl ?_
  refine A_iconst (v := 0) dL_law_16 (by decide) ?_
  refine A_istore_n (lv1 := [some (.ref sc), some (.ref b), some (.ref (b + 55)), some (.int 0)]) dL_law_17 rfl (Nat.le_of_ble_eq_true rfl) rfl rfl ?_
  refine WA_h (show HM (b + 55) c0M cz0 (HC b c0C co0 (h00 b).1 (b + 55)).1 (b + 55 + 21) = HCM b c0C co0 c0M cz0 (fun _ => none) (b + 76) from (HCM_sw (b := b) (c := c0C) (co := co0) (m := c0M) (ml := cz0) (r := fun _ => none) (n := b + 76)).symm) ?_
  exact Law_loop G X hX hL (L / 6) 0 _ _ _ _ _ _ _ _ (Nat.zero_add _) (LJ_new (Nat.le_refl _)) (Nat.le_of_ble_eq_true rfl) (Nat.le_of_ble_eq_true rfl)