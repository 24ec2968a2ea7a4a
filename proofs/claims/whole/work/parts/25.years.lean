/-! YEARS drawn -/
def rmL (x y : Int64) : Int64 := x - x / y * y
def drS (x : Int64) : Nat → Int64
  | 0 => x
  | i + 1 => rmL (1103515245 * drS x i + 12345) 2147483648
def drN (o : Nat → Int32) (x : Int64) : Nat → Nat
  | 0 => 0
  | i + 1 => if rmL (drS x (i + 1) / 65536) 100 < (o (4 * i + 2)).toInt64 then drN o x i + 2 ^ i else drN o x i
theorem drN_lt {o : Nat → Int32} {x : Int64} : ∀ k, drN o x k < 2 ^ k
  | 0 => by rw [drN]; decide
  | k + 1 => by
    have := drN_lt (o := o) (x := x) k
    rw [drN, Nat.pow_succ]
    split <;> omega
theorem drN_8 {o : Nat → Int32} {x : Int64} {k : Nat} (h : k ≤ 3) : drN o x k < 8 := Nat.lt_of_lt_of_le (drN_lt k) (Nat.pow_le_pow_right (n := 2) (by decide) h)
theorem or_bit : ∀ i, i < 3 → ∀ x, x < 2 ^ i → (nI x ||| ((1 : Int32) <<< (nI i &&& 31))) = nI (x + 2 ^ i) := by decide
def comeC (c : CT) (nv nf : Nat) (sd : Int32) : Nat := comeN nv nf (codeN c nv nf) (drN (c 12) sd.toInt64 nf)
def yearA (c : CT) (nv nf : Nat) (sd t : Int32) : Int32 := if 0 < c 6 5 ∧ ¬ seedI sd = 0 then if t = 0 then BR c (comeC c nv nf sd) else if t = 1 then SH c (comeC c nv nf sd) else if t = 2 then nI (drN (c 12) sd.toInt64 nf) else -2 else -2
def ysF (c : CT) (nv nf : Nat) (sd : Int32) : Nat → Nat
  | 0 => 0
  | i + 1 => if SH c (comeC c nv nf (sd + nI i)) = 0 then ysF c nv nf sd i + 1 else ysF c nv nf sd i
def yearsA (c : CT) (nv nf : Nat) (sd m : Int32) : Int32 := if 0 < c 6 5 ∧ ¬ seedI sd = 0 ∧ ¬ m < 1 ∧ m ≤ 20 then nI (ysF c nv nf sd (tcl m)) else -2
theorem c_drawn (G : GX) {b : Nat} {c : CT} {co : Nat → Nat → Option Nat} {r : Nat → Option AE} {n : Nat} {nv nc nf nl wk : Nat} {sd : Int32} (hI : IX c nv nc nf nl wk) : MA G 1 yX9_drawn cX9_drawn 6 (some .int) 0 0 [.ref b, .int sd] (HC b c co r n) (qI fun x h1 => x = nI (drN (c 12) sd.toInt64 nf) ∧ h1 = HC b c co r n) := by
  refine MA.of (own := RX9) false [some (.ref b), some (.int sd), none, none, none, none] (by decide +kernel) rfl (fun h => by cases h) (Nat.le_of_ble_eq_true rfl) rfl (fun X => ?_)
  obtain ⟨hv, hv6, hc, hc8, hf, hf3, hl, hl8, hw, hw30, gC, gL⟩ := id hI
  have h343 := tot_343 hv6 hf3
  have loop : ∀ (k i : Nat) , i + k = nf → WA X G RX9 cX9_drawn false (some .int) (qI fun x h1 => x = nI (drN (c 12) sd.toInt64 nf) ∧ h1 = HC b c co r n) 1 0 0 (HC b c co r n) 0 0 9 [some (.ref b), some (.int sd), some (.long (drS sd.toInt64 i)), none, some (.int (nI (drN (c 12) sd.toInt64 i))), some (.int (nI i))] [] := by
    intro k
    induction k with
    | zero =>
      intro i  hk 
      refine A_iload dX9_drawn_9 rfl ?_
      refine A_aload_n dX9_drawn_11 rfl rfl ?_
      refine A_get dX9_drawn_12 f_X9_28 HC_at0 rfl ?_
      refine A_get dX9_drawn_15 f_X9_117 (HC_at (by decide)) rfl ?_
      refine A_get dX9_drawn_18 f_X9_134 (HC_at (by decide)) rfl ?_
      refine A_icmp_ge 80 dX9_drawn_21 (by decide) (fun c21 => ?_) (fun c21 => ?_)
      · refine A_iload dX9_drawn_80 rfl ?_
        exact A_iret dX9_drawn_82 ⟨by rw [show i = nf by omega], rfl⟩ ⟨by decide, by decide⟩
      · exact absurd (by rw [hf]; exact nI_le (by omega) (by omega)) c21
    | succ k ih =>
      intro i  hk 
      have hi : i < nf := by omega
      refine A_iload dX9_drawn_9 rfl ?_
      refine A_aload_n dX9_drawn_11 rfl rfl ?_
      refine A_get dX9_drawn_12 f_X9_28 HC_at0 rfl ?_
      refine A_get dX9_drawn_15 f_X9_117 (HC_at (by decide)) rfl ?_
      refine A_get dX9_drawn_18 f_X9_134 (HC_at (by decide)) rfl ?_
      refine A_icmp_ge 80 dX9_drawn_21 (by decide) (fun c21 => ?_) (fun c21 => ?_)
      · exact absurd c21 (by rw [hf]; exact nI_ge (by omega) (by omega))
      · refine A_ldc2 dX9_drawn_24 w_1087 ?_
        refine A_lload_n dX9_drawn_27 rfl rfl ?_
        refine A_lmul dX9_drawn_28 ?_
        refine A_ldc2 dX9_drawn_29 w_1088 ?_
        refine A_ladd dX9_drawn_32 ?_
        refine A_ldc2 dX9_drawn_33 w_1089 ?_
        refine A_lrem dX9_drawn_36 (by decide) ?_
        refine A_eqL (y := rmL (1103515245 * drS sd.toInt64 i + 12345) 2147483648) rfl ?_
        refine A_lstore_n (lv1 := [_, _, _, _, _, _]) dX9_drawn_37 rfl (Nat.le_of_ble_eq_true rfl) rfl rfl ?_
        have eD : drS sd.toInt64 (i + 1) = rmL (1103515245 * drS sd.toInt64 i + 12345) 2147483648 := rfl
        have eN : drN (c 12) sd.toInt64 (i + 1) = if rmL (drS sd.toInt64 (i + 1) / 65536) 100 < (c 12 (4 * i + 2)).toInt64 then drN (c 12) sd.toInt64 i + 2 ^ i else drN (c 12) sd.toInt64 i := rfl
        rw [eD] at eN
        have ih2 := ih (i + 1) (by omega)
        rw [eD] at ih2
        refine A_lload_n dX9_drawn_38 rfl rfl ?_
        refine A_ldc2 dX9_drawn_39 w_1090 ?_
        refine A_ldiv dX9_drawn_42 (by decide) ?_
        refine A_ldc2 dX9_drawn_43 w_1091 ?_
        refine A_lrem dX9_drawn_46 (by decide) ?_
        refine A_eqL (y := rmL (rmL (1103515245 * drS sd.toInt64 i + 12345) 2147483648 / 65536) 100) rfl ?_
        refine A_aload_n dX9_drawn_47 rfl rfl ?_
        refine A_get dX9_drawn_48 f_X9_28 HC_at0 rfl ?_
        refine A_get dX9_drawn_51 f_X9_117 (HC_at (by decide)) rfl ?_
        refine A_iload dX9_drawn_54 rfl ?_
        refine A_iconst (v := 2) dX9_drawn_56 (by decide) ?_
        refine A_callVi dX9_drawn_57 m_X9_108 cb_X3_at (As := [_, _]) rfl (HC_at (by decide)) rfl (c_at11 G b c co r n 2 hf hf3 (by omega) (by decide)) rfl ⟨by decide, by decide⟩ (Nat.le_of_ble_eq_true rfl) ⟨by decide, by decide⟩ (fun x57 h57 hq => ?_)
        obtain ⟨rfl, rfl⟩ := hq
        refine A_i2l dX9_drawn_60 ?_
        refine A_lcmp dX9_drawn_61 ?_
        refine A_if_ge 74 dX9_drawn_62 (by decide) (fun c62 => ?_) (fun c62 => ?_)
        · refine A_inc 1 (lv1 := [_, _, _, _, _, _]) dX9_drawn_74 rfl (by decide) rfl rfl ?_
          refine A_goto 9 dX9_drawn_77 (by decide) ?_
          rw [nI_1]
          rw [eN, if_neg ((lgc_ge _ _).mp c62)] at ih2
          exact ih2
        · refine A_iload dX9_drawn_65 rfl ?_
          refine A_iconst (v := 1) dX9_drawn_67 (by decide) ?_
          refine A_iload dX9_drawn_68 rfl ?_
          refine A_ishl dX9_drawn_70 ?_
          refine A_ior dX9_drawn_71 ?_
          refine A_eqI (or_bit i (by omega) _ (drN_lt i)) ?_
          refine A_istore (lv1 := [_, _, _, _, _, _]) dX9_drawn_72 (Nat.le_of_ble_eq_true rfl) rfl rfl ?_
          refine A_inc 1 (lv1 := [_, _, _, _, _, _]) dX9_drawn_74 rfl (by decide) rfl rfl ?_
          refine A_goto 9 dX9_drawn_77 (by decide) ?_
          rw [nI_1]
          rw [eN, if_pos (Decidable.of_not_not (fun z => c62 ((lgc_ge _ _).mpr z)))] at ih2
          exact ih2
  refine A_iload_n dX9_drawn_0 rfl rfl ?_
  refine A_i2l dX9_drawn_1 ?_
  refine A_lstore_n (lv1 := [_, _, _, _, _, _]) dX9_drawn_2 rfl (Nat.le_of_ble_eq_true rfl) rfl rfl ?_
  refine A_iconst (v := 0) dX9_drawn_3 (by decide) ?_
  refine A_istore (lv1 := [_, _, _, _, _, _]) dX9_drawn_4 (Nat.le_of_ble_eq_true rfl) rfl rfl ?_
  refine A_iconst (v := 0) dX9_drawn_6 (by decide) ?_
  refine A_istore (lv1 := [_, _, _, _, _, _]) dX9_drawn_7 (Nat.le_of_ble_eq_true rfl) rfl rfl ?_
  exact loop nf 0 (by omega)

theorem c_year (G : GX) {b : Nat} {c : CT} {co : Nat → Nat → Option Nat} {r : Nat → Option AE} {n : Nat} {nv nc nf nl wk : Nat} {sd t : Int32} (hI : IX c nv nc nf nl wk) (hK : KX c nv nf) (hCa : CacheOk c (tot nv nf)) : MA G 6 yX9_year cX9_year 5 (some .int) 0 0 [.ref b, .int sd, .int t] (HC b c co r n) (qI fun x h1 => x = yearA c nv nf sd t ∧ ∃ c1, h1 = HC b c1 co r n ∧ keepC c c1 (tot nv nf)) := by
  refine MA.of (own := RX9) false [some (.ref b), some (.int sd), some (.int t), none, none] (by decide +kernel) rfl (fun h => by cases h) (Nat.le_of_ble_eq_true rfl) rfl (fun X => ?_)
  obtain ⟨hv, hv6, hc, hc8, hf, hf3, hl, hl8, hw, hw30, gC, gL⟩ := id hI
  have h343 := tot_343 hv6 hf3
  refine A_aload_n dX9_year_0 rfl rfl ?_
  refine A_callVi dX9_year_1 m_X9_124 cb_X9_hasPlain (As := []) rfl HC_at0 rfl (c_hasPlain G) rfl ⟨by decide, by decide⟩ (Nat.le_of_ble_eq_true rfl) ⟨by decide, by decide⟩ (fun x1 h1 hq => ?_)
  obtain ⟨rfl, rfl⟩ := hq
  refine A_if_eq 14 dX9_year_4 (by decide) (fun c4 => ?_) (fun c4 => ?_)
  · refine A_bipush (v := (-2)) dX9_year_14 (by decide) ?_
    exact A_iret dX9_year_16 ⟨by rw [yearA, if_neg (by rintro ⟨hp, ht⟩; first | (rw [if_pos hp] at c4; exact absurd c4 (by decide)) | exact ht c11)], ⟨c, rfl, keepC.rf hCa⟩⟩ ⟨by decide, by decide⟩
  · refine A_iload_n dX9_year_7 rfl rfl ?_
    refine A_callSi dX9_year_8 m_X9_388 cb_X9_isSeed (As := [_]) rfl (c_isSeed G) rfl ⟨by decide, by decide⟩ (Nat.le_of_ble_eq_true rfl) ⟨by decide, by decide⟩ (fun x8 h8 hq => ?_)
    obtain ⟨rfl, rfl⟩ := hq
    refine A_if_ne 17 dX9_year_11 (by decide) (fun c11 => ?_) (fun c11 => ?_)
    · refine A_aload_n dX9_year_17 rfl rfl ?_
      refine A_iload_n dX9_year_18 rfl rfl ?_
      have hp : 0 < c 6 5 ∧ ¬ seedI sd = 0 := ⟨by by_cases z : 0 < c 6 5; exact z; exact absurd (if_neg z) c4, c11⟩
      refine A_callVi dX9_year_19 m_X9_391 cb_X9_drawn (As := [_]) rfl HC_at0 rfl (c_drawn G hI) rfl ⟨by decide, by decide⟩ (Nat.le_of_ble_eq_true rfl) ⟨by decide, by decide⟩ (fun x19 h19 hq => ?_)
      obtain ⟨rfl, rfl⟩ := hq
      refine A_istore_n (lv1 := [_, _, _, _, _]) dX9_year_22 rfl (Nat.le_of_ble_eq_true rfl) rfl rfl ?_
      refine A_aload_n dX9_year_23 rfl rfl ?_
      refine A_get dX9_year_24 f_X9_59 HC_at0 rfl ?_
      refine A_aload_n dX9_year_27 rfl rfl ?_
      refine A_get dX9_year_28 f_X9_59 HC_at0 rfl ?_
      refine A_callVi dX9_year_31 m_X9_237 cb_X1_codeNow (As := []) rfl (HC_at (by decide)) rfl (c_codeNow G hI hK) rfl ⟨by decide, by decide⟩ (Nat.le_of_ble_eq_true rfl) ⟨by decide, by decide⟩ (fun x31 h31 hq => ?_)
      obtain ⟨rfl, rfl⟩ := hq
      refine A_iload_n dX9_year_34 rfl rfl ?_
      refine A_callVi dX9_year_35 m_X9_394 cb_X1_onlyComing (As := [_, _]) rfl (HC_at (by decide)) rfl (c_onlyComing G hI (Nat.lt_of_lt_of_le (codeN_lt hK) h343) (drN_8 hf3)) rfl ⟨by decide, by decide⟩ (Nat.le_of_ble_eq_true rfl) ⟨by decide, by decide⟩ (fun x35 h35 hq => ?_)
      obtain ⟨rfl, rfl⟩ := hq
      refine A_istore (lv1 := [_, _, _, _, _]) dX9_year_38 (Nat.le_of_ble_eq_true rfl) rfl rfl ?_
      refine A_aload_n dX9_year_40 rfl rfl ?_
      refine A_get dX9_year_41 f_X9_59 HC_at0 rfl ?_
      refine A_iload dX9_year_44 rfl ?_
      refine A_callVv dX9_year_46 m_X9_397 cb_X1_know (As := [_]) rfl (HC_at (by decide)) rfl (c_know G hI (comeN_lt (nv := nv) (nf := nf)) rfl hCa) rfl ⟨by decide, by decide⟩ (Nat.le_of_ble_eq_true rfl) ⟨by decide, by decide⟩ (fun h46 hq => ?_)
      obtain ⟨c1, rfl, hk1, hk2⟩ := hq
      have kp := keepC.KN hk1
      have hv2 := hk1.val comeN_lt hk2
      refine A_iload_n dX9_year_49 rfl rfl ?_
      by_cases s50_0 : t = 0
      · subst s50_0
        refine A_tableIn 76 dX9_year_50 (by decide) (by decide) rfl (by decide) ?_
        refine A_aload_n dX9_year_76 rfl rfl ?_
        refine A_get dX9_year_77 f_X9_59 HC_at0 rfl ?_
        refine A_iload dX9_year_80 rfl ?_
        refine A_callVi dX9_year_82 m_X9_225 cb_X1_broughtBy (As := [_]) rfl (HC_at (by decide)) rfl (c_broughtBy G (Nat.lt_of_lt_of_le comeN_lt h343)) rfl ⟨by decide, by decide⟩ (Nat.le_of_ble_eq_true rfl) ⟨by decide, by decide⟩ (fun x82 h82 hq => ?_)
        obtain ⟨rfl, rfl⟩ := hq
        exact A_iret dX9_year_85 ⟨by rw [yearA, if_pos hp, if_pos rfl]; exact hv2.1, c1, rfl, kp⟩ ⟨by decide, by decide⟩
      by_cases s50_1 : t = 1
      · subst s50_1
        refine A_tableIn 86 dX9_year_50 (by decide) (by decide) rfl (by decide) ?_
        refine A_aload_n dX9_year_86 rfl rfl ?_
        refine A_get dX9_year_87 f_X9_59 HC_at0 rfl ?_
        refine A_iload dX9_year_90 rfl ?_
        refine A_callVi dX9_year_92 m_X9_400 cb_X1_shortBy (As := [_]) rfl (HC_at (by decide)) rfl (c_shortBy G (Nat.lt_of_lt_of_le comeN_lt h343)) rfl ⟨by decide, by decide⟩ (Nat.le_of_ble_eq_true rfl) ⟨by decide, by decide⟩ (fun x92 h92 hq => ?_)
        obtain ⟨rfl, rfl⟩ := hq
        exact A_iret dX9_year_95 ⟨by rw [yearA, if_pos hp, if_neg (by decide), if_pos rfl]; exact hv2.2, c1, rfl, kp⟩ ⟨by decide, by decide⟩
      by_cases s50_2 : t = 2
      · subst s50_2
        refine A_tableIn 96 dX9_year_50 (by decide) (by decide) rfl (by decide) ?_
        refine A_iload_n dX9_year_96 rfl rfl ?_
        exact A_iret dX9_year_97 ⟨by rw [yearA, if_pos hp, if_neg (by decide), if_neg (by decide), if_pos rfl], c1, rfl, kp⟩ ⟨by decide, by decide⟩
      refine A_tableOut 98 dX9_year_50 (sw_out3 s50_0 s50_1 s50_2) (by decide) ?_
      refine A_bipush (v := (-2)) dX9_year_98 (by decide) ?_
      exact A_iret dX9_year_100 ⟨by rw [yearA, if_pos hp, if_neg s50_0, if_neg s50_1, if_neg s50_2], c1, rfl, kp⟩ ⟨by decide, by decide⟩
    · refine A_bipush (v := (-2)) dX9_year_14 (by decide) ?_
      exact A_iret dX9_year_16 ⟨by rw [yearA, if_neg (by rintro ⟨hp, ht⟩; first | (rw [if_pos hp] at c4; exact absurd c4 (by decide)) | exact ht c11)], ⟨c, rfl, keepC.rf hCa⟩⟩ ⟨by decide, by decide⟩

theorem years_w (G : GX) (X : XC) {b : Nat} {c : CT} {co : Nat → Nat → Option Nat} {r : Nat → Option AE} {n : Nat} {nv nc nf nl wk : Nat} {sd : Int32} {m : Nat} (hI : IX c nv nc nf nl wk) (hK : KX c nv nf) (hCa : CacheOk c (tot nv nf)) (hm : m ≤ 20) : WA X G RX9 cX9_years false (some .int) (qI fun x h1 => x = nI (ysF c nv nf sd m) ∧ ∃ c1, h1 = HC b c1 co r n ∧ keepC c c1 (tot nv nf)) 6 0 0 (HC b c co r n) 0 0 42 [some (.ref b), some (.int sd), some (.int (nI m)), some (.int 0), some (.int (nI (codeN c nv nf))), some (.int 0), none] [] := by
  obtain ⟨hv, hv6, hc, hc8, hf, hf3, hl, hl8, hw, hw30, gC, gL⟩ := id hI
  have h343 := tot_343 hv6 hf3
  have loop : ∀ (k i : Nat) (y : CT), i + k = m → (KN c y (tot nv nf)) → WA X G RX9 cX9_years false (some .int) (qI fun x h1 => x = nI (ysF c nv nf sd m) ∧ ∃ c1, h1 = HC b c1 co r n ∧ keepC c c1 (tot nv nf)) 6 0 0 (HC b y co r n) 0 0 42 [some (.ref b), some (.int sd), some (.int (nI m)), some (.int (nI (ysF c nv nf sd i))), some (.int (nI (codeN c nv nf))), some (.int (nI i)), none] [] := by
    intro k
    induction k with
    | zero =>
      intro i y hk hy
      refine A_iload dX9_years_42 rfl ?_
      refine A_iload_n dX9_years_44 rfl rfl ?_
      refine A_icmp_ge 97 dX9_years_45 (by decide) (fun c45 => ?_) (fun c45 => ?_)
      · refine A_iload_n dX9_years_97 rfl rfl ?_
        exact A_iret dX9_years_98 ⟨by rw [show i = m by omega], y, rfl, keepC.KN hy⟩ ⟨by decide, by decide⟩
      · exact absurd (by exact nI_le (by omega) (by omega)) c45
    | succ k ih =>
      intro i y hk hy
      have hi : i < m := by omega
      refine A_iload dX9_years_42 rfl ?_
      refine A_iload_n dX9_years_44 rfl rfl ?_
      refine A_icmp_ge 97 dX9_years_45 (by decide) (fun c45 => ?_) (fun c45 => ?_)
      · exact absurd c45 (by exact nI_ge (by omega) (by omega))
      · refine A_aload_n dX9_years_48 rfl rfl ?_
        refine A_get dX9_years_49 f_X9_59 HC_at0 rfl ?_
        refine A_iload dX9_years_52 rfl ?_
        refine A_aload_n dX9_years_54 rfl rfl ?_
        refine A_iload_n dX9_years_55 rfl rfl ?_
        refine A_iload dX9_years_56 rfl ?_
        refine A_iadd dX9_years_58 ?_
        refine A_callVi dX9_years_59 m_X9_391 cb_X9_drawn (As := [_]) rfl HC_at0 rfl (c_drawn G (hI.K hy.1)) rfl ⟨by decide, by decide⟩ (Nat.le_of_ble_eq_true rfl) ⟨by decide, by decide⟩ (fun x59 h59 hq => ?_)
        obtain ⟨rfl, rfl⟩ := hq
        rw [hy.1 12 (by decide)]
        refine A_callVi dX9_years_62 m_X9_394 cb_X1_onlyComing (As := [_, _]) rfl (HC_at (by decide)) rfl (c_onlyComing G (hI.K hy.1) (Nat.lt_of_lt_of_le (codeN_lt hK) h343) (drN_8 hf3)) rfl ⟨by decide, by decide⟩ (Nat.le_of_ble_eq_true rfl) ⟨by decide, by decide⟩ (fun x62 h62 hq => ?_)
        obtain ⟨rfl, rfl⟩ := hq
        refine A_istore (lv1 := [_, _, _, _, _, _, _]) dX9_years_65 (Nat.le_of_ble_eq_true rfl) rfl rfl ?_
        refine A_aload_n dX9_years_67 rfl rfl ?_
        refine A_get dX9_years_68 f_X9_59 HC_at0 rfl ?_
        refine A_iload dX9_years_71 rfl ?_
        refine A_callVv dX9_years_73 m_X9_397 cb_X1_know (As := [_]) rfl (HC_at (by decide)) rfl (c_know G (hI.K hy.1) (comeN_lt (nv := nv) (nf := nf)) rfl hy.2.1) rfl ⟨by decide, by decide⟩ (Nat.le_of_ble_eq_true rfl) ⟨by decide, by decide⟩ (fun h73 hq => ?_)
        obtain ⟨c1, rfl, hk1, hk2⟩ := hq
        have hy1 := hy.tr hk1
        have hv2 := hy1.val comeN_lt hk2
        have eY : ysF c nv nf sd (i + 1) = if SH c (comeC c nv nf (sd + nI i)) = 0 then ysF c nv nf sd i + 1 else ysF c nv nf sd i := rfl
        refine A_aload_n dX9_years_76 rfl rfl ?_
        refine A_get dX9_years_77 f_X9_59 HC_at0 rfl ?_
        refine A_iload dX9_years_80 rfl ?_
        refine A_callVi dX9_years_82 m_X9_400 cb_X1_shortBy (As := [_]) rfl (HC_at (by decide)) rfl (c_shortBy G (Nat.lt_of_lt_of_le comeN_lt h343)) rfl ⟨by decide, by decide⟩ (Nat.le_of_ble_eq_true rfl) ⟨by decide, by decide⟩ (fun x82 h82 hq => ?_)
        obtain ⟨rfl, rfl⟩ := hq
        refine A_eqI (show _ = SH c (comeC c nv nf (sd + nI i)) from hv2.2) ?_
        refine A_if_ne 91 dX9_years_85 (by decide) (fun c85 => ?_) (fun c85 => ?_)
        · refine A_inc 1 (lv1 := [_, _, _, _, _, _, _]) dX9_years_91 rfl (by decide) rfl rfl ?_
          refine A_goto 42 dX9_years_94 (by decide) ?_
          refine A_fg 6 (lv1 := [_, _, _, _, _, _, _]) rfl ?_
          rw [nI_1]
          have e := ih (i + 1) c1 (by omega) hy1
          rw [eY, if_neg c85] at e
          exact e
        · refine A_inc 1 (lv1 := [_, _, _, _, _, _, _]) dX9_years_88 rfl (by decide) rfl rfl ?_
          rw [nI_1]
          refine A_inc 1 (lv1 := [_, _, _, _, _, _, _]) dX9_years_91 rfl (by decide) rfl rfl ?_
          refine A_goto 42 dX9_years_94 (by decide) ?_
          refine A_fg 6 (lv1 := [_, _, _, _, _, _, _]) rfl ?_
          rw [nI_1]
          have e := ih (i + 1) c1 (by omega) hy1
          rw [eY, if_pos c85] at e
          exact e
  exact loop m 0 c (by omega) ⟨sameK.rf, hCa, fun _ h => h⟩
theorem c_years (G : GX) {b : Nat} {c : CT} {co : Nat → Nat → Option Nat} {r : Nat → Option AE} {n : Nat} {nv nc nf nl wk : Nat} {sd k : Int32} (hI : IX c nv nc nf nl wk) (hK : KX c nv nf) (hCa : CacheOk c (tot nv nf)) : MA G 6 yX9_years cX9_years 7 (some .int) 0 0 [.ref b, .int sd, .int k] (HC b c co r n) (qI fun x h1 => x = yearsA c nv nf sd k ∧ ∃ c1, h1 = HC b c1 co r n ∧ keepC c c1 (tot nv nf)) := by
  refine MA.of (own := RX9) false [some (.ref b), some (.int sd), some (.int k), none, none, none, none] (by decide +kernel) rfl (fun h => by cases h) (Nat.le_of_ble_eq_true rfl) rfl (fun X => ?_)
  obtain ⟨hv, hv6, hc, hc8, hf, hf3, hl, hl8, hw, hw30, gC, gL⟩ := id hI
  have h343 := tot_343 hv6 hf3
  refine A_aload_n dX9_years_0 rfl rfl ?_
  refine A_callVi dX9_years_1 m_X9_124 cb_X9_hasPlain (As := []) rfl HC_at0 rfl (c_hasPlain G) rfl ⟨by decide, by decide⟩ (Nat.le_of_ble_eq_true rfl) ⟨by decide, by decide⟩ (fun x1 h1 hq => ?_)
  obtain ⟨rfl, rfl⟩ := hq
  refine A_if_eq 25 dX9_years_4 (by decide) (fun c4 => ?_) (fun c4 => ?_)
  · refine A_bipush (v := (-2)) dX9_years_25 (by decide) ?_
    exact A_iret dX9_years_27 ⟨by rw [yearsA, if_neg (by rintro ⟨hp, ht, hm1, hm2⟩; first | (rw [if_pos hp] at c4; exact absurd c4 (by decide)) | exact ht c11 | exact hm1 c16 | exact c22 hm2)], ⟨c, rfl, keepC.rf hCa⟩⟩ ⟨by decide, by decide⟩
  · refine A_iload_n dX9_years_7 rfl rfl ?_
    refine A_callSi dX9_years_8 m_X9_388 cb_X9_isSeed (As := [_]) rfl (c_isSeed G) rfl ⟨by decide, by decide⟩ (Nat.le_of_ble_eq_true rfl) ⟨by decide, by decide⟩ (fun x8 h8 hq => ?_)
    obtain ⟨rfl, rfl⟩ := hq
    refine A_if_eq 25 dX9_years_11 (by decide) (fun c11 => ?_) (fun c11 => ?_)
    · refine A_bipush (v := (-2)) dX9_years_25 (by decide) ?_
      exact A_iret dX9_years_27 ⟨by rw [yearsA, if_neg (by rintro ⟨hp, ht, hm1, hm2⟩; first | (rw [if_pos hp] at c4; exact absurd c4 (by decide)) | exact ht c11 | exact hm1 c16 | exact c22 hm2)], ⟨c, rfl, keepC.rf hCa⟩⟩ ⟨by decide, by decide⟩
    · refine A_iload_n dX9_years_14 rfl rfl ?_
      refine A_iconst (v := 1) dX9_years_15 (by decide) ?_
      refine A_icmp_lt 25 dX9_years_16 (by decide) (fun c16 => ?_) (fun c16 => ?_)
      · refine A_bipush (v := (-2)) dX9_years_25 (by decide) ?_
        exact A_iret dX9_years_27 ⟨by rw [yearsA, if_neg (by rintro ⟨hp, ht, hm1, hm2⟩; first | (rw [if_pos hp] at c4; exact absurd c4 (by decide)) | exact ht c11 | exact hm1 c16 | exact c22 hm2)], ⟨c, rfl, keepC.rf hCa⟩⟩ ⟨by decide, by decide⟩
      · refine A_iload_n dX9_years_19 rfl rfl ?_
        refine A_bipush (v := 20) dX9_years_20 (by decide) ?_
        refine A_icmp_le 28 dX9_years_22 (by decide) (fun c22 => ?_) (fun c22 => ?_)
        · have hp : 0 < c 6 5 ∧ ¬ seedI sd = 0 ∧ ¬ k < 1 ∧ k ≤ 20 := ⟨by by_cases z : 0 < c 6 5; exact z; exact absurd (if_neg z) c4, c11, c16, c22⟩
          obtain ⟨m, hm, rfl⟩ : ∃ m, m ≤ 20 ∧ k = nI m := by
            have h1 := Int32.le_iff_toInt_le.mp c22
            have h2 : ¬ k.toInt < 1 := fun z => c16 (Int32.lt_iff_toInt_lt.mpr z)
            have h3 : (20 : Int32).toInt = 20 := rfl
            refine ⟨k.toInt.toNat, by omega, Int32.toInt_inj.mp ?_⟩
            rw [nI_toInt (by omega)]
            omega
          rw [show yearsA c nv nf sd (nI m) = nI (ysF c nv nf sd m) by rw [yearsA, if_pos hp, tcl_nI (by omega)]]
          refine A_iconst (v := 0) dX9_years_28 (by decide) ?_
          refine A_istore_n (lv1 := [_, _, _, _, _, _, _]) dX9_years_29 rfl (Nat.le_of_ble_eq_true rfl) rfl rfl ?_
          refine A_aload_n dX9_years_30 rfl rfl ?_
          refine A_get dX9_years_31 f_X9_59 HC_at0 rfl ?_
          refine A_callVi dX9_years_34 m_X9_237 cb_X1_codeNow (As := []) rfl (HC_at (by decide)) rfl (c_codeNow G hI hK) rfl ⟨by decide, by decide⟩ (Nat.le_of_ble_eq_true rfl) ⟨by decide, by decide⟩ (fun x34 h34 hq => ?_)
          obtain ⟨rfl, rfl⟩ := hq
          refine A_istore (lv1 := [_, _, _, _, _, _, _]) dX9_years_37 (Nat.le_of_ble_eq_true rfl) rfl rfl ?_
          refine A_iconst (v := 0) dX9_years_39 (by decide) ?_
          refine A_istore (lv1 := [_, _, _, _, _, _, _]) dX9_years_40 (Nat.le_of_ble_eq_true rfl) rfl rfl ?_
          exact years_w G X hI hK hCa hm
        · refine A_bipush (v := (-2)) dX9_years_25 (by decide) ?_
          exact A_iret dX9_years_27 ⟨by rw [yearsA, if_neg (by rintro ⟨hp, ht, hm1, hm2⟩; first | (rw [if_pos hp] at c4; exact absurd c4 (by decide)) | exact ht c11 | exact hm1 c16 | exact c22 hm2)], ⟨c, rfl, keepC.rf hCa⟩⟩ ⟨by decide, by decide⟩
