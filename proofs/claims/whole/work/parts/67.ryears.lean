/-! THE REFERENCE: years drawn -/
def dN (s : Nat) : Nat → Nat
  | 0 => s
  | i + 1 => (1103515245 * dN s i + 12345) % 2147483648
theorem dN_lt {s : Nat} (h : s < 2147483648) : ∀ i, dN s i < 2147483648
  | 0 => h
  | i + 1 => Nat.mod_lt _ (by decide)
theorem dr_step {a : Nat} (h : a < 2147483648) : rmL (1103515245 * lN a + 12345) 2147483648 = lN ((1103515245 * a + 12345) % 2147483648) := by
  have e1 : (1103515245 : Int64) * lN a = lN (1103515245 * a) := lN_mul 1103515245 a
  have e2 : lN (1103515245 * a) + 12345 = lN (1103515245 * a + 12345) := lN_add (1103515245 * a) 12345
  rw [rmL, e1, e2]
  exact pk_lRem (b := 2147483648) (by omega) (by decide) (by decide)
theorem drS_N {s : Nat} (h : s < 2147483648) : ∀ i, drS (lN s) i = lN (dN s i)
  | 0 => rfl
  | i + 1 => by rw [drS, drS_N h i, dr_step (dN_lt h i), dN]
theorem dr_q {a : Nat} (h : a < 2147483648) : rmL (lN a / 65536) 100 = lN (a / 65536 % 100) := by
  have e1 : lN a / 65536 = lN (a / 65536) := pk_lDiv (b := 65536) (by omega) (by decide) (by decide)
  rw [rmL, e1]
  exact pk_lRem (b := 100) (by omega) (by decide) (by decide)
theorem lN_i32 {q : Nat} (h : q < 2147483648) : (lN q).toInt32 = nI q := by
  apply Int32.toInt_inj.mp
  rw [Int64.toInt_toInt32, pk_lT (by omega), nI_toInt (by omega)]
  exact Int.bmod_eq_of_le (by omega) (by omega)
theorem dr_lt {q : Nat} {x : Int32} (h : q < 2147483648) : nI q < x ↔ lN q < x.toInt64 := by
  rw [Int32.lt_iff_toInt_lt, Int64.lt_iff_toInt_lt, nI_toInt (by omega), pk_lT (by omega), Int32.toInt_toInt64]
theorem or_0 (x : Int32) : x ||| 0 = x := by simp
theorem k_draw (G : GX) {b : Nat} {m : CT} {ml : Nat → Nat → Int64} {r : Nat → Option AE} {n a : Nat} (ha : ml 0 35 = lN a) (ha2 : a < 2147483648) : MA G 0 yX10_draw cX10_draw 1 (some .int) 0 0 [.ref b] (HM b m ml r n) (qI fun x9 h1 => x9 = nI ((1103515245 * a + 12345) % 2147483648 / 65536 % 100) ∧ h1 = HM b m (put ml 0 35 (lN ((1103515245 * a + 12345) % 2147483648))) r n) := by
  refine MA.of (own := RX10) false [some (.ref b)] (by decide +kernel) rfl (fun h => by cases h) (Nat.le_of_ble_eq_true rfl) rfl (fun X => ?_)
  refine A_aload_n dX10_draw_0 rfl rfl ?_
  refine A_ldc2 dX10_draw_1 w_1775 ?_
  refine A_aload_n dX10_draw_4 rfl rfl ?_
  refine A_get dX10_draw_5 f_X10_454 HM_at0 rfl ?_
  rw [ha]
  refine A_lmul dX10_draw_8 ?_
  refine A_ldc2 dX10_draw_9 w_1776 ?_
  refine A_ladd dX10_draw_12 ?_
  refine A_ldc2 dX10_draw_13 w_1777 ?_
  refine A_lrem dX10_draw_16 (by decide) ?_
  refine A_eqL (y := lN ((1103515245 * a + 12345) % 2147483648)) (dr_step ha2) ?_
  refine A_putM0L dX10_draw_17 p_X10_454 rfl (Nat.le_of_ble_eq_true rfl) rfl ?_
  refine A_aload_n dX10_draw_20 rfl rfl ?_
  refine A_get dX10_draw_21 f_X10_454 HM_at0 rfl ?_
  refine A_eqL (y := lN ((1103515245 * a + 12345) % 2147483648)) put_at ?_
  refine A_ldc2 dX10_draw_24 w_1778 ?_
  refine A_ldiv dX10_draw_27 (by decide) ?_
  refine A_ldc2 dX10_draw_28 w_1602 ?_
  refine A_lrem dX10_draw_31 (by decide) ?_
  refine A_eqL (y := lN ((1103515245 * a + 12345) % 2147483648 / 65536 % 100)) (dr_q (Nat.mod_lt _ (by decide))) ?_
  refine A_l2i dX10_draw_32 ?_
  refine A_eqI (lN_i32 (by omega)) ?_
  exact A_iret dX10_draw_33 ⟨rfl, rfl⟩ ⟨by decide, by decide⟩

theorem k_floodsDrawn (G : GX) {b : Nat} {c m : CT} {ml : Nat → Nat → Int64} {r : Nat → Option AE} {n : Nat} {nv nc nf nl wk s : Nat} (hI : IM m nv nc nf nl wk) (ho : ∀ i, i < nf → m 1 (108 + 3 * i + 2) = c 12 (4 * i + 2)) (hs : s < 2147483648) : MA G 1 yX10_floodsDrawn cX10_floodsDrawn 5 (some .int) 0 0 [.ref b, .long (lN s)] (HM b m ml r n) (qI fun x9 h1 => x9 = nI (drN (c 12) (lN s) nf) ∧ ∃ ml1, h1 = HM b m ml1 r n ∧ ml1 19 = ml 19) := by
  refine MA.of (own := RX10) false [some (.ref b), some (.long (lN s)), none, none, none] (by decide +kernel) rfl (fun h => by cases h) (Nat.le_of_ble_eq_true rfl) rfl (fun X => ?_)
  obtain ⟨hv, hv6, hc, hc8, hf, hf3, hl, hl8, hw, hw30, gC, gL⟩ := id hI
  have loop : ∀ (k i : Nat) (ml' : Nat → Nat → Int64), i + k = nf → ml' 19 = ml 19 → ml' 0 35 = lN (dN s i) → WA X G RX10 cX10_floodsDrawn false (some .int) (qI fun x9 h1 => x9 = nI (drN (c 12) (lN s) nf) ∧ ∃ ml1, h1 = HM b m ml1 r n ∧ ml1 19 = ml 19) 1 0 0 (HM b m ml' r n) 0 0 10 [some (.ref b), some (.long (lN s)), none, some (.int (nI (drN (c 12) (lN s) i))), some (.int (nI i))] [] := by
    intro k
    induction k with
    | zero =>
      intro i ml' hk h19 hdr
      refine A_iload dX10_floodsDrawn_10 rfl ?_
      refine A_aload_n dX10_floodsDrawn_12 rfl rfl ?_
      refine A_get dX10_floodsDrawn_13 f_X10_9 HM_at0 rfl ?_
      refine A_iconst (v := 2) dX10_floodsDrawn_16 (by decide) ?_
      refine A_ialdK (i := 2) dX10_floodsDrawn_17 (HM_at (by decide)) rfl (by omega) (by decide) ?_
      refine A_icmp_ge 52 dX10_floodsDrawn_18 (by decide) (fun c18 => ?_) (fun c18 => ?_)
      · refine A_iload_n dX10_floodsDrawn_52 rfl rfl ?_
        exact A_iret dX10_floodsDrawn_53 ⟨by rw [show nf = i by omega], _, rfl, h19⟩ ⟨by decide, by decide⟩
      · exact absurd (by rw [hf]; exact nI_le (by omega) (by omega)) c18
    | succ k ih =>
      intro i ml' hk h19 hdr
      have hi : i < nf := by omega
      have h1 := drN_lt (o := c 12) (x := lN s) i
      have h2 : (1103515245 * dN s i + 12345) % 2147483648 = dN s (i + 1) := rfl
      have hq := dN_lt hs (i + 1)
      have hd : rmL (drS (lN s) (i + 1) / 65536) 100 = lN (dN s (i + 1) / 65536 % 100) := by rw [drS_N hs, dr_q hq]
      have hs1 : drN (c 12) (lN s) (i + 1) = if lN (dN s (i + 1) / 65536 % 100) < (c 12 (4 * i + 2)).toInt64 then drN (c 12) (lN s) i + 2 ^ i else drN (c 12) (lN s) i := by rw [drN, hd]
      refine A_iload dX10_floodsDrawn_10 rfl ?_
      refine A_aload_n dX10_floodsDrawn_12 rfl rfl ?_
      refine A_get dX10_floodsDrawn_13 f_X10_9 HM_at0 rfl ?_
      refine A_iconst (v := 2) dX10_floodsDrawn_16 (by decide) ?_
      refine A_ialdK (i := 2) dX10_floodsDrawn_17 (HM_at (by decide)) rfl (by omega) (by decide) ?_
      refine A_icmp_ge 52 dX10_floodsDrawn_18 (by decide) (fun c18 => ?_) (fun c18 => ?_)
      · exact absurd c18 (by rw [hf]; exact nI_ge (by omega) (by omega))
      · refine A_iload_n dX10_floodsDrawn_21 rfl rfl ?_
        refine A_aload_n dX10_floodsDrawn_22 rfl rfl ?_
        refine A_callVi dX10_floodsDrawn_23 m_X10_463 cb_X10_draw (As := []) rfl HM_at0 rfl (k_draw G hdr (dN_lt hs i)) rfl ⟨by decide, by decide⟩ (Nat.le_of_ble_eq_true rfl) ⟨by decide, by decide⟩ (fun x23 h23 hq => ?_)
        obtain ⟨rfl, rfl⟩ := hq
        rw [h2]
        refine A_aload_n dX10_floodsDrawn_26 rfl rfl ?_
        refine A_iload dX10_floodsDrawn_27 rfl ?_
        refine A_iconst (v := 2) dX10_floodsDrawn_29 (by decide) ?_
        refine A_callVi dX10_floodsDrawn_30 m_X10_252 cb_X10_ofFlood (As := [_, _]) rfl HM_at0 rfl (k_ofFlood G 2 (by omega) (by decide)) rfl ⟨by decide, by decide⟩ (Nat.le_of_ble_eq_true rfl) ⟨by decide, by decide⟩ (fun x30 h30 hq => ?_)
        obtain ⟨rfl, rfl⟩ := hq
        rw [ho i hi]
        refine A_icmp_ge 43 dX10_floodsDrawn_33 (by decide) (fun c33 => ?_) (fun c33 => ?_)
        · refine A_iconst (v := 0) dX10_floodsDrawn_43 (by decide) ?_
          refine A_ior dX10_floodsDrawn_44 ?_
          refine A_eqI (y := nI (drN (c 12) (lN s) (i + 1))) (by rw [hs1, if_neg (fun z => absurd ((dr_lt (by omega)).mpr z) (Int32.not_lt.mpr c33))]; exact or_0 _) ?_
          refine A_istore_n (lv1 := [_, _, _, _, _]) dX10_floodsDrawn_45 rfl (Nat.le_of_ble_eq_true rfl) rfl rfl ?_
          refine A_inc 1 (lv1 := [_, _, _, _, _]) dX10_floodsDrawn_46 rfl (by decide) rfl rfl ?_
          refine A_goto 10 dX10_floodsDrawn_49 (by decide) ?_
          rw [nI_1]
          exact ih (i + 1) _ (by omega) ((put_ne (by decide)).trans h19) put_at
        · refine A_iconst (v := 1) dX10_floodsDrawn_36 (by decide) ?_
          refine A_iload dX10_floodsDrawn_37 rfl ?_
          refine A_ishl dX10_floodsDrawn_39 ?_
          refine A_goto 44 dX10_floodsDrawn_40 (by decide) ?_
          refine A_ior dX10_floodsDrawn_44 ?_
          refine A_eqI (y := nI (drN (c 12) (lN s) (i + 1))) (by rw [hs1, if_pos ((dr_lt (by omega)).mp (Int32.not_le.mp c33))]; exact or_bit i (by omega) _ h1) ?_
          refine A_istore_n (lv1 := [_, _, _, _, _]) dX10_floodsDrawn_45 rfl (Nat.le_of_ble_eq_true rfl) rfl rfl ?_
          refine A_inc 1 (lv1 := [_, _, _, _, _]) dX10_floodsDrawn_46 rfl (by decide) rfl rfl ?_
          refine A_goto 10 dX10_floodsDrawn_49 (by decide) ?_
          rw [nI_1]
          exact ih (i + 1) _ (by omega) ((put_ne (by decide)).trans h19) put_at
  refine A_aload_n dX10_floodsDrawn_0 rfl rfl ?_
  refine A_lload_n dX10_floodsDrawn_1 rfl rfl ?_
  refine A_putM0L dX10_floodsDrawn_2 p_X10_454 rfl (Nat.le_of_ble_eq_true rfl) rfl ?_
  refine A_iconst (v := 0) dX10_floodsDrawn_5 (by decide) ?_
  refine A_istore_n (lv1 := [_, _, _, _, _]) dX10_floodsDrawn_6 rfl (Nat.le_of_ble_eq_true rfl) rfl rfl ?_
  refine A_iconst (v := 0) dX10_floodsDrawn_7 (by decide) ?_
  refine A_istore (lv1 := [_, _, _, _, _]) dX10_floodsDrawn_8 (Nat.le_of_ble_eq_true rfl) rfl rfl ?_
  exact loop nf 0 _ (by omega) (put_ne (by decide)) put_at

theorem seed_i {x : Int32} : inL x.toInt64 0 2000000000 = seedI x := by
  have e0 : (x.toInt64 < 0) ↔ x < 0 := i64_lt (y := 0)
  have e1 : (2000000000 : Int64) < x.toInt64 ↔ (2000000000 : Int32) < x := i64_lt (x := 2000000000)
  simp only [inL, seedI, e0, e1]
theorem seed_N {x : Int32} (h : ¬ seedI x = 0) : ∃ s : Nat, s ≤ 2000000000 ∧ x = nI s := by
  have h1 : ¬ (x < 0 ∨ 2000000000 < x) := fun z => h (if_pos z)
  exact nI_of2 (M := 2000000000) (n := 2000000000) rfl (fun z => h1 (Or.inl z)) (by
    have h2 : ¬ (2000000000 : Int32) < x := fun z => h1 (Or.inr z)
    rw [Int32.lt_iff_toInt_lt] at h2
    rw [Int32.le_iff_toInt_le]; omega)
theorem many_i {x : Int32} : inL x.toInt64 1 20 = if ¬ x < 1 ∧ x ≤ 20 then 1 else 0 := by
  have e0 : (x.toInt64 < 1) ↔ x < 1 := i64_lt (y := 1)
  have e1 : (20 : Int64) < x.toInt64 ↔ (20 : Int32) < x := i64_lt (x := 20)
  have e2 : (20 : Int32) < x ↔ ¬ x ≤ 20 := by rw [Int32.lt_iff_toInt_lt, Int32.le_iff_toInt_le]; omega
  simp only [inL, e0, e1, e2]
  by_cases a : x < 1 <;> by_cases b : x ≤ 20 <;> simp [a, b]
theorem t3 {t : Int32} (h : ¬ inI t (nI 3) = 0) : t = 0 ∨ t = 1 ∨ t = 2 := by
  obtain ⟨j, hj, rfl⟩ := inI_of rfl h (by decide)
  match j, hj with
  | 0, _ => exact Or.inl rfl
  | 1, _ => exact Or.inr (Or.inl rfl)
  | 2, _ => exact Or.inr (Or.inr rfl)
theorem k_year_ (G : GX) {b : Nat} {c m : CT} {ml : Nat → Nat → Int64} {r : Nat → Option AE} {n : Nat} {nv nc nf nl wk : Nat} {sd t : Int32} (h : BL nv nc nf nl wk c m) : MA G 4 yX10_year_ cX10_year_ 4 (some .int) 0 0 [.ref b, .int sd, .int t] (HM b m ml r n) (qI fun x9 h1 => x9 = yearA c nv nf sd t ∧ ∃ m1 ml1, h1 = HM b m1 ml1 r n ∧ KM m ml m1 ml1) := by
  refine MA.of (own := RX10) false [some (.ref b), some (.int sd), some (.int t), none] (by decide +kernel) rfl (fun h => by cases h) (Nat.le_of_ble_eq_true rfl) rfl (fun X => ?_)
  have hX := h.ix
  obtain ⟨xv, xv6, xc, xc8, xf, xf3, xl, xl8, xw, xw30, xC, xL⟩ := id hX
  have hI := h.im
  obtain ⟨hv, hv6, hc, hc8, hf, hf3, hl, hl8, hw, hw30, gC, gL⟩ := id hI
  have hT := h.tm
  refine A_aload_n dX10_year__0 rfl rfl ?_
  refine A_callVi dX10_year__1 m_X10_322 cb_X10_isPlain (As := []) rfl HM_at0 rfl (k_isPlain G) rfl ⟨by decide, by decide⟩ (Nat.le_of_ble_eq_true rfl) ⟨by decide, by decide⟩ (fun x1 h1 hq => ?_)
  obtain ⟨rfl, rfl⟩ := hq
  refine A_eqI (pl_i h) ?_
  refine A_if_eq 31 dX10_year__4 (by decide) (fun c4 => ?_) (fun c4 => ?_)
  · refine A_bipush (v := (-2)) dX10_year__31 (by decide) ?_
    exact A_iret dX10_year__33 ⟨by rw [yearA, if_neg (fun z => (fun z => by rw [if_pos z] at c4; exact absurd c4 (by decide)) z.1)], ⟨_, _, rfl, KM.rf⟩⟩ ⟨by decide, by decide⟩
  · refine A_iload_n dX10_year__7 rfl rfl ?_
    refine A_i2l dX10_year__8 ?_
    refine A_lconst (v := 0) dX10_year__9 (by decide) ?_
    refine A_ldc2 dX10_year__10 w_1766 ?_
    refine A_callSi dX10_year__13 m_X10_85 cb_X10_in (As := [_, _, _]) rfl (k_in G) rfl ⟨by decide, by decide⟩ (Nat.le_of_ble_eq_true rfl) ⟨by decide, by decide⟩ (fun x13 h13 hq => ?_)
    obtain ⟨rfl, rfl⟩ := hq
    refine A_eqI seed_i ?_
    refine A_if_eq 31 dX10_year__16 (by decide) (fun c16 => ?_) (fun c16 => ?_)
    · refine A_bipush (v := (-2)) dX10_year__31 (by decide) ?_
      exact A_iret dX10_year__33 ⟨by rw [yearA, if_neg (fun z => z.2 c16)], ⟨_, _, rfl, KM.rf⟩⟩ ⟨by decide, by decide⟩
    · refine A_iload_n dX10_year__19 rfl rfl ?_
      refine A_i2l dX10_year__20 ?_
      refine A_lconst (v := 0) dX10_year__21 (by decide) ?_
      refine A_ldc2 dX10_year__22 w_1291 ?_
      refine A_callSi dX10_year__25 m_X10_85 cb_X10_in (As := [_, _, _]) rfl (k_in G) rfl ⟨by decide, by decide⟩ (Nat.le_of_ble_eq_true rfl) ⟨by decide, by decide⟩ (fun x25 h25 hq => ?_)
      obtain ⟨rfl, rfl⟩ := hq
      refine A_eqI (inL_n 2 (by decide) (by decide)) ?_
      refine A_if_ne 34 dX10_year__28 (by decide) (fun c28 => ?_) (fun c28 => ?_)
      · have hp : 0 < c 6 5 := (by by_cases z : 0 < c 6 5; exact z; exact absurd (if_neg z) c4)
        obtain ⟨s, hs, rfl⟩ := seed_N c16
        have eA : yearA c nv nf (nI s) t = if t = 0 then BR c (comeC c nv nf (nI s)) else if t = 1 then SH c (comeC c nv nf (nI s)) else if t = 2 then nI (drN (c 12) (nI s).toInt64 nf) else -2 := if_pos ⟨hp, c16⟩
        refine A_aload_n dX10_year__34 rfl rfl ?_
        refine A_iload_n dX10_year__35 rfl rfl ?_
        refine A_i2l dX10_year__36 ?_
        rw [show (nI s).toInt64 = lN s from nI_l (by omega)]
        refine A_callVi dX10_year__37 m_X10_468 cb_X10_floodsDrawn (As := [_]) rfl HM_at0 rfl (k_floodsDrawn (c := c) G hI (fun i hi => (h.sp.2.2.1 i hi 2 (by decide)).symm) (by omega)) rfl ⟨by decide, by decide⟩ (Nat.le_of_ble_eq_true rfl) ⟨by decide, by decide⟩ (fun x37 h37 hq => ?_)
        obtain ⟨rfl, ml1, rfl, h19⟩ := hq
        obtain ⟨S, D⟩ := way_sim (k := codeN c nv nf) (fl := drN (c 12) (lN s) nf) h OT.rf h.code
        have hM2 := hI.to (runM_R (fl := drN (c 12) (lN s) nf) (m := m)).w
        have e1 := br_sim ⟨S, D⟩ h.nb
        have e2 := sh_sim ⟨S, D⟩ h.nb
        refine A_istore_n (lv1 := [_, _, _, _]) dX10_year__40 rfl (Nat.le_of_ble_eq_true rfl) rfl rfl ?_
        refine A_aload_n dX10_year__41 rfl rfl ?_
        refine A_iload_n dX10_year__42 rfl rfl ?_
        refine A_callVv dX10_year__43 m_X10_294 cb_X10_runs (As := [_]) rfl HM_at0 rfl (k_runs G hI hT (drN_8 (by omega))) rfl ⟨by decide, by decide⟩ (Nat.le_of_ble_eq_true rfl) ⟨by decide, by decide⟩ (fun h43 hq => ?_)
        obtain rfl := hq
        refine A_iload_n dX10_year__46 rfl rfl ?_
        refine A_if_ne 57 dX10_year__47 (by decide) (fun c47 => ?_) (fun c47 => ?_)
        · refine A_iload_n dX10_year__57 rfl rfl ?_
          refine A_iconst (v := 1) dX10_year__58 (by decide) ?_
          refine A_icmp_ne 69 dX10_year__59 (by decide) (fun c59 => ?_) (fun c59 => ?_)
          · refine A_iload_n dX10_year__69 rfl rfl ?_
            exact A_iret dX10_year__70 ⟨by rw [eA, if_neg c47, if_neg c59, if_pos (by rcases t3 c28 with z | z | z; exact absurd z c47; exact absurd z c59; exact z), nI_l (by omega)], _, _, rfl, runM_R.k, h19⟩ ⟨by decide, by decide⟩
          · refine A_aload_n dX10_year__62 rfl rfl ?_
            refine A_callVi dX10_year__63 m_X10_345 cb_X10_shortOfAll (As := []) rfl HM_at0 rfl (k_shortOfAll G hM2) rfl ⟨by decide, by decide⟩ (Nat.le_of_ble_eq_true rfl) ⟨by decide, by decide⟩ (fun x63 h63 hq => ?_)
            obtain ⟨rfl, rfl⟩ := hq
            refine A_goto 70 dX10_year__66 (by decide) ?_
            exact A_iret dX10_year__70 ⟨by rw [eA, if_neg c47, if_pos c59, e2, comeC, nI_l (by omega)]; rfl, _, _, rfl, runM_R.k, h19⟩ ⟨by decide, by decide⟩
        · refine A_aload_n dX10_year__50 rfl rfl ?_
          refine A_callVi dX10_year__51 m_X10_327 cb_X10_brought (As := []) rfl HM_at0 rfl (k_brought G hM2) rfl ⟨by decide, by decide⟩ (Nat.le_of_ble_eq_true rfl) ⟨by decide, by decide⟩ (fun x51 h51 hq => ?_)
          obtain ⟨rfl, rfl⟩ := hq
          refine A_goto 70 dX10_year__54 (by decide) ?_
          exact A_iret dX10_year__70 ⟨by rw [eA, if_pos c47, e1, comeC, nI_l (by omega)]; rfl, _, _, rfl, runM_R.k, h19⟩ ⟨by decide, by decide⟩
      · refine A_bipush (v := (-2)) dX10_year__31 (by decide) ?_
        exact A_iret dX10_year__33 ⟨by rw [yearA]; split; rw [if_neg (show ¬ t = 0 from in_out c28 (by decide) 0 (by decide)), if_neg (show ¬ t = 1 from in_out c28 (by decide) 1 (by decide)), if_neg (show ¬ t = 2 from in_out c28 (by decide) 2 (by decide))]; rfl, ⟨_, _, rfl, KM.rf⟩⟩ ⟨by decide, by decide⟩

theorem years_loop (G : GX) (X : XC) {b : Nat} {c m : CT} {ml : Nat → Nat → Int64} {r : Nat → Option AE} {n : Nat} {nv nc nf nl wk : Nat} {u1 u2 : Nat} (hu : u1 = 0 ∧ u2 = 0) (h : BL nv nc nf nl wk c m) {s N : Nat} (hs : s ≤ 2000000000) (hN : N ≤ 20) : ∀ (k i : Nat) (m' : CT) (ml' : Nat → Nat → Int64), i + k = N → sameR m m' → ml' 19 = ml 19 → WA X G RX10 cX10_years false (some .int) (qI fun x9 h1 => x9 = nI (ysF c nv nf (nI s) N) ∧ ∃ m1 ml1, h1 = HM b m1 ml1 r n ∧ KM m ml m1 ml1) 4 0 0 (HM b m' ml' r n) u1 u2 39 [some (.ref b), some (.int (nI s)), some (.int (nI N)), some (.int (nI (ysF c nv nf (nI s) i))), some (.int (nI i))] [] := by
  obtain ⟨rfl, rfl⟩ := hu
  intro k
  induction k with
  | zero =>
    intro i m' ml' hk hR h19
    refine A_iload dX10_years_39 rfl ?_
    refine A_iload_n dX10_years_41 rfl rfl ?_
    refine A_icmp_ge 80 dX10_years_42 (by decide) (fun c42 => ?_) (fun c42 => ?_)
    · refine A_iload_n dX10_years_80 rfl rfl ?_
      exact A_iret dX10_years_81 ⟨by rw [show N = i by omega], _, _, rfl, hR.k, h19⟩ ⟨by decide, by decide⟩
    · exact absurd (nI_le (by omega) (by omega)) c42
  | succ k ih =>
    intro i m' ml' hk hR h19
    have hO := sameR.O (nf := nf) OT.rf hR
    have hI' := hO.im h.im
    have hC := sameR.C h.code hR
    have hT' := hC.TM h.nb.1
    have es : (nI s + nI i).toInt64 = lN (s + i) := by rw [nI_add]; exact nI_l (by omega)
    obtain ⟨S, D⟩ := way_sim (k := codeN c nv nf) (fl := drN (c 12) (lN (s + i)) nf) h hO hC
    have hR2 := hR.tr (runM_R (fl := drN (c 12) (lN (s + i)) nf) (m := m'))
    have hM2 := hI'.to (runM_R (fl := drN (c 12) (lN (s + i)) nf) (m := m')).w
    have e2 := sh_sim ⟨S, D⟩ h.nb
    have eS : SH c (comeC c nv nf (nI s + nI i)) = SH c (comeN nv nf (codeN c nv nf) (drN (c 12) (lN (s + i)) nf)) := by rw [comeC, es]
    refine A_iload dX10_years_39 rfl ?_
    refine A_iload_n dX10_years_41 rfl rfl ?_
    refine A_icmp_ge 80 dX10_years_42 (by decide) (fun c42 => ?_) (fun c42 => ?_)
    · exact absurd c42 (nI_ge (by omega) (by omega))
    · refine A_aload_n dX10_years_45 rfl rfl ?_
      refine A_aload_n dX10_years_46 rfl rfl ?_
      refine A_iload_n dX10_years_47 rfl rfl ?_
      refine A_i2l dX10_years_48 ?_
      refine A_iload dX10_years_49 rfl ?_
      refine A_i2l dX10_years_51 ?_
      refine A_ladd dX10_years_52 ?_
      refine A_eqL (y := lN (s + i)) (by rw [nI_l (by omega), nI_l (by omega), lN_add]) ?_
      refine A_callVi dX10_years_53 m_X10_468 cb_X10_floodsDrawn (As := [_]) rfl HM_at0 rfl (k_floodsDrawn (c := c) G hI' (fun q hq => by rw [hR.w]; exact (h.sp.2.2.1 q hq 2 (by decide)).symm) (by omega)) rfl ⟨by decide, by decide⟩ (Nat.le_of_ble_eq_true rfl) ⟨by decide, by decide⟩ (fun x53 h53 hq => ?_)
      obtain ⟨rfl, ml1, rfl, h191⟩ := hq
      refine A_callVv dX10_years_56 m_X10_294 cb_X10_runs (As := [_]) rfl HM_at0 rfl (k_runs G hI' hT' (drN_8 h.nb.2.2.1)) rfl ⟨by decide, by decide⟩ (Nat.le_of_ble_eq_true rfl) ⟨by decide, by decide⟩ (fun h56 hq => ?_)
      obtain rfl := hq
      obtain ⟨y1, ey1⟩ : ∃ y, runM (drN (c 12) (lN (s + i)) nf) m' = y := ⟨_, rfl⟩
      rw [ey1] at S hR2 hM2 e2 ⊢
      refine A_iload_n dX10_years_59 rfl rfl ?_
      refine A_aload_n dX10_years_60 rfl rfl ?_
      refine A_callVi dX10_years_61 m_X10_345 cb_X10_shortOfAll (As := []) rfl HM_at0 rfl (k_shortOfAll G hM2) rfl ⟨by decide, by decide⟩ (Nat.le_of_ble_eq_true rfl) ⟨by decide, by decide⟩ (fun x61 h61 hq => ?_)
      obtain ⟨rfl, rfl⟩ := hq
      refine A_eqI e2 ?_
      refine A_if_ne 71 dX10_years_64 (by decide) (fun c64 => ?_) (fun c64 => ?_)
      · refine A_iconst (v := 0) dX10_years_71 (by decide) ?_
        refine A_iadd dX10_years_72 ?_
        refine A_eqI (y := nI (ysF c nv nf (nI s) (i + 1))) (by rw [ysF, if_neg (fun z => c64 (eS.symm.trans z))]; exact nI_add _ 0) ?_
        refine A_istore_n (lv1 := [_, _, _, _, _]) dX10_years_73 rfl (Nat.le_of_ble_eq_true rfl) rfl rfl ?_
        refine A_inc 1 (lv1 := [_, _, _, _, _]) dX10_years_74 rfl (by decide) rfl rfl ?_
        refine A_goto 39 dX10_years_77 (by decide) ?_
        rw [nI_1]
        exact ih (i + 1) y1 ml1 (by omega) hR2 (h191.trans h19)
      · refine A_iconst (v := 1) dX10_years_67 (by decide) ?_
        refine A_goto 72 dX10_years_68 (by decide) ?_
        refine A_iadd dX10_years_72 ?_
        refine A_eqI (y := nI (ysF c nv nf (nI s) (i + 1))) (by rw [ysF, if_pos (eS.trans c64)]; exact nI_1 _) ?_
        refine A_istore_n (lv1 := [_, _, _, _, _]) dX10_years_73 rfl (Nat.le_of_ble_eq_true rfl) rfl rfl ?_
        refine A_inc 1 (lv1 := [_, _, _, _, _]) dX10_years_74 rfl (by decide) rfl rfl ?_
        refine A_goto 39 dX10_years_77 (by decide) ?_
        rw [nI_1]
        exact ih (i + 1) y1 ml1 (by omega) hR2 (h191.trans h19)

theorem k_years (G : GX) {b : Nat} {c m : CT} {ml : Nat → Nat → Int64} {r : Nat → Option AE} {n : Nat} {nv nc nf nl wk : Nat} {sd k : Int32} (h : BL nv nc nf nl wk c m) : MA G 4 yX10_years cX10_years 5 (some .int) 0 0 [.ref b, .int sd, .int k] (HM b m ml r n) (qI fun x9 h1 => x9 = yearsA c nv nf sd k ∧ ∃ m1 ml1, h1 = HM b m1 ml1 r n ∧ KM m ml m1 ml1) := by
  refine MA.of (own := RX10) false [some (.ref b), some (.int sd), some (.int k), none, none] (by decide +kernel) rfl (fun h => by cases h) (Nat.le_of_ble_eq_true rfl) rfl (fun X => ?_)
  have hX := h.ix
  obtain ⟨xv, xv6, xc, xc8, xf, xf3, xl, xl8, xw, xw30, xC, xL⟩ := id hX
  have hI := h.im
  obtain ⟨hv, hv6, hc, hc8, hf, hf3, hl, hl8, hw, hw30, gC, gL⟩ := id hI
  have hT := h.tm
  refine A_aload_n dX10_years_0 rfl rfl ?_
  refine A_callVi dX10_years_1 m_X10_322 cb_X10_isPlain (As := []) rfl HM_at0 rfl (k_isPlain G) rfl ⟨by decide, by decide⟩ (Nat.le_of_ble_eq_true rfl) ⟨by decide, by decide⟩ (fun x1 h1 hq => ?_)
  obtain ⟨rfl, rfl⟩ := hq
  refine A_eqI (pl_i h) ?_
  refine A_if_eq 31 dX10_years_4 (by decide) (fun c4 => ?_) (fun c4 => ?_)
  · refine A_bipush (v := (-2)) dX10_years_31 (by decide) ?_
    exact A_iret dX10_years_33 ⟨by rw [yearsA, if_neg (fun z => (fun z => by rw [if_pos z] at c4; exact absurd c4 (by decide)) z.1)], ⟨_, _, rfl, KM.rf⟩⟩ ⟨by decide, by decide⟩
  · refine A_iload_n dX10_years_7 rfl rfl ?_
    refine A_i2l dX10_years_8 ?_
    refine A_lconst (v := 0) dX10_years_9 (by decide) ?_
    refine A_ldc2 dX10_years_10 w_1766 ?_
    refine A_callSi dX10_years_13 m_X10_85 cb_X10_in (As := [_, _, _]) rfl (k_in G) rfl ⟨by decide, by decide⟩ (Nat.le_of_ble_eq_true rfl) ⟨by decide, by decide⟩ (fun x13 h13 hq => ?_)
    obtain ⟨rfl, rfl⟩ := hq
    refine A_eqI seed_i ?_
    refine A_if_eq 31 dX10_years_16 (by decide) (fun c16 => ?_) (fun c16 => ?_)
    · refine A_bipush (v := (-2)) dX10_years_31 (by decide) ?_
      exact A_iret dX10_years_33 ⟨by rw [yearsA, if_neg (fun z => z.2.1 c16)], ⟨_, _, rfl, KM.rf⟩⟩ ⟨by decide, by decide⟩
    · refine A_iload_n dX10_years_19 rfl rfl ?_
      refine A_i2l dX10_years_20 ?_
      refine A_lconst (v := 1) dX10_years_21 (by decide) ?_
      refine A_ldc2 dX10_years_22 w_1783 ?_
      refine A_callSi dX10_years_25 m_X10_85 cb_X10_in (As := [_, _, _]) rfl (k_in G) rfl ⟨by decide, by decide⟩ (Nat.le_of_ble_eq_true rfl) ⟨by decide, by decide⟩ (fun x25 h25 hq => ?_)
      obtain ⟨rfl, rfl⟩ := hq
      refine A_eqI many_i ?_
      refine A_if_ne 34 dX10_years_28 (by decide) (fun c28 => ?_) (fun c28 => ?_)
      · have hp : 0 < c 6 5 := (by by_cases z : 0 < c 6 5; exact z; exact absurd (if_neg z) c4)
        obtain ⟨s, hs, rfl⟩ := seed_N c16
        have hk9 : ¬ k < 1 ∧ k ≤ 20 := by by_cases z : ¬ k < 1 ∧ k ≤ 20; exact z; exact absurd (if_neg z) c28
        have eA : yearsA c nv nf (nI s) k = nI (ysF c nv nf (nI s) (tcl k)) := if_pos ⟨hp, c16, hk9⟩
        obtain ⟨N, hN, rfl⟩ := nI_of2 (M := 20) (n := 20) rfl (fun z => hk9.1 (by rw [Int32.lt_iff_toInt_lt] at z ⊢; have : (1 : Int32).toInt = 1 := rfl; have : (0 : Int32).toInt = 0 := rfl; omega)) hk9.2
        rw [tcl_nI (by omega)] at eA
        rw [eA]
        refine A_iconst (v := 0) dX10_years_34 (by decide) ?_
        refine A_istore_n (lv1 := [_, _, _, _, _]) dX10_years_35 rfl (Nat.le_of_ble_eq_true rfl) rfl rfl ?_
        refine A_iconst (v := 0) dX10_years_36 (by decide) ?_
        refine A_istore (lv1 := [_, _, _, _, _]) dX10_years_37 (Nat.le_of_ble_eq_true rfl) rfl rfl ?_
        exact years_loop G X ⟨rfl, rfl⟩ h hs hN N 0 m ml (by omega) sameR.rf rfl
      · refine A_bipush (v := (-2)) dX10_years_31 (by decide) ?_
        exact A_iret dX10_years_33 ⟨by rw [yearsA, if_neg (fun z => by rw [if_pos z.2.2] at c28; exact absurd c28 (by decide))], ⟨_, _, rfl, KM.rf⟩⟩ ⟨by decide, by decide⟩
