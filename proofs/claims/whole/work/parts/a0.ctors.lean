/-! CONSTRUCTORS: cells laid one behind the other -/
def nwL : AH → List AE → AH
  | h, [] => h
  | h, e :: es => nwL (nwH h e) es
theorem nwL_app {h : AH} : ∀ {es fs : List AE}, nwL (nwL h es) fs = nwL h (es ++ fs)
  | [], _ => rfl
  | e :: es, fs => by
    show nwL (nwL (nwH h e) es) fs = nwL (nwH h e) (es ++ fs)
    exact nwL_app
theorem nwL_2 {h : AH} : ∀ {es : List AE}, (nwL h es).2 = h.2 + es.length
  | [] => rfl
  | e :: es => by
    show (nwL (nwH h e) es).2 = _
    rw [nwL_2, List.length_cons]
    show h.2 + 1 + es.length = _
    omega
theorem nwL_lo {h : AH} : ∀ {es : List AE} {a : Nat}, a < h.2 → (nwL h es).1 a = h.1 a
  | [], _, _ => rfl
  | e :: es, a, ha => by
    show (nwL (nwH h e) es).1 a = _
    rw [nwL_lo (by show a < h.2 + 1; omega), nw_ne (by omega)]
theorem nwL_at {h : AH} : ∀ {es : List AE} {k a : Nat} {e : AE}, h.2 + k = a → es[k]? = some e → (nwL h es).1 a = some e
  | [], _, _, _, _, hk => by simp at hk
  | x :: es, 0, a, e, ha, hk => by
    subst ha
    cases hk
    show (nwL (nwH h x) es).1 (h.2 + 0) = _
    rw [nwL_lo (by show h.2 + 0 < h.2 + 1; omega)]
    exact nw_eq
  | x :: es, k + 1, a, e, ha, hk => by
    show (nwL (nwH h x) es).1 a = _
    exact nwL_at (k := k) (by show h.2 + 1 + k = a; omega) hk
theorem up_comm {h : AH} {a b : Nat} {e x : AE} (hab : a ≠ b) (hb : b = h.2) (ha : a ≠ h.2) : upH (nwH h x) a e = nwH (upH h a e) x := by
  refine Prod.ext ?_ rfl
  funext q
  show (if q = a then some e else if q = h.2 then some x else h.1 q) = (if q = h.2 then some x else if q = a then some e else h.1 q)
  by_cases h1 : q = a
  · rw [if_pos h1, if_neg (by omega), if_pos h1]
  · rw [if_neg h1, if_neg h1]
theorem nwL_upo {h : AH} : ∀ {es : List AE} {a : Nat} {e : AE}, a < h.2 → upH (nwL h es) a e = nwL (upH h a e) es
  | [], _, _, _ => rfl
  | x :: es, a, e, ha => by
    show upH (nwL (nwH h x) es) a e = nwL (nwH (upH h a e) x) es
    rw [nwL_upo (by show a < h.2 + 1; omega), up_comm (b := h.2) (by omega) rfl (by omega)]
theorem nwL_up {h : AH} : ∀ {es : List AE} {k a : Nat} {e : AE}, h.2 + k = a → k < es.length → upH (nwL h es) a e = nwL h (es.set k e)
  | [], k, _, _, _, hk => absurd hk (Nat.not_lt_zero k)
  | x :: es, 0, a, e, ha, _ => by
    subst ha
    show upH (nwL (nwH h x) es) (h.2 + 0) e = nwL (nwH h e) es
    rw [nwL_upo (by show h.2 + 0 < h.2 + 1; omega)]
    congr 1
    refine Prod.ext ?_ rfl
    funext q
    show (if q = h.2 + 0 then some e else if q = h.2 then some x else h.1 q) = (if q = h.2 then some e else h.1 q)
    by_cases h1 : q = h.2
    · simp [h1]
    · simp [h1]
  | x :: es, k + 1, a, e, ha, hk => by
    show upH (nwL (nwH h x) es) a e = nwL (nwH h x) (es.set k e)
    exact nwL_up (by show h.2 + 1 + k = a; omega) (Nat.lt_of_succ_lt_succ hk)
theorem nwL_f {h : AH} {es : List AE} : nwL h es = (fun a => if h.2 ≤ a ∧ a < h.2 + es.length then es[a - h.2]? else h.1 a, (nwL h es).2) ∨ True := Or.inr trivial
theorem nwL_hi {h : AH} {es : List AE} {a : Nat} (ha : h.2 + es.length ≤ a) (hh : h.1 a = none ∨ True) : (nwL h es).1 a = h.1 a := by
  induction es generalizing h with
  | nil => rfl
  | cons e es ih =>
    rw [List.length_cons] at ha
    show (nwL (nwH h e) es).1 a = _
    rw [ih (by show h.2 + 1 + es.length ≤ a; omega) (Or.inr trivial), nw_ne (by omega)]
theorem WA_L {X : XC} {G : GX} {own : String} {cc : ByteArray} {ini : Bool} {ret : Option FieldType} {Qp : Option Value → AH → Prop} {d mc ms : Nat} {uc us pc : Nat} {lv : List (Option Value)} {st : List Value} {h : AH} {es : List AE} {e : AE} (es1 : List AE) (a : Nat) (h1 : es ++ [e] = es1) (h2 : h.2 + es.length = a) (k : WA X G own cc ini ret Qp d mc ms (nwL h es1) uc us pc lv (.ref a :: st)) : WA X G own cc ini ret Qp d mc ms (nwH (nwL h es) e) uc us pc lv (.ref (nwL h es).2 :: st) := by
  subst h1; subst h2
  rw [← nwL_app] at k
  rw [nwL_2]
  exact k
theorem WA_N {X : XC} {G : GX} {own : String} {cc : ByteArray} {ini : Bool} {ret : Option FieldType} {Qp : Option Value → AH → Prop} {d mc ms : Nat} {uc us pc : Nat} {lv : List (Option Value)} {st : List Value} {h : AH} {es : List AE} {e : AE} (a : Nat) (h2 : h.2 + es.length = a) (k : WA X G own cc ini ret Qp d mc ms (nwL (nwL h es) [e]) uc us pc lv (.ref a :: st)) : WA X G own cc ini ret Qp d mc ms (nwH (nwL h es) e) uc us pc lv (.ref (nwL h es).2 :: st) := by
  subst h2
  rw [nwL_2]
  exact k
theorem WA_U {X : XC} {G : GX} {own : String} {cc : ByteArray} {ini : Bool} {ret : Option FieldType} {Qp : Option Value → AH → Prop} {d mc ms : Nat} {uc us pc : Nat} {lv : List (Option Value)} {st : List Value} {h : AH} {es : List AE} {e : AE} {a : Nat} (k : Nat) (es1 : List AE) (h1 : es.set k e = es1) (h2 : h.2 + k = a) (h3 : k < es.length) (kk : WA X G own cc ini ret Qp d mc ms (nwL h es1) uc us pc lv st) : WA X G own cc ini ret Qp d mc ms (upH (nwL h es) a e) uc us pc lv st := by
  subst h1
  rw [nwL_up h2 h3]
  exact kk
theorem WA_A {X : XC} {G : GX} {own : String} {cc : ByteArray} {ini : Bool} {ret : Option FieldType} {Qp : Option Value → AH → Prop} {d mc ms : Nat} {uc us pc : Nat} {lv : List (Option Value)} {st : List Value} {h : AH} {es fs : List AE} (es1 : List AE) (h1 : es ++ fs = es1) (k : WA X G own cc ini ret Qp d mc ms (nwL h es1) uc us pc lv st) : WA X G own cc ini ret Qp d mc ms (nwL (nwL h es) fs) uc us pc lv st := by
  subst h1
  rw [nwL_app]
  exact k
theorem i_X6 (G : GX) {h : AH} {a : Nat} (ha : h.2 = a) : MA G 1 yX6_init cX6_init 1 none 1 1600 [.ref a] (nwL h [ob 6 [.null, .int 0]]) (qV fun h1 => h1 = nwL h [ob 6 [.ref (a + 1), .int 0], aB 1600 (fun _ => 0)]) := by
  refine MA.of (own := RX6) true [some (.ref a)] (by decide +kernel) rfl (fun h => rfl) (Nat.le_of_ble_eq_true rfl) rfl (fun X => ?_)
  refine A_aload_n dX6_init_0 rfl rfl ?_
  refine A_objInit dX6_init_1 w_34 (by decide) ⟨Nat.zero_le _, Nat.zero_le _⟩ ?_
  refine A_aload_n dX6_init_4 rfl rfl ?_
  refine A_sipush (v := 1600) dX6_init_5 (by decide) ?_
  refine A_newB (N := 1600) dX6_init_8 w_45 (by decide) (by decide) (by decide) (Nat.le_of_ble_eq_true rfl) (Nat.le_of_ble_eq_true rfl) ?_
  refine WA_L [ob 6 [.null, .int 0], aB 1600 (fun _ => 0)] (a + 1) rfl (by rw [ha]; rfl) ?_
  refine A_putF rfl dX6_init_10 p_X6_11 (nwL_at (k := 0) ha rfl) (Nat.le_of_ble_eq_true rfl) rfl rfl ?_
  refine WA_U 0 [ob 6 [.ref (a + 1), .int 0], aB 1600 (fun _ => 0)] rfl ha (Nat.le_of_ble_eq_true rfl) ?_
  exact A_vret dX6_init_13 rfl ⟨Nat.le_of_ble_eq_true rfl, Nat.le_of_ble_eq_true rfl⟩
theorem i_X7 (G : GX) {h : AH} {a t : Nat} (ha : h.2 = a) : MA G 1 yX7_init cX7_init 2 none 0 0 [.ref a, .ref t] (nwL h [ob 7 [.null, .int 0, .int 0, .int 0, .int 0]]) (qV fun h1 => h1 = nwL h [ob 7 [.ref t, .int 0, .int 0, .int 0, .int 0]]) := by
  refine MA.of (own := RX7) true [some (.ref a), some (.ref t)] (by decide +kernel) rfl (fun h => rfl) (Nat.le_of_ble_eq_true rfl) rfl (fun X => ?_)
  refine A_aload_n dX7_init_0 rfl rfl ?_
  refine A_objInit dX7_init_1 w_57 (by decide) ⟨Nat.zero_le _, Nat.zero_le _⟩ ?_
  refine A_aload_n dX7_init_4 rfl rfl ?_
  refine A_aload_n dX7_init_5 rfl rfl ?_
  refine A_putF rfl dX7_init_6 p_X7_9 (nwL_at (k := 0) ha rfl) (Nat.le_of_ble_eq_true rfl) rfl rfl ?_
  refine WA_U 0 [ob 7 [.ref t, .int 0, .int 0, .int 0, .int 0]] rfl ha (Nat.le_of_ble_eq_true rfl) ?_
  exact A_vret dX7_init_9 rfl ⟨Nat.le_of_ble_eq_true rfl, Nat.le_of_ble_eq_true rfl⟩
theorem i_X4 (G : GX) {h : AH} {a t : Nat} (ha : h.2 = a) : MA G 2 yX4_init cX4_init 2 none 2 10 [.ref a, .ref t] (nwL h [ob 4 [.null, .null, .null, .int 0, .int 0]]) (qV fun h1 => h1 = nwL h [ob 4 [.ref t, .ref (a + 2), .ref (a + 1), .int 0, .int (-1)], aI 5 (fun _ => 0), ob 7 [.ref t, .int 0, .int 0, .int 0, .int 0]]) := by
  refine MA.of (own := RX4) true [some (.ref a), some (.ref t)] (by decide +kernel) rfl (fun h => rfl) (Nat.le_of_ble_eq_true rfl) rfl (fun X => ?_)
  refine A_aload_n dX4_init_0 rfl rfl ?_
  refine A_objInit dX4_init_1 w_51 (by decide) ⟨Nat.zero_le _, Nat.zero_le _⟩ ?_
  refine A_aload_n dX4_init_4 rfl rfl ?_
  refine A_iconst (v := 5) dX4_init_5 (by decide) ?_
  refine A_newI (N := 5) dX4_init_6 w_77 (by decide) (by decide) (by decide) (Nat.le_of_ble_eq_true rfl) (Nat.le_of_ble_eq_true rfl) ?_
  refine WA_L [ob 4 [.null, .null, .null, .int 0, .int 0], aI 5 (fun _ => 0)] (a + 1) rfl (by rw [ha]; rfl) ?_
  refine A_putF rfl dX4_init_8 p_X4_11 (nwL_at (k := 0) ha rfl) (Nat.le_of_ble_eq_true rfl) rfl rfl ?_
  refine WA_U 0 [ob 4 [.null, .null, .ref (a + 1), .int 0, .int 0], aI 5 (fun _ => 0)] rfl ha (Nat.le_of_ble_eq_true rfl) ?_
  refine A_aload_n dX4_init_11 rfl rfl ?_
  refine A_aload_n dX4_init_12 rfl rfl ?_
  refine A_putF rfl dX4_init_13 p_X4_15 (nwL_at (k := 0) ha rfl) (Nat.le_of_ble_eq_true rfl) rfl rfl ?_
  refine WA_U 0 [ob 4 [.ref t, .null, .ref (a + 1), .int 0, .int 0], aI 5 (fun _ => 0)] rfl ha (Nat.le_of_ble_eq_true rfl) ?_
  refine A_aload_n dX4_init_16 rfl rfl ?_
  refine A_new (ci := 7) (fs := [.null, .int 0, .int 0, .int 0, .int 0]) dX4_init_17 rfl ⟨w_52, w_53, w_4⟩ tyX7 tyX7_ok (by decide) (Nat.le_of_ble_eq_true rfl) (Nat.le_of_ble_eq_true rfl) ?_
  refine WA_N (a + 2) (by rw [ha]; rfl) ?_
  refine A_dup dX4_init_20 rfl ?_
  refine A_aload_n dX4_init_21 rfl rfl ?_
  refine A_callIv dX4_init_22 m_X4_21 cb_X7_init (As := [_]) rfl (i_X7 G (h := nwL h [ob 4 [.ref t, .null, .ref (a + 1), .int 0, .int 0], aI 5 (fun _ => 0)]) (a := a + 2) (by rw [nwL_2, ha]; rfl)) rfl ⟨by decide, by decide⟩ (Nat.le_of_ble_eq_true rfl) ⟨Nat.le_of_ble_eq_true rfl, Nat.le_of_ble_eq_true rfl⟩ (fun h22 hq => ?_)
  subst hq
  refine WA_A [ob 4 [.ref t, .null, .ref (a + 1), .int 0, .int 0], aI 5 (fun _ => 0), ob 7 [.ref t, .int 0, .int 0, .int 0, .int 0]] rfl ?_
  refine A_putF rfl dX4_init_25 p_X4_24 (nwL_at (k := 0) ha rfl) (Nat.le_of_ble_eq_true rfl) rfl rfl ?_
  refine WA_U 0 [ob 4 [.ref t, .ref (a + 2), .ref (a + 1), .int 0, .int 0], aI 5 (fun _ => 0), ob 7 [.ref t, .int 0, .int 0, .int 0, .int 0]] rfl ha (Nat.le_of_ble_eq_true rfl) ?_
  refine A_aload_n dX4_init_28 rfl rfl ?_
  refine A_iconst (v := (-1)) dX4_init_29 (by decide) ?_
  refine A_put dX4_init_30 p_X4_28 (nwL_at (k := 0) ha rfl) (Nat.le_of_ble_eq_true rfl) rfl rfl ?_
  refine WA_U 0 [ob 4 [.ref t, .ref (a + 2), .ref (a + 1), .int 0, .int (-1)], aI 5 (fun _ => 0), ob 7 [.ref t, .int 0, .int 0, .int 0, .int 0]] rfl ha (Nat.le_of_ble_eq_true rfl) ?_
  exact A_vret dX4_init_33 rfl ⟨Nat.le_of_ble_eq_true rfl, Nat.le_of_ble_eq_true rfl⟩
theorem i_X3 (G : GX) {h : AH} {a N : Nat} (ha : h.2 = a) {mo w : Int32} (h0 : ¬ mo * w < 0) (hN : (mo * w).toNatClampNeg = N) (hb : N * 4 ≤ 536870912) : MA G 1 yX3_init cX3_init 3 none 1 N [.ref a, .int mo, .int w] (nwL h [ob 3 [.int 0, .int 0, .null, .int 0]]) (qV fun h1 => h1 = nwL h [ob 3 [.int mo, .int w, .ref (a + 1), .int 0], aI N (fun _ => 0)]) := by
  refine MA.of (own := RX3) true [some (.ref a), some (.int mo), some (.int w)] (by decide +kernel) rfl (fun h => rfl) (Nat.le_of_ble_eq_true rfl) rfl (fun X => ?_)
  refine A_aload_n dX3_init_0 rfl rfl ?_
  refine A_objInit dX3_init_1 w_107 (by decide) ⟨Nat.zero_le _, Nat.zero_le _⟩ ?_
  refine A_aload_n dX3_init_4 rfl rfl ?_
  refine A_iload_n dX3_init_5 rfl rfl ?_
  refine A_putF rfl dX3_init_6 p_X3_7 (nwL_at (k := 0) ha rfl) (Nat.le_of_ble_eq_true rfl) rfl rfl ?_
  refine WA_U 0 [ob 3 [.int mo, .int 0, .null, .int 0]] rfl ha (Nat.le_of_ble_eq_true rfl) ?_
  refine A_aload_n dX3_init_9 rfl rfl ?_
  refine A_iload_n dX3_init_10 rfl rfl ?_
  refine A_putF rfl dX3_init_11 p_X3_13 (nwL_at (k := 0) ha rfl) (Nat.le_of_ble_eq_true rfl) rfl rfl ?_
  refine WA_U 0 [ob 3 [.int mo, .int w, .null, .int 0]] rfl ha (Nat.le_of_ble_eq_true rfl) ?_
  refine A_aload_n dX3_init_14 rfl rfl ?_
  refine A_iload_n dX3_init_15 rfl rfl ?_
  refine A_iload_n dX3_init_16 rfl rfl ?_
  refine A_imul dX3_init_17 ?_
  refine A_newI (N := N) dX3_init_18 w_77 h0 hN hb (by omega) (by omega) ?_
  refine WA_L [ob 3 [.int mo, .int w, .null, .int 0], aI N (fun _ => 0)] (a + 1) rfl (by rw [ha]; rfl) ?_
  refine A_putF rfl dX3_init_20 p_X3_16 (nwL_at (k := 0) ha rfl) (Nat.le_of_ble_eq_true rfl) rfl rfl ?_
  refine WA_U 0 [ob 3 [.int mo, .int w, .ref (a + 1), .int 0], aI N (fun _ => 0)] rfl ha (Nat.le_of_ble_eq_true rfl) ?_
  exact A_vret dX3_init_23 rfl ⟨by omega, by omega⟩
theorem i_X2 (G : GX) {h : AH} {a : Nat} (ha : h.2 = a) : MA G 2 yX2_init cX2_init 1 none 9 168 [.ref a] (nwL h [ob 2 [.null, .null, .null, .null, .null, .int 0, .int 0, .int 0, .int 0]]) (qV fun h1 => h1 = nwL h [ob 2 [.ref (a + 1), .ref (a + 3), .ref (a + 5), .ref (a + 7), .ref (a + 9), .int 0, .int 0, .int 0, .int 0], ob 3 [.int 6, .int 5, .ref (a + 2), .int 0], aI 30 (fun _ => 0), ob 3 [.int 8, .int 5, .ref (a + 4), .int 0], aI 40 (fun _ => 0), ob 3 [.int 3, .int 4, .ref (a + 6), .int 0], aI 12 (fun _ => 0), ob 3 [.int 8, .int 5, .ref (a + 8), .int 0], aI 40 (fun _ => 0), aI 30 (fun _ => 0)]) := by
  refine MA.of (own := RX2) true [some (.ref a)] (by decide +kernel) rfl (fun h => rfl) (Nat.le_of_ble_eq_true rfl) rfl (fun X => ?_)
  refine A_aload_n dX2_init_0 rfl rfl ?_
  refine A_objInit dX2_init_1 w_101 (by decide) ⟨Nat.zero_le _, Nat.zero_le _⟩ ?_
  refine A_aload_n dX2_init_4 rfl rfl ?_
  refine A_new (ci := 3) (fs := [.int 0, .int 0, .null, .int 0]) dX2_init_5 rfl ⟨w_102, w_103, w_6⟩ tyX3 tyX3_ok (by decide) (Nat.le_of_ble_eq_true rfl) (Nat.le_of_ble_eq_true rfl) ?_
  refine WA_N (a + 1) (by rw [ha]; rfl) ?_
  refine A_dup dX2_init_8 rfl ?_
  refine A_bipush (v := 6) dX2_init_9 (by decide) ?_
  refine A_iconst (v := 5) dX2_init_11 (by decide) ?_
  refine A_callIv dX2_init_12 m_X2_11 cb_X3_init (As := [_, _]) rfl (i_X3 G (h := nwL h [ob 2 [.null, .null, .null, .null, .null, .int 0, .int 0, .int 0, .int 0]]) (a := a + 1) (by rw [nwL_2, ha]; rfl) (N := 30) (by decide) (by decide) (by decide)) rfl ⟨by decide, by decide⟩ (Nat.le_of_ble_eq_true rfl) ⟨Nat.le_of_ble_eq_true rfl, Nat.le_of_ble_eq_true rfl⟩ (fun h12 hq => ?_)
  subst hq
  refine WA_A [ob 2 [.null, .null, .null, .null, .null, .int 0, .int 0, .int 0, .int 0], ob 3 [.int 6, .int 5, .ref (a + 2), .int 0], aI 30 (fun _ => 0)] rfl ?_
  refine A_putF rfl dX2_init_15 p_X2_14 (nwL_at (k := 0) ha rfl) (Nat.le_of_ble_eq_true rfl) rfl rfl ?_
  refine WA_U 0 [ob 2 [.ref (a + 1), .null, .null, .null, .null, .int 0, .int 0, .int 0, .int 0], ob 3 [.int 6, .int 5, .ref (a + 2), .int 0], aI 30 (fun _ => 0)] rfl ha (Nat.le_of_ble_eq_true rfl) ?_
  refine A_aload_n dX2_init_18 rfl rfl ?_
  refine A_new (ci := 3) (fs := [.int 0, .int 0, .null, .int 0]) dX2_init_19 rfl ⟨w_102, w_103, w_6⟩ tyX3 tyX3_ok (by decide) (Nat.le_of_ble_eq_true rfl) (Nat.le_of_ble_eq_true rfl) ?_
  refine WA_N (a + 3) (by rw [ha]; rfl) ?_
  refine A_dup dX2_init_22 rfl ?_
  refine A_bipush (v := 8) dX2_init_23 (by decide) ?_
  refine A_iconst (v := 5) dX2_init_25 (by decide) ?_
  refine A_callIv dX2_init_26 m_X2_11 cb_X3_init (As := [_, _]) rfl (i_X3 G (h := nwL h [ob 2 [.ref (a + 1), .null, .null, .null, .null, .int 0, .int 0, .int 0, .int 0], ob 3 [.int 6, .int 5, .ref (a + 2), .int 0], aI 30 (fun _ => 0)]) (a := a + 3) (by rw [nwL_2, ha]; rfl) (N := 40) (by decide) (by decide) (by decide)) rfl ⟨by decide, by decide⟩ (Nat.le_of_ble_eq_true rfl) ⟨Nat.le_of_ble_eq_true rfl, Nat.le_of_ble_eq_true rfl⟩ (fun h26 hq => ?_)
  subst hq
  refine WA_A [ob 2 [.ref (a + 1), .null, .null, .null, .null, .int 0, .int 0, .int 0, .int 0], ob 3 [.int 6, .int 5, .ref (a + 2), .int 0], aI 30 (fun _ => 0), ob 3 [.int 8, .int 5, .ref (a + 4), .int 0], aI 40 (fun _ => 0)] rfl ?_
  refine A_putF rfl dX2_init_29 p_X2_20 (nwL_at (k := 0) ha rfl) (Nat.le_of_ble_eq_true rfl) rfl rfl ?_
  refine WA_U 0 [ob 2 [.ref (a + 1), .ref (a + 3), .null, .null, .null, .int 0, .int 0, .int 0, .int 0], ob 3 [.int 6, .int 5, .ref (a + 2), .int 0], aI 30 (fun _ => 0), ob 3 [.int 8, .int 5, .ref (a + 4), .int 0], aI 40 (fun _ => 0)] rfl ha (Nat.le_of_ble_eq_true rfl) ?_
  refine A_aload_n dX2_init_32 rfl rfl ?_
  refine A_new (ci := 3) (fs := [.int 0, .int 0, .null, .int 0]) dX2_init_33 rfl ⟨w_102, w_103, w_6⟩ tyX3 tyX3_ok (by decide) (Nat.le_of_ble_eq_true rfl) (Nat.le_of_ble_eq_true rfl) ?_
  refine WA_N (a + 5) (by rw [ha]; rfl) ?_
  refine A_dup dX2_init_36 rfl ?_
  refine A_iconst (v := 3) dX2_init_37 (by decide) ?_
  refine A_iconst (v := 4) dX2_init_38 (by decide) ?_
  refine A_callIv dX2_init_39 m_X2_11 cb_X3_init (As := [_, _]) rfl (i_X3 G (h := nwL h [ob 2 [.ref (a + 1), .ref (a + 3), .null, .null, .null, .int 0, .int 0, .int 0, .int 0], ob 3 [.int 6, .int 5, .ref (a + 2), .int 0], aI 30 (fun _ => 0), ob 3 [.int 8, .int 5, .ref (a + 4), .int 0], aI 40 (fun _ => 0)]) (a := a + 5) (by rw [nwL_2, ha]; rfl) (N := 12) (by decide) (by decide) (by decide)) rfl ⟨by decide, by decide⟩ (Nat.le_of_ble_eq_true rfl) ⟨Nat.le_of_ble_eq_true rfl, Nat.le_of_ble_eq_true rfl⟩ (fun h39 hq => ?_)
  subst hq
  refine WA_A [ob 2 [.ref (a + 1), .ref (a + 3), .null, .null, .null, .int 0, .int 0, .int 0, .int 0], ob 3 [.int 6, .int 5, .ref (a + 2), .int 0], aI 30 (fun _ => 0), ob 3 [.int 8, .int 5, .ref (a + 4), .int 0], aI 40 (fun _ => 0), ob 3 [.int 3, .int 4, .ref (a + 6), .int 0], aI 12 (fun _ => 0)] rfl ?_
  refine A_putF rfl dX2_init_42 p_X2_23 (nwL_at (k := 0) ha rfl) (Nat.le_of_ble_eq_true rfl) rfl rfl ?_
  refine WA_U 0 [ob 2 [.ref (a + 1), .ref (a + 3), .ref (a + 5), .null, .null, .int 0, .int 0, .int 0, .int 0], ob 3 [.int 6, .int 5, .ref (a + 2), .int 0], aI 30 (fun _ => 0), ob 3 [.int 8, .int 5, .ref (a + 4), .int 0], aI 40 (fun _ => 0), ob 3 [.int 3, .int 4, .ref (a + 6), .int 0], aI 12 (fun _ => 0)] rfl ha (Nat.le_of_ble_eq_true rfl) ?_
  refine A_aload_n dX2_init_45 rfl rfl ?_
  refine A_new (ci := 3) (fs := [.int 0, .int 0, .null, .int 0]) dX2_init_46 rfl ⟨w_102, w_103, w_6⟩ tyX3 tyX3_ok (by decide) (Nat.le_of_ble_eq_true rfl) (Nat.le_of_ble_eq_true rfl) ?_
  refine WA_N (a + 7) (by rw [ha]; rfl) ?_
  refine A_dup dX2_init_49 rfl ?_
  refine A_bipush (v := 8) dX2_init_50 (by decide) ?_
  refine A_iconst (v := 5) dX2_init_52 (by decide) ?_
  refine A_callIv dX2_init_53 m_X2_11 cb_X3_init (As := [_, _]) rfl (i_X3 G (h := nwL h [ob 2 [.ref (a + 1), .ref (a + 3), .ref (a + 5), .null, .null, .int 0, .int 0, .int 0, .int 0], ob 3 [.int 6, .int 5, .ref (a + 2), .int 0], aI 30 (fun _ => 0), ob 3 [.int 8, .int 5, .ref (a + 4), .int 0], aI 40 (fun _ => 0), ob 3 [.int 3, .int 4, .ref (a + 6), .int 0], aI 12 (fun _ => 0)]) (a := a + 7) (by rw [nwL_2, ha]; rfl) (N := 40) (by decide) (by decide) (by decide)) rfl ⟨by decide, by decide⟩ (Nat.le_of_ble_eq_true rfl) ⟨Nat.le_of_ble_eq_true rfl, Nat.le_of_ble_eq_true rfl⟩ (fun h53 hq => ?_)
  subst hq
  refine WA_A [ob 2 [.ref (a + 1), .ref (a + 3), .ref (a + 5), .null, .null, .int 0, .int 0, .int 0, .int 0], ob 3 [.int 6, .int 5, .ref (a + 2), .int 0], aI 30 (fun _ => 0), ob 3 [.int 8, .int 5, .ref (a + 4), .int 0], aI 40 (fun _ => 0), ob 3 [.int 3, .int 4, .ref (a + 6), .int 0], aI 12 (fun _ => 0), ob 3 [.int 8, .int 5, .ref (a + 8), .int 0], aI 40 (fun _ => 0)] rfl ?_
  refine A_putF rfl dX2_init_56 p_X2_26 (nwL_at (k := 0) ha rfl) (Nat.le_of_ble_eq_true rfl) rfl rfl ?_
  refine WA_U 0 [ob 2 [.ref (a + 1), .ref (a + 3), .ref (a + 5), .ref (a + 7), .null, .int 0, .int 0, .int 0, .int 0], ob 3 [.int 6, .int 5, .ref (a + 2), .int 0], aI 30 (fun _ => 0), ob 3 [.int 8, .int 5, .ref (a + 4), .int 0], aI 40 (fun _ => 0), ob 3 [.int 3, .int 4, .ref (a + 6), .int 0], aI 12 (fun _ => 0), ob 3 [.int 8, .int 5, .ref (a + 8), .int 0], aI 40 (fun _ => 0)] rfl ha (Nat.le_of_ble_eq_true rfl) ?_
  refine A_aload_n dX2_init_59 rfl rfl ?_
  refine A_bipush (v := 30) dX2_init_60 (by decide) ?_
  refine A_newI (N := 30) dX2_init_62 w_77 (by decide) (by decide) (by decide) (Nat.le_of_ble_eq_true rfl) (Nat.le_of_ble_eq_true rfl) ?_
  refine WA_L [ob 2 [.ref (a + 1), .ref (a + 3), .ref (a + 5), .ref (a + 7), .null, .int 0, .int 0, .int 0, .int 0], ob 3 [.int 6, .int 5, .ref (a + 2), .int 0], aI 30 (fun _ => 0), ob 3 [.int 8, .int 5, .ref (a + 4), .int 0], aI 40 (fun _ => 0), ob 3 [.int 3, .int 4, .ref (a + 6), .int 0], aI 12 (fun _ => 0), ob 3 [.int 8, .int 5, .ref (a + 8), .int 0], aI 40 (fun _ => 0), aI 30 (fun _ => 0)] (a + 9) rfl (by rw [ha]; rfl) ?_
  refine A_putF rfl dX2_init_64 p_X2_29 (nwL_at (k := 0) ha rfl) (Nat.le_of_ble_eq_true rfl) rfl rfl ?_
  refine WA_U 0 [ob 2 [.ref (a + 1), .ref (a + 3), .ref (a + 5), .ref (a + 7), .ref (a + 9), .int 0, .int 0, .int 0, .int 0], ob 3 [.int 6, .int 5, .ref (a + 2), .int 0], aI 30 (fun _ => 0), ob 3 [.int 8, .int 5, .ref (a + 4), .int 0], aI 40 (fun _ => 0), ob 3 [.int 3, .int 4, .ref (a + 6), .int 0], aI 12 (fun _ => 0), ob 3 [.int 8, .int 5, .ref (a + 8), .int 0], aI 40 (fun _ => 0), aI 30 (fun _ => 0)] rfl ha (Nat.le_of_ble_eq_true rfl) ?_
  exact A_vret dX2_init_67 rfl ⟨Nat.le_of_ble_eq_true rfl, Nat.le_of_ble_eq_true rfl⟩
theorem i_X5 (G : GX) {h : AH} {a : Nat} (ha : h.2 = a) : MA G 1 yX5_init cX5_init 1 none 1 60 [.ref a] (nwL h [ob 5 [.null, .int 0, .int 0]]) (qV fun h1 => h1 = nwL h [ob 5 [.ref (a + 1), .int 0, .int 0], aJ 60 (fun _ => 0)]) := by
  refine MA.of (own := RX5) true [some (.ref a)] (by decide +kernel) rfl (fun h => rfl) (Nat.le_of_ble_eq_true rfl) rfl (fun X => ?_)
  refine A_aload_n dX5_init_0 rfl rfl ?_
  refine A_objInit dX5_init_1 w_1115 (by decide) ⟨Nat.zero_le _, Nat.zero_le _⟩ ?_
  refine A_aload_n dX5_init_4 rfl rfl ?_
  refine A_bipush (v := 60) dX5_init_5 (by decide) ?_
  refine A_newJ (N := 60) dX5_init_7 w_1129 (by decide) (by decide) (by decide) (Nat.le_of_ble_eq_true rfl) (Nat.le_of_ble_eq_true rfl) ?_
  refine WA_L [ob 5 [.null, .int 0, .int 0], aJ 60 (fun _ => 0)] (a + 1) rfl (by rw [ha]; rfl) ?_
  refine A_putF rfl dX5_init_9 p_X5_9 (nwL_at (k := 0) ha rfl) (Nat.le_of_ble_eq_true rfl) rfl rfl ?_
  refine WA_U 0 [ob 5 [.ref (a + 1), .int 0, .int 0], aJ 60 (fun _ => 0)] rfl ha (Nat.le_of_ble_eq_true rfl) ?_
  exact A_vret dX5_init_12 rfl ⟨Nat.le_of_ble_eq_true rfl, Nat.le_of_ble_eq_true rfl⟩
theorem i_X8 (G : GX) {h : AH} {a t : Nat} (ha : h.2 = a) : MA G 1 yX8_init cX8_init 2 none 13 252 [.ref a, .ref t] (nwL h [ob 8 [.null, .null, .int 0, .int 0, .null, .null, .null, .null, .null, .null, .null, .null, .null, .null, .null, .null, .int 0, .int 0, .int 0, .int 0]]) (qV fun h1 => h1 = nwL h [ob 8 [.ref t, .ref (a + 1), .int 0, .int 0, .ref (a + 2), .ref (a + 3), .ref (a + 4), .ref (a + 5), .ref (a + 6), .ref (a + 7), .ref (a + 8), .ref (a + 9), .ref (a + 10), .ref (a + 11), .ref (a + 12), .ref (a + 13), .int 0, .int 0, .int 0, .int 0], aI 3 (fun _ => 0), aI 6 (fun _ => 0), aI 180 (fun _ => 0), aI 3 (fun _ => 0), aI 3 (fun _ => 0), aI 3 (fun _ => 0), aI 8 (fun _ => 0), aI 8 (fun _ => 0), aI 8 (fun _ => 0), aI 8 (fun _ => 0), aI 8 (fun _ => 0), aI 8 (fun _ => 0), aZ 6 (fun _ => 0)]) := by
  refine MA.of (own := RX8) true [some (.ref a), some (.ref t)] (by decide +kernel) rfl (fun h => rfl) (Nat.le_of_ble_eq_true rfl) rfl (fun X => ?_)
  refine A_aload_n dX8_init_0 rfl rfl ?_
  refine A_objInit dX8_init_1 w_190 (by decide) ⟨Nat.zero_le _, Nat.zero_le _⟩ ?_
  refine A_aload_n dX8_init_4 rfl rfl ?_
  refine A_iconst (v := 3) dX8_init_5 (by decide) ?_
  refine A_newI (N := 3) dX8_init_6 w_77 (by decide) (by decide) (by decide) (Nat.le_of_ble_eq_true rfl) (Nat.le_of_ble_eq_true rfl) ?_
  refine WA_L [ob 8 [.null, .null, .int 0, .int 0, .null, .null, .null, .null, .null, .null, .null, .null, .null, .null, .null, .null, .int 0, .int 0, .int 0, .int 0], aI 3 (fun _ => 0)] (a + 1) rfl (by rw [ha]; rfl) ?_
  refine A_putF rfl dX8_init_8 p_X8_9 (nwL_at (k := 0) ha rfl) (Nat.le_of_ble_eq_true rfl) rfl rfl ?_
  refine WA_U 0 [ob 8 [.null, .ref (a + 1), .int 0, .int 0, .null, .null, .null, .null, .null, .null, .null, .null, .null, .null, .null, .null, .int 0, .int 0, .int 0, .int 0], aI 3 (fun _ => 0)] rfl ha (Nat.le_of_ble_eq_true rfl) ?_
  refine A_aload_n dX8_init_11 rfl rfl ?_
  refine A_bipush (v := 6) dX8_init_12 (by decide) ?_
  refine A_newI (N := 6) dX8_init_14 w_77 (by decide) (by decide) (by decide) (Nat.le_of_ble_eq_true rfl) (Nat.le_of_ble_eq_true rfl) ?_
  refine WA_L [ob 8 [.null, .ref (a + 1), .int 0, .int 0, .null, .null, .null, .null, .null, .null, .null, .null, .null, .null, .null, .null, .int 0, .int 0, .int 0, .int 0], aI 3 (fun _ => 0), aI 6 (fun _ => 0)] (a + 2) rfl (by rw [ha]; rfl) ?_
  refine A_putF rfl dX8_init_16 p_X8_15 (nwL_at (k := 0) ha rfl) (Nat.le_of_ble_eq_true rfl) rfl rfl ?_
  refine WA_U 0 [ob 8 [.null, .ref (a + 1), .int 0, .int 0, .ref (a + 2), .null, .null, .null, .null, .null, .null, .null, .null, .null, .null, .null, .int 0, .int 0, .int 0, .int 0], aI 3 (fun _ => 0), aI 6 (fun _ => 0)] rfl ha (Nat.le_of_ble_eq_true rfl) ?_
  refine A_aload_n dX8_init_19 rfl rfl ?_
  refine A_sipush (v := 180) dX8_init_20 (by decide) ?_
  refine A_newI (N := 180) dX8_init_23 w_77 (by decide) (by decide) (by decide) (Nat.le_of_ble_eq_true rfl) (Nat.le_of_ble_eq_true rfl) ?_
  refine WA_L [ob 8 [.null, .ref (a + 1), .int 0, .int 0, .ref (a + 2), .null, .null, .null, .null, .null, .null, .null, .null, .null, .null, .null, .int 0, .int 0, .int 0, .int 0], aI 3 (fun _ => 0), aI 6 (fun _ => 0), aI 180 (fun _ => 0)] (a + 3) rfl (by rw [ha]; rfl) ?_
  refine A_putF rfl dX8_init_25 p_X8_18 (nwL_at (k := 0) ha rfl) (Nat.le_of_ble_eq_true rfl) rfl rfl ?_
  refine WA_U 0 [ob 8 [.null, .ref (a + 1), .int 0, .int 0, .ref (a + 2), .ref (a + 3), .null, .null, .null, .null, .null, .null, .null, .null, .null, .null, .int 0, .int 0, .int 0, .int 0], aI 3 (fun _ => 0), aI 6 (fun _ => 0), aI 180 (fun _ => 0)] rfl ha (Nat.le_of_ble_eq_true rfl) ?_
  refine A_aload_n dX8_init_28 rfl rfl ?_
  refine A_iconst (v := 3) dX8_init_29 (by decide) ?_
  refine A_newI (N := 3) dX8_init_30 w_77 (by decide) (by decide) (by decide) (Nat.le_of_ble_eq_true rfl) (Nat.le_of_ble_eq_true rfl) ?_
  refine WA_L [ob 8 [.null, .ref (a + 1), .int 0, .int 0, .ref (a + 2), .ref (a + 3), .null, .null, .null, .null, .null, .null, .null, .null, .null, .null, .int 0, .int 0, .int 0, .int 0], aI 3 (fun _ => 0), aI 6 (fun _ => 0), aI 180 (fun _ => 0), aI 3 (fun _ => 0)] (a + 4) rfl (by rw [ha]; rfl) ?_
  refine A_putF rfl dX8_init_32 p_X8_21 (nwL_at (k := 0) ha rfl) (Nat.le_of_ble_eq_true rfl) rfl rfl ?_
  refine WA_U 0 [ob 8 [.null, .ref (a + 1), .int 0, .int 0, .ref (a + 2), .ref (a + 3), .ref (a + 4), .null, .null, .null, .null, .null, .null, .null, .null, .null, .int 0, .int 0, .int 0, .int 0], aI 3 (fun _ => 0), aI 6 (fun _ => 0), aI 180 (fun _ => 0), aI 3 (fun _ => 0)] rfl ha (Nat.le_of_ble_eq_true rfl) ?_
  refine A_aload_n dX8_init_35 rfl rfl ?_
  refine A_iconst (v := 3) dX8_init_36 (by decide) ?_
  refine A_newI (N := 3) dX8_init_37 w_77 (by decide) (by decide) (by decide) (Nat.le_of_ble_eq_true rfl) (Nat.le_of_ble_eq_true rfl) ?_
  refine WA_L [ob 8 [.null, .ref (a + 1), .int 0, .int 0, .ref (a + 2), .ref (a + 3), .ref (a + 4), .null, .null, .null, .null, .null, .null, .null, .null, .null, .int 0, .int 0, .int 0, .int 0], aI 3 (fun _ => 0), aI 6 (fun _ => 0), aI 180 (fun _ => 0), aI 3 (fun _ => 0), aI 3 (fun _ => 0)] (a + 5) rfl (by rw [ha]; rfl) ?_
  refine A_putF rfl dX8_init_39 p_X8_24 (nwL_at (k := 0) ha rfl) (Nat.le_of_ble_eq_true rfl) rfl rfl ?_
  refine WA_U 0 [ob 8 [.null, .ref (a + 1), .int 0, .int 0, .ref (a + 2), .ref (a + 3), .ref (a + 4), .ref (a + 5), .null, .null, .null, .null, .null, .null, .null, .null, .int 0, .int 0, .int 0, .int 0], aI 3 (fun _ => 0), aI 6 (fun _ => 0), aI 180 (fun _ => 0), aI 3 (fun _ => 0), aI 3 (fun _ => 0)] rfl ha (Nat.le_of_ble_eq_true rfl) ?_
  refine A_aload_n dX8_init_42 rfl rfl ?_
  refine A_iconst (v := 3) dX8_init_43 (by decide) ?_
  refine A_newI (N := 3) dX8_init_44 w_77 (by decide) (by decide) (by decide) (Nat.le_of_ble_eq_true rfl) (Nat.le_of_ble_eq_true rfl) ?_
  refine WA_L [ob 8 [.null, .ref (a + 1), .int 0, .int 0, .ref (a + 2), .ref (a + 3), .ref (a + 4), .ref (a + 5), .null, .null, .null, .null, .null, .null, .null, .null, .int 0, .int 0, .int 0, .int 0], aI 3 (fun _ => 0), aI 6 (fun _ => 0), aI 180 (fun _ => 0), aI 3 (fun _ => 0), aI 3 (fun _ => 0), aI 3 (fun _ => 0)] (a + 6) rfl (by rw [ha]; rfl) ?_
  refine A_putF rfl dX8_init_46 p_X8_27 (nwL_at (k := 0) ha rfl) (Nat.le_of_ble_eq_true rfl) rfl rfl ?_
  refine WA_U 0 [ob 8 [.null, .ref (a + 1), .int 0, .int 0, .ref (a + 2), .ref (a + 3), .ref (a + 4), .ref (a + 5), .ref (a + 6), .null, .null, .null, .null, .null, .null, .null, .int 0, .int 0, .int 0, .int 0], aI 3 (fun _ => 0), aI 6 (fun _ => 0), aI 180 (fun _ => 0), aI 3 (fun _ => 0), aI 3 (fun _ => 0), aI 3 (fun _ => 0)] rfl ha (Nat.le_of_ble_eq_true rfl) ?_
  refine A_aload_n dX8_init_49 rfl rfl ?_
  refine A_bipush (v := 8) dX8_init_50 (by decide) ?_
  refine A_newI (N := 8) dX8_init_52 w_77 (by decide) (by decide) (by decide) (Nat.le_of_ble_eq_true rfl) (Nat.le_of_ble_eq_true rfl) ?_
  refine WA_L [ob 8 [.null, .ref (a + 1), .int 0, .int 0, .ref (a + 2), .ref (a + 3), .ref (a + 4), .ref (a + 5), .ref (a + 6), .null, .null, .null, .null, .null, .null, .null, .int 0, .int 0, .int 0, .int 0], aI 3 (fun _ => 0), aI 6 (fun _ => 0), aI 180 (fun _ => 0), aI 3 (fun _ => 0), aI 3 (fun _ => 0), aI 3 (fun _ => 0), aI 8 (fun _ => 0)] (a + 7) rfl (by rw [ha]; rfl) ?_
  refine A_putF rfl dX8_init_54 p_X8_30 (nwL_at (k := 0) ha rfl) (Nat.le_of_ble_eq_true rfl) rfl rfl ?_
  refine WA_U 0 [ob 8 [.null, .ref (a + 1), .int 0, .int 0, .ref (a + 2), .ref (a + 3), .ref (a + 4), .ref (a + 5), .ref (a + 6), .ref (a + 7), .null, .null, .null, .null, .null, .null, .int 0, .int 0, .int 0, .int 0], aI 3 (fun _ => 0), aI 6 (fun _ => 0), aI 180 (fun _ => 0), aI 3 (fun _ => 0), aI 3 (fun _ => 0), aI 3 (fun _ => 0), aI 8 (fun _ => 0)] rfl ha (Nat.le_of_ble_eq_true rfl) ?_
  refine A_aload_n dX8_init_57 rfl rfl ?_
  refine A_bipush (v := 8) dX8_init_58 (by decide) ?_
  refine A_newI (N := 8) dX8_init_60 w_77 (by decide) (by decide) (by decide) (Nat.le_of_ble_eq_true rfl) (Nat.le_of_ble_eq_true rfl) ?_
  refine WA_L [ob 8 [.null, .ref (a + 1), .int 0, .int 0, .ref (a + 2), .ref (a + 3), .ref (a + 4), .ref (a + 5), .ref (a + 6), .ref (a + 7), .null, .null, .null, .null, .null, .null, .int 0, .int 0, .int 0, .int 0], aI 3 (fun _ => 0), aI 6 (fun _ => 0), aI 180 (fun _ => 0), aI 3 (fun _ => 0), aI 3 (fun _ => 0), aI 3 (fun _ => 0), aI 8 (fun _ => 0), aI 8 (fun _ => 0)] (a + 8) rfl (by rw [ha]; rfl) ?_
  refine A_putF rfl dX8_init_62 p_X8_33 (nwL_at (k := 0) ha rfl) (Nat.le_of_ble_eq_true rfl) rfl rfl ?_
  refine WA_U 0 [ob 8 [.null, .ref (a + 1), .int 0, .int 0, .ref (a + 2), .ref (a + 3), .ref (a + 4), .ref (a + 5), .ref (a + 6), .ref (a + 7), .ref (a + 8), .null, .null, .null, .null, .null, .int 0, .int 0, .int 0, .int 0], aI 3 (fun _ => 0), aI 6 (fun _ => 0), aI 180 (fun _ => 0), aI 3 (fun _ => 0), aI 3 (fun _ => 0), aI 3 (fun _ => 0), aI 8 (fun _ => 0), aI 8 (fun _ => 0)] rfl ha (Nat.le_of_ble_eq_true rfl) ?_
  refine A_aload_n dX8_init_65 rfl rfl ?_
  refine A_bipush (v := 8) dX8_init_66 (by decide) ?_
  refine A_newI (N := 8) dX8_init_68 w_77 (by decide) (by decide) (by decide) (Nat.le_of_ble_eq_true rfl) (Nat.le_of_ble_eq_true rfl) ?_
  refine WA_L [ob 8 [.null, .ref (a + 1), .int 0, .int 0, .ref (a + 2), .ref (a + 3), .ref (a + 4), .ref (a + 5), .ref (a + 6), .ref (a + 7), .ref (a + 8), .null, .null, .null, .null, .null, .int 0, .int 0, .int 0, .int 0], aI 3 (fun _ => 0), aI 6 (fun _ => 0), aI 180 (fun _ => 0), aI 3 (fun _ => 0), aI 3 (fun _ => 0), aI 3 (fun _ => 0), aI 8 (fun _ => 0), aI 8 (fun _ => 0), aI 8 (fun _ => 0)] (a + 9) rfl (by rw [ha]; rfl) ?_
  refine A_putF rfl dX8_init_70 p_X8_36 (nwL_at (k := 0) ha rfl) (Nat.le_of_ble_eq_true rfl) rfl rfl ?_
  refine WA_U 0 [ob 8 [.null, .ref (a + 1), .int 0, .int 0, .ref (a + 2), .ref (a + 3), .ref (a + 4), .ref (a + 5), .ref (a + 6), .ref (a + 7), .ref (a + 8), .ref (a + 9), .null, .null, .null, .null, .int 0, .int 0, .int 0, .int 0], aI 3 (fun _ => 0), aI 6 (fun _ => 0), aI 180 (fun _ => 0), aI 3 (fun _ => 0), aI 3 (fun _ => 0), aI 3 (fun _ => 0), aI 8 (fun _ => 0), aI 8 (fun _ => 0), aI 8 (fun _ => 0)] rfl ha (Nat.le_of_ble_eq_true rfl) ?_
  refine A_aload_n dX8_init_73 rfl rfl ?_
  refine A_bipush (v := 8) dX8_init_74 (by decide) ?_
  refine A_newI (N := 8) dX8_init_76 w_77 (by decide) (by decide) (by decide) (Nat.le_of_ble_eq_true rfl) (Nat.le_of_ble_eq_true rfl) ?_
  refine WA_L [ob 8 [.null, .ref (a + 1), .int 0, .int 0, .ref (a + 2), .ref (a + 3), .ref (a + 4), .ref (a + 5), .ref (a + 6), .ref (a + 7), .ref (a + 8), .ref (a + 9), .null, .null, .null, .null, .int 0, .int 0, .int 0, .int 0], aI 3 (fun _ => 0), aI 6 (fun _ => 0), aI 180 (fun _ => 0), aI 3 (fun _ => 0), aI 3 (fun _ => 0), aI 3 (fun _ => 0), aI 8 (fun _ => 0), aI 8 (fun _ => 0), aI 8 (fun _ => 0), aI 8 (fun _ => 0)] (a + 10) rfl (by rw [ha]; rfl) ?_
  refine A_putF rfl dX8_init_78 p_X8_39 (nwL_at (k := 0) ha rfl) (Nat.le_of_ble_eq_true rfl) rfl rfl ?_
  refine WA_U 0 [ob 8 [.null, .ref (a + 1), .int 0, .int 0, .ref (a + 2), .ref (a + 3), .ref (a + 4), .ref (a + 5), .ref (a + 6), .ref (a + 7), .ref (a + 8), .ref (a + 9), .ref (a + 10), .null, .null, .null, .int 0, .int 0, .int 0, .int 0], aI 3 (fun _ => 0), aI 6 (fun _ => 0), aI 180 (fun _ => 0), aI 3 (fun _ => 0), aI 3 (fun _ => 0), aI 3 (fun _ => 0), aI 8 (fun _ => 0), aI 8 (fun _ => 0), aI 8 (fun _ => 0), aI 8 (fun _ => 0)] rfl ha (Nat.le_of_ble_eq_true rfl) ?_
  refine A_aload_n dX8_init_81 rfl rfl ?_
  refine A_bipush (v := 8) dX8_init_82 (by decide) ?_
  refine A_newI (N := 8) dX8_init_84 w_77 (by decide) (by decide) (by decide) (Nat.le_of_ble_eq_true rfl) (Nat.le_of_ble_eq_true rfl) ?_
  refine WA_L [ob 8 [.null, .ref (a + 1), .int 0, .int 0, .ref (a + 2), .ref (a + 3), .ref (a + 4), .ref (a + 5), .ref (a + 6), .ref (a + 7), .ref (a + 8), .ref (a + 9), .ref (a + 10), .null, .null, .null, .int 0, .int 0, .int 0, .int 0], aI 3 (fun _ => 0), aI 6 (fun _ => 0), aI 180 (fun _ => 0), aI 3 (fun _ => 0), aI 3 (fun _ => 0), aI 3 (fun _ => 0), aI 8 (fun _ => 0), aI 8 (fun _ => 0), aI 8 (fun _ => 0), aI 8 (fun _ => 0), aI 8 (fun _ => 0)] (a + 11) rfl (by rw [ha]; rfl) ?_
  refine A_putF rfl dX8_init_86 p_X8_42 (nwL_at (k := 0) ha rfl) (Nat.le_of_ble_eq_true rfl) rfl rfl ?_
  refine WA_U 0 [ob 8 [.null, .ref (a + 1), .int 0, .int 0, .ref (a + 2), .ref (a + 3), .ref (a + 4), .ref (a + 5), .ref (a + 6), .ref (a + 7), .ref (a + 8), .ref (a + 9), .ref (a + 10), .ref (a + 11), .null, .null, .int 0, .int 0, .int 0, .int 0], aI 3 (fun _ => 0), aI 6 (fun _ => 0), aI 180 (fun _ => 0), aI 3 (fun _ => 0), aI 3 (fun _ => 0), aI 3 (fun _ => 0), aI 8 (fun _ => 0), aI 8 (fun _ => 0), aI 8 (fun _ => 0), aI 8 (fun _ => 0), aI 8 (fun _ => 0)] rfl ha (Nat.le_of_ble_eq_true rfl) ?_
  refine A_aload_n dX8_init_89 rfl rfl ?_
  refine A_bipush (v := 8) dX8_init_90 (by decide) ?_
  refine A_newI (N := 8) dX8_init_92 w_77 (by decide) (by decide) (by decide) (Nat.le_of_ble_eq_true rfl) (Nat.le_of_ble_eq_true rfl) ?_
  refine WA_L [ob 8 [.null, .ref (a + 1), .int 0, .int 0, .ref (a + 2), .ref (a + 3), .ref (a + 4), .ref (a + 5), .ref (a + 6), .ref (a + 7), .ref (a + 8), .ref (a + 9), .ref (a + 10), .ref (a + 11), .null, .null, .int 0, .int 0, .int 0, .int 0], aI 3 (fun _ => 0), aI 6 (fun _ => 0), aI 180 (fun _ => 0), aI 3 (fun _ => 0), aI 3 (fun _ => 0), aI 3 (fun _ => 0), aI 8 (fun _ => 0), aI 8 (fun _ => 0), aI 8 (fun _ => 0), aI 8 (fun _ => 0), aI 8 (fun _ => 0), aI 8 (fun _ => 0)] (a + 12) rfl (by rw [ha]; rfl) ?_
  refine A_putF rfl dX8_init_94 p_X8_45 (nwL_at (k := 0) ha rfl) (Nat.le_of_ble_eq_true rfl) rfl rfl ?_
  refine WA_U 0 [ob 8 [.null, .ref (a + 1), .int 0, .int 0, .ref (a + 2), .ref (a + 3), .ref (a + 4), .ref (a + 5), .ref (a + 6), .ref (a + 7), .ref (a + 8), .ref (a + 9), .ref (a + 10), .ref (a + 11), .ref (a + 12), .null, .int 0, .int 0, .int 0, .int 0], aI 3 (fun _ => 0), aI 6 (fun _ => 0), aI 180 (fun _ => 0), aI 3 (fun _ => 0), aI 3 (fun _ => 0), aI 3 (fun _ => 0), aI 8 (fun _ => 0), aI 8 (fun _ => 0), aI 8 (fun _ => 0), aI 8 (fun _ => 0), aI 8 (fun _ => 0), aI 8 (fun _ => 0)] rfl ha (Nat.le_of_ble_eq_true rfl) ?_
  refine A_aload_n dX8_init_97 rfl rfl ?_
  refine A_bipush (v := 6) dX8_init_98 (by decide) ?_
  refine A_newZ (N := 6) dX8_init_100 w_272 (by decide) (by decide) (by decide) (Nat.le_of_ble_eq_true rfl) (Nat.le_of_ble_eq_true rfl) ?_
  refine WA_L [ob 8 [.null, .ref (a + 1), .int 0, .int 0, .ref (a + 2), .ref (a + 3), .ref (a + 4), .ref (a + 5), .ref (a + 6), .ref (a + 7), .ref (a + 8), .ref (a + 9), .ref (a + 10), .ref (a + 11), .ref (a + 12), .null, .int 0, .int 0, .int 0, .int 0], aI 3 (fun _ => 0), aI 6 (fun _ => 0), aI 180 (fun _ => 0), aI 3 (fun _ => 0), aI 3 (fun _ => 0), aI 3 (fun _ => 0), aI 8 (fun _ => 0), aI 8 (fun _ => 0), aI 8 (fun _ => 0), aI 8 (fun _ => 0), aI 8 (fun _ => 0), aI 8 (fun _ => 0), aZ 6 (fun _ => 0)] (a + 13) rfl (by rw [ha]; rfl) ?_
  refine A_putF rfl dX8_init_102 p_X8_48 (nwL_at (k := 0) ha rfl) (Nat.le_of_ble_eq_true rfl) rfl rfl ?_
  refine WA_U 0 [ob 8 [.null, .ref (a + 1), .int 0, .int 0, .ref (a + 2), .ref (a + 3), .ref (a + 4), .ref (a + 5), .ref (a + 6), .ref (a + 7), .ref (a + 8), .ref (a + 9), .ref (a + 10), .ref (a + 11), .ref (a + 12), .ref (a + 13), .int 0, .int 0, .int 0, .int 0], aI 3 (fun _ => 0), aI 6 (fun _ => 0), aI 180 (fun _ => 0), aI 3 (fun _ => 0), aI 3 (fun _ => 0), aI 3 (fun _ => 0), aI 8 (fun _ => 0), aI 8 (fun _ => 0), aI 8 (fun _ => 0), aI 8 (fun _ => 0), aI 8 (fun _ => 0), aI 8 (fun _ => 0), aZ 6 (fun _ => 0)] rfl ha (Nat.le_of_ble_eq_true rfl) ?_
  refine A_aload_n dX8_init_105 rfl rfl ?_
  refine A_aload_n dX8_init_106 rfl rfl ?_
  refine A_putF rfl dX8_init_107 p_X8_52 (nwL_at (k := 0) ha rfl) (Nat.le_of_ble_eq_true rfl) rfl rfl ?_
  refine WA_U 0 [ob 8 [.ref t, .ref (a + 1), .int 0, .int 0, .ref (a + 2), .ref (a + 3), .ref (a + 4), .ref (a + 5), .ref (a + 6), .ref (a + 7), .ref (a + 8), .ref (a + 9), .ref (a + 10), .ref (a + 11), .ref (a + 12), .ref (a + 13), .int 0, .int 0, .int 0, .int 0], aI 3 (fun _ => 0), aI 6 (fun _ => 0), aI 180 (fun _ => 0), aI 3 (fun _ => 0), aI 3 (fun _ => 0), aI 3 (fun _ => 0), aI 8 (fun _ => 0), aI 8 (fun _ => 0), aI 8 (fun _ => 0), aI 8 (fun _ => 0), aI 8 (fun _ => 0), aI 8 (fun _ => 0), aZ 6 (fun _ => 0)] rfl ha (Nat.le_of_ble_eq_true rfl) ?_
  exact A_vret dX8_init_110 rfl ⟨Nat.le_of_ble_eq_true rfl, Nat.le_of_ble_eq_true rfl⟩
theorem i_X1 (G : GX) {h : AH} {a t u : Nat} (ha : h.2 = a) : MA G 1 yX1_init cX1_init 3 none 3 1029 [.ref a, .ref t, .ref u] (nwL h [ob 1 [.null, .null, .null, .null, .null]]) (qV fun h1 => h1 = nwL h [ob 1 [.ref t, .ref u, .ref (a + 1), .ref (a + 2), .ref (a + 3)], aI 343 (fun _ => 0), aI 343 (fun _ => 0), aZ 343 (fun _ => 0)]) := by
  refine MA.of (own := RX1) true [some (.ref a), some (.ref t), some (.ref u)] (by decide +kernel) rfl (fun h => rfl) (Nat.le_of_ble_eq_true rfl) rfl (fun X => ?_)
  refine A_aload_n dX1_init_0 rfl rfl ?_
  refine A_objInit dX1_init_1 w_278 (by decide) ⟨Nat.zero_le _, Nat.zero_le _⟩ ?_
  refine A_aload_n dX1_init_4 rfl rfl ?_
  refine A_sipush (v := 343) dX1_init_5 (by decide) ?_
  refine A_newI (N := 343) dX1_init_8 w_77 (by decide) (by decide) (by decide) (Nat.le_of_ble_eq_true rfl) (Nat.le_of_ble_eq_true rfl) ?_
  refine WA_L [ob 1 [.null, .null, .null, .null, .null], aI 343 (fun _ => 0)] (a + 1) rfl (by rw [ha]; rfl) ?_
  refine A_putF rfl dX1_init_10 p_X1_11 (nwL_at (k := 0) ha rfl) (Nat.le_of_ble_eq_true rfl) rfl rfl ?_
  refine WA_U 0 [ob 1 [.null, .null, .ref (a + 1), .null, .null], aI 343 (fun _ => 0)] rfl ha (Nat.le_of_ble_eq_true rfl) ?_
  refine A_aload_n dX1_init_13 rfl rfl ?_
  refine A_sipush (v := 343) dX1_init_14 (by decide) ?_
  refine A_newI (N := 343) dX1_init_17 w_77 (by decide) (by decide) (by decide) (Nat.le_of_ble_eq_true rfl) (Nat.le_of_ble_eq_true rfl) ?_
  refine WA_L [ob 1 [.null, .null, .ref (a + 1), .null, .null], aI 343 (fun _ => 0), aI 343 (fun _ => 0)] (a + 2) rfl (by rw [ha]; rfl) ?_
  refine A_putF rfl dX1_init_19 p_X1_15 (nwL_at (k := 0) ha rfl) (Nat.le_of_ble_eq_true rfl) rfl rfl ?_
  refine WA_U 0 [ob 1 [.null, .null, .ref (a + 1), .ref (a + 2), .null], aI 343 (fun _ => 0), aI 343 (fun _ => 0)] rfl ha (Nat.le_of_ble_eq_true rfl) ?_
  refine A_aload_n dX1_init_22 rfl rfl ?_
  refine A_sipush (v := 343) dX1_init_23 (by decide) ?_
  refine A_newZ (N := 343) dX1_init_26 w_272 (by decide) (by decide) (by decide) (Nat.le_of_ble_eq_true rfl) (Nat.le_of_ble_eq_true rfl) ?_
  refine WA_L [ob 1 [.null, .null, .ref (a + 1), .ref (a + 2), .null], aI 343 (fun _ => 0), aI 343 (fun _ => 0), aZ 343 (fun _ => 0)] (a + 3) rfl (by rw [ha]; rfl) ?_
  refine A_putF rfl dX1_init_28 p_X1_18 (nwL_at (k := 0) ha rfl) (Nat.le_of_ble_eq_true rfl) rfl rfl ?_
  refine WA_U 0 [ob 1 [.null, .null, .ref (a + 1), .ref (a + 2), .ref (a + 3)], aI 343 (fun _ => 0), aI 343 (fun _ => 0), aZ 343 (fun _ => 0)] rfl ha (Nat.le_of_ble_eq_true rfl) ?_
  refine A_aload_n dX1_init_31 rfl rfl ?_
  refine A_aload_n dX1_init_32 rfl rfl ?_
  refine A_putF rfl dX1_init_33 p_X1_22 (nwL_at (k := 0) ha rfl) (Nat.le_of_ble_eq_true rfl) rfl rfl ?_
  refine WA_U 0 [ob 1 [.ref t, .null, .ref (a + 1), .ref (a + 2), .ref (a + 3)], aI 343 (fun _ => 0), aI 343 (fun _ => 0), aZ 343 (fun _ => 0)] rfl ha (Nat.le_of_ble_eq_true rfl) ?_
  refine A_aload_n dX1_init_36 rfl rfl ?_
  refine A_aload_n dX1_init_37 rfl rfl ?_
  refine A_putF rfl dX1_init_38 p_X1_26 (nwL_at (k := 0) ha rfl) (Nat.le_of_ble_eq_true rfl) rfl rfl ?_
  refine WA_U 0 [ob 1 [.ref t, .ref u, .ref (a + 1), .ref (a + 2), .ref (a + 3)], aI 343 (fun _ => 0), aI 343 (fun _ => 0), aZ 343 (fun _ => 0)] rfl ha (Nat.le_of_ble_eq_true rfl) ?_
  exact A_vret dX1_init_41 rfl ⟨Nat.le_of_ble_eq_true rfl, Nat.le_of_ble_eq_true rfl⟩
theorem i_X11 (G : GX) {h : AH} {a : Nat} (ha : h.2 = a) : MA G 1 yX11_init cX11_init 1 none 1 36 [.ref a] (nwL h [ob 11 [.null]]) (qV fun h1 => h1 = nwL h [ob 11 [.ref (a + 1)], aI 36 (fun _ => 0)]) := by
  refine MA.of (own := RX11) true [some (.ref a)] (by decide +kernel) rfl (fun h => rfl) (Nat.le_of_ble_eq_true rfl) rfl (fun X => ?_)
  refine A_aload_n dX11_init_0 rfl rfl ?_
  refine A_objInit dX11_init_1 w_306 (by decide) ⟨Nat.zero_le _, Nat.zero_le _⟩ ?_
  refine A_aload_n dX11_init_4 rfl rfl ?_
  refine A_bipush (v := 36) dX11_init_5 (by decide) ?_
  refine A_newI (N := 36) dX11_init_7 w_77 (by decide) (by decide) (by decide) (Nat.le_of_ble_eq_true rfl) (Nat.le_of_ble_eq_true rfl) ?_
  refine WA_L [ob 11 [.null], aI 36 (fun _ => 0)] (a + 1) rfl (by rw [ha]; rfl) ?_
  refine A_putF rfl dX11_init_9 p_X11_9 (nwL_at (k := 0) ha rfl) (Nat.le_of_ble_eq_true rfl) rfl rfl ?_
  refine WA_U 0 [ob 11 [.ref (a + 1)], aI 36 (fun _ => 0)] rfl ha (Nat.le_of_ble_eq_true rfl) ?_
  exact A_vret dX11_init_12 rfl ⟨Nat.le_of_ble_eq_true rfl, Nat.le_of_ble_eq_true rfl⟩
theorem i_X0 (G : GX) {h : AH} {a t u : Nat} (ha : h.2 = a) : MA G 2 yX0_init cX0_init 3 none 8 125 [.ref a, .ref t, .ref u] (nwL h [ob 0 [.null, .null, .null, .null, .null, .null, .null, .int 0, .int 0]]) (qV fun h1 => h1 = nwL h [ob 0 [.ref t, .ref u, .ref (a + 1), .ref (a + 3), .ref (a + 5), .ref (a + 7), .ref (a + 8), .int 0, .int 0], ob 11 [.ref (a + 2)], aI 36 (fun _ => 0), ob 11 [.ref (a + 4)], aI 36 (fun _ => 0), ob 11 [.ref (a + 6)], aI 36 (fun _ => 0), aI 6 (fun _ => 0), aI 8 (fun _ => 0)]) := by
  refine MA.of (own := RX0) true [some (.ref a), some (.ref t), some (.ref u)] (by decide +kernel) rfl (fun h => rfl) (Nat.le_of_ble_eq_true rfl) rfl (fun X => ?_)
  refine A_aload_n dX0_init_0 rfl rfl ?_
  refine A_objInit dX0_init_1 w_300 (by decide) ⟨Nat.zero_le _, Nat.zero_le _⟩ ?_
  refine A_aload_n dX0_init_4 rfl rfl ?_
  refine A_new (ci := 11) (fs := [.null]) dX0_init_5 rfl ⟨w_301, w_302, w_10⟩ tyX11 tyX11_ok (by decide) (Nat.le_of_ble_eq_true rfl) (Nat.le_of_ble_eq_true rfl) ?_
  refine WA_N (a + 1) (by rw [ha]; rfl) ?_
  refine A_dup dX0_init_8 rfl ?_
  refine A_callINv dX0_init_9 m_X0_11 cb_X11_init (As := []) rfl (i_X11 G (h := nwL h [ob 0 [.null, .null, .null, .null, .null, .null, .null, .int 0, .int 0]]) (a := a + 1) (by rw [nwL_2, ha]; rfl)) rfl ⟨by decide, by decide⟩ (Nat.le_of_ble_eq_true rfl) ⟨Nat.le_of_ble_eq_true rfl, Nat.le_of_ble_eq_true rfl⟩ (fun h9 hq => ?_)
  subst hq
  refine WA_A [ob 0 [.null, .null, .null, .null, .null, .null, .null, .int 0, .int 0], ob 11 [.ref (a + 2)], aI 36 (fun _ => 0)] rfl ?_
  refine A_putF rfl dX0_init_12 p_X0_12 (nwL_at (k := 0) ha rfl) (Nat.le_of_ble_eq_true rfl) rfl rfl ?_
  refine WA_U 0 [ob 0 [.null, .null, .ref (a + 1), .null, .null, .null, .null, .int 0, .int 0], ob 11 [.ref (a + 2)], aI 36 (fun _ => 0)] rfl ha (Nat.le_of_ble_eq_true rfl) ?_
  refine A_aload_n dX0_init_15 rfl rfl ?_
  refine A_new (ci := 11) (fs := [.null]) dX0_init_16 rfl ⟨w_301, w_302, w_10⟩ tyX11 tyX11_ok (by decide) (Nat.le_of_ble_eq_true rfl) (Nat.le_of_ble_eq_true rfl) ?_
  refine WA_N (a + 3) (by rw [ha]; rfl) ?_
  refine A_dup dX0_init_19 rfl ?_
  refine A_callINv dX0_init_20 m_X0_11 cb_X11_init (As := []) rfl (i_X11 G (h := nwL h [ob 0 [.null, .null, .ref (a + 1), .null, .null, .null, .null, .int 0, .int 0], ob 11 [.ref (a + 2)], aI 36 (fun _ => 0)]) (a := a + 3) (by rw [nwL_2, ha]; rfl)) rfl ⟨by decide, by decide⟩ (Nat.le_of_ble_eq_true rfl) ⟨Nat.le_of_ble_eq_true rfl, Nat.le_of_ble_eq_true rfl⟩ (fun h20 hq => ?_)
  subst hq
  refine WA_A [ob 0 [.null, .null, .ref (a + 1), .null, .null, .null, .null, .int 0, .int 0], ob 11 [.ref (a + 2)], aI 36 (fun _ => 0), ob 11 [.ref (a + 4)], aI 36 (fun _ => 0)] rfl ?_
  refine A_putF rfl dX0_init_23 p_X0_18 (nwL_at (k := 0) ha rfl) (Nat.le_of_ble_eq_true rfl) rfl rfl ?_
  refine WA_U 0 [ob 0 [.null, .null, .ref (a + 1), .ref (a + 3), .null, .null, .null, .int 0, .int 0], ob 11 [.ref (a + 2)], aI 36 (fun _ => 0), ob 11 [.ref (a + 4)], aI 36 (fun _ => 0)] rfl ha (Nat.le_of_ble_eq_true rfl) ?_
  refine A_aload_n dX0_init_26 rfl rfl ?_
  refine A_new (ci := 11) (fs := [.null]) dX0_init_27 rfl ⟨w_301, w_302, w_10⟩ tyX11 tyX11_ok (by decide) (Nat.le_of_ble_eq_true rfl) (Nat.le_of_ble_eq_true rfl) ?_
  refine WA_N (a + 5) (by rw [ha]; rfl) ?_
  refine A_dup dX0_init_30 rfl ?_
  refine A_callINv dX0_init_31 m_X0_11 cb_X11_init (As := []) rfl (i_X11 G (h := nwL h [ob 0 [.null, .null, .ref (a + 1), .ref (a + 3), .null, .null, .null, .int 0, .int 0], ob 11 [.ref (a + 2)], aI 36 (fun _ => 0), ob 11 [.ref (a + 4)], aI 36 (fun _ => 0)]) (a := a + 5) (by rw [nwL_2, ha]; rfl)) rfl ⟨by decide, by decide⟩ (Nat.le_of_ble_eq_true rfl) ⟨Nat.le_of_ble_eq_true rfl, Nat.le_of_ble_eq_true rfl⟩ (fun h31 hq => ?_)
  subst hq
  refine WA_A [ob 0 [.null, .null, .ref (a + 1), .ref (a + 3), .null, .null, .null, .int 0, .int 0], ob 11 [.ref (a + 2)], aI 36 (fun _ => 0), ob 11 [.ref (a + 4)], aI 36 (fun _ => 0), ob 11 [.ref (a + 6)], aI 36 (fun _ => 0)] rfl ?_
  refine A_putF rfl dX0_init_34 p_X0_21 (nwL_at (k := 0) ha rfl) (Nat.le_of_ble_eq_true rfl) rfl rfl ?_
  refine WA_U 0 [ob 0 [.null, .null, .ref (a + 1), .ref (a + 3), .ref (a + 5), .null, .null, .int 0, .int 0], ob 11 [.ref (a + 2)], aI 36 (fun _ => 0), ob 11 [.ref (a + 4)], aI 36 (fun _ => 0), ob 11 [.ref (a + 6)], aI 36 (fun _ => 0)] rfl ha (Nat.le_of_ble_eq_true rfl) ?_
  refine A_aload_n dX0_init_37 rfl rfl ?_
  refine A_bipush (v := 6) dX0_init_38 (by decide) ?_
  refine A_newI (N := 6) dX0_init_40 w_77 (by decide) (by decide) (by decide) (Nat.le_of_ble_eq_true rfl) (Nat.le_of_ble_eq_true rfl) ?_
  refine WA_L [ob 0 [.null, .null, .ref (a + 1), .ref (a + 3), .ref (a + 5), .null, .null, .int 0, .int 0], ob 11 [.ref (a + 2)], aI 36 (fun _ => 0), ob 11 [.ref (a + 4)], aI 36 (fun _ => 0), ob 11 [.ref (a + 6)], aI 36 (fun _ => 0), aI 6 (fun _ => 0)] (a + 7) rfl (by rw [ha]; rfl) ?_
  refine A_putF rfl dX0_init_42 p_X0_24 (nwL_at (k := 0) ha rfl) (Nat.le_of_ble_eq_true rfl) rfl rfl ?_
  refine WA_U 0 [ob 0 [.null, .null, .ref (a + 1), .ref (a + 3), .ref (a + 5), .ref (a + 7), .null, .int 0, .int 0], ob 11 [.ref (a + 2)], aI 36 (fun _ => 0), ob 11 [.ref (a + 4)], aI 36 (fun _ => 0), ob 11 [.ref (a + 6)], aI 36 (fun _ => 0), aI 6 (fun _ => 0)] rfl ha (Nat.le_of_ble_eq_true rfl) ?_
  refine A_aload_n dX0_init_45 rfl rfl ?_
  refine A_bipush (v := 8) dX0_init_46 (by decide) ?_
  refine A_newI (N := 8) dX0_init_48 w_77 (by decide) (by decide) (by decide) (Nat.le_of_ble_eq_true rfl) (Nat.le_of_ble_eq_true rfl) ?_
  refine WA_L [ob 0 [.null, .null, .ref (a + 1), .ref (a + 3), .ref (a + 5), .ref (a + 7), .null, .int 0, .int 0], ob 11 [.ref (a + 2)], aI 36 (fun _ => 0), ob 11 [.ref (a + 4)], aI 36 (fun _ => 0), ob 11 [.ref (a + 6)], aI 36 (fun _ => 0), aI 6 (fun _ => 0), aI 8 (fun _ => 0)] (a + 8) rfl (by rw [ha]; rfl) ?_
  refine A_putF rfl dX0_init_50 p_X0_28 (nwL_at (k := 0) ha rfl) (Nat.le_of_ble_eq_true rfl) rfl rfl ?_
  refine WA_U 0 [ob 0 [.null, .null, .ref (a + 1), .ref (a + 3), .ref (a + 5), .ref (a + 7), .ref (a + 8), .int 0, .int 0], ob 11 [.ref (a + 2)], aI 36 (fun _ => 0), ob 11 [.ref (a + 4)], aI 36 (fun _ => 0), ob 11 [.ref (a + 6)], aI 36 (fun _ => 0), aI 6 (fun _ => 0), aI 8 (fun _ => 0)] rfl ha (Nat.le_of_ble_eq_true rfl) ?_
  refine A_aload_n dX0_init_53 rfl rfl ?_
  refine A_aload_n dX0_init_54 rfl rfl ?_
  refine A_putF rfl dX0_init_55 p_X0_31 (nwL_at (k := 0) ha rfl) (Nat.le_of_ble_eq_true rfl) rfl rfl ?_
  refine WA_U 0 [ob 0 [.ref t, .null, .ref (a + 1), .ref (a + 3), .ref (a + 5), .ref (a + 7), .ref (a + 8), .int 0, .int 0], ob 11 [.ref (a + 2)], aI 36 (fun _ => 0), ob 11 [.ref (a + 4)], aI 36 (fun _ => 0), ob 11 [.ref (a + 6)], aI 36 (fun _ => 0), aI 6 (fun _ => 0), aI 8 (fun _ => 0)] rfl ha (Nat.le_of_ble_eq_true rfl) ?_
  refine A_aload_n dX0_init_58 rfl rfl ?_
  refine A_aload_n dX0_init_59 rfl rfl ?_
  refine A_putF rfl dX0_init_60 p_X0_35 (nwL_at (k := 0) ha rfl) (Nat.le_of_ble_eq_true rfl) rfl rfl ?_
  refine WA_U 0 [ob 0 [.ref t, .ref u, .ref (a + 1), .ref (a + 3), .ref (a + 5), .ref (a + 7), .ref (a + 8), .int 0, .int 0], ob 11 [.ref (a + 2)], aI 36 (fun _ => 0), ob 11 [.ref (a + 4)], aI 36 (fun _ => 0), ob 11 [.ref (a + 6)], aI 36 (fun _ => 0), aI 6 (fun _ => 0), aI 8 (fun _ => 0)] rfl ha (Nat.le_of_ble_eq_true rfl) ?_
  exact A_vret dX0_init_63 rfl ⟨Nat.le_of_ble_eq_true rfl, Nat.le_of_ble_eq_true rfl⟩