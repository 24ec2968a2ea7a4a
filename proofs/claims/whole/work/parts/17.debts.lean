/-! DEBTS of the class -/
def owS (c : CT) (i : Nat) (d : Nat → Int32) : Nat → Int32 := upd d (tcl (c 14 (5 * i + 1)) * 6 + tcl (c 14 (5 * i + 0))) (d (tcl (c 14 (5 * i + 1)) * 6 + tcl (c 14 (5 * i + 0))) + (c 36 i - c 37 i))
def owF (c : CT) : Nat → Int32 := forR (owS c) 0 (tcl (c 13 2)) (fun _ => 0)
def reckF (c : CT) : CT := st1 c 48 (owF c)
def allF (d : Nat → Int32) (v : Nat) : Nat → Int64
  | 0 => 0
  | t + 1 => allF d v t + (d (v * 6 + t)).toInt64
def mxL (x y : Int64) : Int64 := if y < x then x else y
def ppV (c : CT) (nv v t : Nat) : Int32 := if (c 30 v).toInt64 < allF (c 48) v nv then ((c 48 (v * 6 + t)).toInt64 * (c 30 v).toInt64 / mxL 1 (allF (c 48) v nv)).toInt32 else c 48 (v * 6 + t)
def ppS (nv v t : Nat) (c : CT) : CT := put c 52 (v * 6 + t) (ppV c nv v t)
def ppA (nv v : Nat) (c : CT) : CT := forR (ppS nv v) 0 nv c
def nextF (d : Nat → Int32) (law : Int32) (v : Nat) (done : Int32) : Nat → Int32
  | 0 => -1
  | t + 1 => if d (v * 6 + t) ≤ 0 then nextF d law v done t else if ¬ (done >>> (nI t &&& 31)) &&& 1 = 0 then nextF d law v done t else
    if nextF d law v done t = -1 then nI t else if ¬ law = 1 then nextF d law v done t else if d (v * 6 + tcl (nextF d law v done t)) ≤ d (v * 6 + t) then nextF d law v done t else nI t
theorem nextF_ix {d : Nat → Int32} {law done : Int32} {v : Nat} : ∀ k, nextF d law v done k = -1 ∨ ∃ j, j < k ∧ nextF d law v done k = nI j
  | 0 => Or.inl rfl
  | k + 1 => by
    have ih := nextF_ix (d := d) (law := law) (done := done) (v := v) k
    have up : nextF d law v done k = -1 ∨ ∃ j, j < k + 1 ∧ nextF d law v done k = nI j := ih.imp id (fun ⟨j, h, e⟩ => ⟨j, by omega, e⟩)
    have me : (nI k : Int32) = -1 ∨ ∃ j, j < k + 1 ∧ (nI k : Int32) = nI j := Or.inr ⟨k, by omega, rfl⟩
    rw [nextF]
    split
    · exact up
    · split
      · exact up
      · split
        · exact me
        · split
          · exact up
          · split
            · exact up
            · exact me
def ptR (nv : Nat) (law : Int32) (v : Nat) : Nat → Int32 → Int32 → CT → CT
  | 0, _, _, c => c
  | k + 1, wa, dn, c => if nextF (c 48) law v dn nv = -1 then c else ptR nv law v k (wa - mn wa (c 48 (v * 6 + tcl (nextF (c 48) law v dn nv)))) (dn ||| (1 <<< (nextF (c 48) law v dn nv &&& 31))) (put c 52 (v * 6 + tcl (nextF (c 48) law v dn nv)) (mn wa (c 48 (v * 6 + tcl (nextF (c 48) law v dn nv)))))
def stS (nv : Nat) (law : Int32) (v : Nat) (c : CT) : CT := if law = 2 then ppA nv v c else ptR nv law v nv (c 30 v) 0 c
def strikeF (law : Int32) (c : CT) : CT := forR (stS (tcl (c 7 2)) law) 0 (tcl (c 7 2)) (st1 c 52 (fun _ => 0))
def dueF (d : Nat → Int32) (v : Nat) : Nat → Int32
  | 0 => 0
  | f + 1 => dueF d v f + d (f * 6 + v)
def ruF (c : CT) (nv : Nat) : Nat → Int32
  | 0 => 0
  | v + 1 => if 2 * dueF (c 52) v nv < dueF (c 48) v nv then ruF c nv v ||| (1 <<< (nI v &&& 31)) else ruF c nv v
def same49 (c c' : CT) : Prop := ∀ l, l ≠ 52 → c' l = c l
theorem same49.tr {a b c : CT} (h : same49 a b) (h2 : same49 b c) : same49 a c := fun l hl => (h2 l hl).trans (h l hl)
theorem same49.rf {c : CT} : same49 c c := fun _ _ => rfl
theorem same49.put {c : CT} {i : Nat} {v : Int32} : same49 c (put c 52 i v) := fun l hl => put_ne hl
theorem ppA_s {nv v : Nat} {c : CT} : same49 c (ppA nv v c) := forR_keep (fun z => same49 c z) (fun _ _ hz => hz.tr same49.put) _ _ _ same49.rf
theorem ptR_s {nv v : Nat} {law : Int32} : ∀ {k : Nat} {wa dn : Int32} {c : CT}, same49 c (ptR nv law v k wa dn c)
  | 0, _, _, _ => same49.rf
  | k + 1, wa, dn, c => by
    rw [ptR]
    split
    · exact same49.rf
    · exact same49.put.tr ptR_s
theorem stS_s {nv v : Nat} {law : Int32} {c : CT} : same49 c (stS nv law v c) := by
  unfold stS
  split
  · exact ppA_s
  · exact ptR_s
theorem IX.s49 {c c' : CT} {nv nc nf nl wk : Nat} (h : IX c nv nc nf nl wk) (e : same49 c c') : IX c' nv nc nf nl wk := h.to (fun l hl => e l (by omega))
theorem lgc_ge (x y : Int64) : 0 ≤ lg_cmp x y ↔ ¬ x < y := by
  unfold lg_cmp
  by_cases h : x > y
  · rw [if_pos h]; exact ⟨fun _ z => absurd h (lg_lt_not z), fun _ => by decide⟩
  · rw [if_neg h]
    by_cases e : x = y
    · rw [if_pos e]; subst e; exact ⟨fun _ => h, fun _ => by decide⟩
    · rw [if_neg e]
      refine ⟨fun z => absurd z (by decide), fun z => ?_⟩
      exfalso
      have h1 : ¬ y.toInt < x.toInt := fun q => h (Int64.lt_iff_toInt_lt.mpr q)
      have h2 : ¬ x.toInt < y.toInt := fun q => z (Int64.lt_iff_toInt_lt.mpr q)
      exact e (Int64.toInt_inj.mp (by omega))
theorem mxL_ne {x : Int64} : ¬ mxL 1 x = 0 := by
  unfold mxL
  split
  · decide
  · next h => intro e; rw [e] at h; exact h (by decide)

theorem c_pHas (G : GX) {h : AH} {x y : Nat} (hx : x < 6) (hy : y < 6) : MA G 0 yX11_has cX11_has 2 (some .boolean) 0 0 [.int (nI x), .int (nI y)] h (qI fun z h1 => z = 1 ∧ h1 = h) := by
  refine MA.of (own := RX11) false [some (.int (nI x)), some (.int (nI y))] (by decide +kernel) rfl (fun h => by cases h) (Nat.le_of_ble_eq_true rfl) rfl (fun X => ?_)
  refine A_iload_n dX11_has_0 rfl rfl ?_
  refine A_if_lt 24 dX11_has_1 (by decide) (fun c1 => ?_) (fun c1 => ?_)
  · exact absurd c1 (nI_pos (by omega))
  · refine A_iload_n dX11_has_4 rfl rfl ?_
    refine A_bipush (v := 6) dX11_has_5 (by decide) ?_
    refine A_icmp_ge 24 dX11_has_7 (by decide) (fun c7 => ?_) (fun c7 => ?_)
    · exact absurd c7 (nI_ge (b := 6) hx (by decide))
    · refine A_iload_n dX11_has_10 rfl rfl ?_
      refine A_if_lt 24 dX11_has_11 (by decide) (fun c11 => ?_) (fun c11 => ?_)
      · exact absurd c11 (nI_pos (by omega))
      · refine A_iload_n dX11_has_14 rfl rfl ?_
        refine A_bipush (v := 6) dX11_has_15 (by decide) ?_
        refine A_icmp_ge 24 dX11_has_17 (by decide) (fun c17 => ?_) (fun c17 => ?_)
        · exact absurd c17 (nI_ge (b := 6) hy (by decide))
        · refine A_iconst (v := 1) dX11_has_20 (by decide) ?_
          refine A_goto 25 dX11_has_21 (by decide) ?_
          exact A_zret dX11_has_25 rfl ⟨rfl, rfl⟩ ⟨by decide, by decide⟩

theorem c_pAt (G : GX) {h : AH} {a q : Nat} {f : Nat → Int32} {x y : Nat} (ha : h.1 a = some (ob 11 [.ref q])) (hq : h.1 q = some (aI 36 f)) (hx : x < 6) (hy : y < 6) : MA G 1 yX11_at cX11_at 3 (some .int) 0 0 [.ref a, .int (nI x), .int (nI y)] h (qI fun z h1 => z = f (x * 6 + y) ∧ h1 = h) := by
  refine MA.of (own := RX11) false [some (.ref a), some (.int (nI x)), some (.int (nI y))] (by decide +kernel) rfl (fun h => by cases h) (Nat.le_of_ble_eq_true rfl) rfl (fun X => ?_)
  refine A_iload_n dX11_at_0 rfl rfl ?_
  refine A_iload_n dX11_at_1 rfl rfl ?_
  refine A_callSi dX11_at_2 m_X11_15 cb_X11_has (As := [_, _]) rfl (c_pHas G hx hy) rfl ⟨by decide, by decide⟩ (Nat.le_of_ble_eq_true rfl) ⟨by decide, by decide⟩ (fun x2 h2 hq => ?_)
  obtain ⟨rfl, rfl⟩ := hq
  refine A_if_eq 22 dX11_at_5 (by decide) (fun c5 => ?_) (fun c5 => ?_)
  · exact absurd c5 (by decide)
  · refine A_aload_n dX11_at_8 rfl rfl ?_
    refine A_get dX11_at_9 f_X11_9 ha rfl ?_
    refine A_iload_n dX11_at_12 rfl rfl ?_
    refine A_bipush (v := 6) dX11_at_13 (by decide) ?_
    refine A_imul dX11_at_15 ?_
    refine A_iload_n dX11_at_16 rfl rfl ?_
    refine A_iadd dX11_at_17 ?_
    rw [show (6 : Int32) = nI 6 from rfl, pk_mul, nI_add]
    refine A_ialdN dX11_at_18 hq (by omega) (by decide) ?_
    refine A_goto 23 dX11_at_19 (by decide) ?_
    exact A_iret dX11_at_23 ⟨rfl, rfl⟩ ⟨by decide, by decide⟩

theorem c_pPut (G : GX) {h : AH} {a q : Nat} {f : Nat → Int32} {x y : Nat} {v : Int32} (ha : h.1 a = some (ob 11 [.ref q])) (hq : h.1 q = some (aI 36 f)) (hx : x < 6) (hy : y < 6) : MA G 1 yX11_put cX11_put 4 none 0 0 [.ref a, .int (nI x), .int (nI y), .int v] h (qV fun h1 => h1 = upH h q (aI 36 (upd f (x * 6 + y) v))) := by
  refine MA.of (own := RX11) false [some (.ref a), some (.int (nI x)), some (.int (nI y)), some (.int v)] (by decide +kernel) rfl (fun h => by cases h) (Nat.le_of_ble_eq_true rfl) rfl (fun X => ?_)
  refine A_iload_n dX11_put_0 rfl rfl ?_
  refine A_iload_n dX11_put_1 rfl rfl ?_
  refine A_callSi dX11_put_2 m_X11_15 cb_X11_has (As := [_, _]) rfl (c_pHas G hx hy) rfl ⟨by decide, by decide⟩ (Nat.le_of_ble_eq_true rfl) ⟨by decide, by decide⟩ (fun x2 h2 hq => ?_)
  obtain ⟨rfl, rfl⟩ := hq
  refine A_if_eq 20 dX11_put_5 (by decide) (fun c5 => ?_) (fun c5 => ?_)
  · exact absurd c5 (by decide)
  · refine A_aload_n dX11_put_8 rfl rfl ?_
    refine A_get dX11_put_9 f_X11_9 ha rfl ?_
    refine A_iload_n dX11_put_12 rfl rfl ?_
    refine A_bipush (v := 6) dX11_put_13 (by decide) ?_
    refine A_imul dX11_put_15 ?_
    refine A_iload_n dX11_put_16 rfl rfl ?_
    refine A_iadd dX11_put_17 ?_
    rw [show (6 : Int32) = nI 6 from rfl, pk_mul, nI_add]
    refine A_iload_n dX11_put_18 rfl rfl ?_
    refine A_iast dX11_put_19 hq (vp_in_nI (by omega) (by decide)) ?_
    rw [nI_clamp (by omega)]
    exact A_vret dX11_put_20 rfl ⟨by decide, by decide⟩

theorem c_pAdd (G : GX) {h : AH} {a q : Nat} {f : Nat → Int32} {x y : Nat} {v : Int32} (ha : h.1 a = some (ob 11 [.ref q])) (hq : h.1 q = some (aI 36 f)) (hx : x < 6) (hy : y < 6) : MA G 2 yX11_add cX11_add 4 none 0 0 [.ref a, .int (nI x), .int (nI y), .int v] h (qV fun h1 => h1 = upH h q (aI 36 (upd f (x * 6 + y) (f (x * 6 + y) + v)))) := by
  refine MA.of (own := RX11) false [some (.ref a), some (.int (nI x)), some (.int (nI y)), some (.int v)] (by decide +kernel) rfl (fun h => by cases h) (Nat.le_of_ble_eq_true rfl) rfl (fun X => ?_)
  refine A_aload_n dX11_add_0 rfl rfl ?_
  refine A_iload_n dX11_add_1 rfl rfl ?_
  refine A_iload_n dX11_add_2 rfl rfl ?_
  refine A_aload_n dX11_add_3 rfl rfl ?_
  refine A_iload_n dX11_add_4 rfl rfl ?_
  refine A_iload_n dX11_add_5 rfl rfl ?_
  refine A_callVi dX11_add_6 m_X11_19 cb_X11_at (As := [_, _]) rfl ha rfl (c_pAt G ha hq hx hy) rfl ⟨by decide, by decide⟩ (Nat.le_of_ble_eq_true rfl) ⟨by decide, by decide⟩ (fun x6 h6 hq => ?_)
  obtain ⟨rfl, rfl⟩ := hq
  refine A_iload_n dX11_add_9 rfl rfl ?_
  refine A_iadd dX11_add_10 ?_
  refine A_callVv dX11_add_11 m_X11_23 cb_X11_put (As := [_, _, _]) rfl ha rfl (c_pPut G ha hq hx hy) rfl ⟨by decide, by decide⟩ (Nat.le_of_ble_eq_true rfl) ⟨by decide, by decide⟩ (fun h11 hq => ?_)
  obtain rfl := hq
  exact A_vret dX11_add_14 rfl ⟨by decide, by decide⟩

theorem c_pClear (G : GX) {h : AH} {a q : Nat} {f : Nat → Int32} (ha : h.1 a = some (ob 11 [.ref q])) (hq : h.1 q = some (aI 36 f)) : MA G 1 yX11_clear cX11_clear 1 none 0 0 [.ref a] h (qV fun h1 => h1 = upH h q (aI 36 (fun _ => 0))) := by
  refine MA.of (own := RX11) false [some (.ref a)] (by decide +kernel) rfl (fun h => by cases h) (Nat.le_of_ble_eq_true rfl) rfl (fun X => ?_)
  refine A_aload_n dX11_clear_0 rfl rfl ?_
  refine A_get dX11_clear_1 f_X11_9 ha rfl ?_
  refine A_iconst (v := 0) dX11_clear_4 (by decide) ?_
  refine A_callSv dX11_clear_5 m_X11_31 cb_J7_fill_53178 (As := [_, _]) rfl (c_fill G h q _ _ _ hq (by decide)) rfl ⟨by decide, by decide⟩ (Nat.le_of_ble_eq_true rfl) ⟨by decide, by decide⟩ (fun h5 hq => ?_)
  obtain rfl := hq
  exact A_vret dX11_clear_8 rfl ⟨by decide, by decide⟩

theorem c_pInAll (G : GX) {h : AH} {a q : Nat} {f : Nat → Int32} (ha : h.1 a = some (ob 11 [.ref q])) (hq : h.1 q = some (aI 36 f)) : MA G 1 yX11_inAll cX11_inAll 1 (some .int) 0 0 [.ref a] h (qI fun z h1 => z = sumI f 36 ∧ h1 = h) := by
  refine MA.of (own := RX11) false [some (.ref a)] (by decide +kernel) rfl (fun h => by cases h) (Nat.le_of_ble_eq_true rfl) rfl (fun X => ?_)
  refine A_aload_n dX11_inAll_0 rfl rfl ?_
  refine A_get dX11_inAll_1 f_X11_9 ha rfl ?_
  refine A_callSNi dX11_inAll_4 m_X11_27 cb_X9_together (As := [_]) rfl (c_together G hq (by decide)) rfl ⟨by decide, by decide⟩ (Nat.le_of_ble_eq_true rfl) ⟨by decide, by decide⟩ (fun x4 h4 hq => ?_)
  obtain ⟨rfl, rfl⟩ := hq
  exact A_iret dX11_inAll_7 ⟨rfl, rfl⟩ ⟨by decide, by decide⟩

theorem c_pAt48 (G : GX) {b : Nat} {c : CT} {co : Nat → Nat → Option Nat} {r : Nat → Option AE} {n : Nat} {x y : Nat} (hx : x < 6) (hy : y < 6) : MA G 1 yX11_at cX11_at 3 (some .int) 0 0 [.ref (b + 47), .int (nI x), .int (nI y)] (HC b c co r n) (qI fun z h1 => z = c 48 (x * 6 + y) ∧ h1 = HC b c co r n) := c_pAt G (HC_at (by decide)) (HC_at (by decide)) hx hy
theorem c_pAt48v (G : GX) {b : Nat} {c : CT} {co : Nat → Nat → Option Nat} {r : Nat → Option AE} {n : Nat} {x y : Int32} {N : Nat} (hx : vp_in x N) (hy : vp_in y N) (hN : N ≤ 6) : MA G 1 yX11_at cX11_at 3 (some .int) 0 0 [.ref (b + 47), .int x, .int y] (HC b c co r n) (qI fun z h1 => z = c 48 (tcl x * 6 + tcl y) ∧ h1 = HC b c co r n) := by
  obtain ⟨i, hi, rfl⟩ := vp_in_of hx (by omega)
  obtain ⟨j, hj, rfl⟩ := vp_in_of hy (by omega)
  rw [tcl, tcl, nI_clamp (by omega), nI_clamp (by omega)]
  exact c_pAt48 G (by omega) (by omega)
theorem c_pPut48 (G : GX) {b : Nat} {c : CT} {co : Nat → Nat → Option Nat} {r : Nat → Option AE} {n : Nat} {x y : Nat} {v : Int32} (hx : x < 6) (hy : y < 6) : MA G 1 yX11_put cX11_put 4 none 0 0 [.ref (b + 47), .int (nI x), .int (nI y), .int v] (HC b c co r n) (qV fun h1 => h1 = HC b (put c 48 (x * 6 + y) v) co r n) := by
  have e := c_pPut G (h := HC b c co r n) (a := b + 47) (q := b + 48) (f := c 48) (v := v) (HC_at (by decide)) (HC_at (by decide)) hx hy
  have e2 : upH (HC b c co r n) (b + 48) (aI 36 (upd (c 48) (x * 6 + y) v)) = HC b (put c 48 (x * 6 + y) v) co r n := HC_up (by decide) rfl
  rw [e2] at e
  exact e
theorem c_pAdd48 (G : GX) {b : Nat} {c : CT} {co : Nat → Nat → Option Nat} {r : Nat → Option AE} {n : Nat} {x y : Int32} {v : Int32} {N : Nat} (hx : vp_in x N) (hy : vp_in y N) (hN : N ≤ 6) : MA G 2 yX11_add cX11_add 4 none 0 0 [.ref (b + 47), .int x, .int y, .int v] (HC b c co r n) (qV fun h1 => h1 = HC b (put c 48 (tcl x * 6 + tcl y) (c 48 (tcl x * 6 + tcl y) + v)) co r n) := by
  obtain ⟨i, hi, rfl⟩ := vp_in_of hx (by omega)
  obtain ⟨j, hj, rfl⟩ := vp_in_of hy (by omega)
  rw [tcl, tcl, nI_clamp (by omega), nI_clamp (by omega)]
  have e := c_pAdd G (h := HC b c co r n) (a := b + 47) (q := b + 48) (f := c 48) (v := v) (x := i) (y := j) (HC_at (by decide)) (HC_at (by decide)) (by omega) (by omega)
  have e2 : upH (HC b c co r n) (b + 48) (aI 36 (upd (c 48) (i * 6 + j) (c 48 (i * 6 + j) + v))) = HC b (put c 48 (i * 6 + j) (c 48 (i * 6 + j) + v)) co r n := HC_up (by decide) rfl
  rw [e2] at e
  exact e
theorem c_pClear48 (G : GX) {b : Nat} {c : CT} {co : Nat → Nat → Option Nat} {r : Nat → Option AE} {n : Nat} : MA G 1 yX11_clear cX11_clear 1 none 0 0 [.ref (b + 47)] (HC b c co r n) (qV fun h1 => h1 = HC b (st1 c 48 (fun _ => 0)) co r n) := by
  have e := c_pClear G (h := HC b c co r n) (a := b + 47) (q := b + 48) (f := c 48) (HC_at (by decide)) (HC_at (by decide))
  have e2 : upH (HC b c co r n) (b + 48) (aI 36 (fun _ => 0)) = HC b (st1 c 48 (fun _ => 0)) co r n := HC_up (by decide) rfl
  rw [e2] at e
  exact e
theorem c_pAt50 (G : GX) {b : Nat} {c : CT} {co : Nat → Nat → Option Nat} {r : Nat → Option AE} {n : Nat} {x y : Nat} (hx : x < 6) (hy : y < 6) : MA G 1 yX11_at cX11_at 3 (some .int) 0 0 [.ref (b + 49), .int (nI x), .int (nI y)] (HC b c co r n) (qI fun z h1 => z = c 50 (x * 6 + y) ∧ h1 = HC b c co r n) := c_pAt G (HC_at (by decide)) (HC_at (by decide)) hx hy
theorem c_pAt50v (G : GX) {b : Nat} {c : CT} {co : Nat → Nat → Option Nat} {r : Nat → Option AE} {n : Nat} {x y : Int32} {N : Nat} (hx : vp_in x N) (hy : vp_in y N) (hN : N ≤ 6) : MA G 1 yX11_at cX11_at 3 (some .int) 0 0 [.ref (b + 49), .int x, .int y] (HC b c co r n) (qI fun z h1 => z = c 50 (tcl x * 6 + tcl y) ∧ h1 = HC b c co r n) := by
  obtain ⟨i, hi, rfl⟩ := vp_in_of hx (by omega)
  obtain ⟨j, hj, rfl⟩ := vp_in_of hy (by omega)
  rw [tcl, tcl, nI_clamp (by omega), nI_clamp (by omega)]
  exact c_pAt50 G (by omega) (by omega)
theorem c_pPut50 (G : GX) {b : Nat} {c : CT} {co : Nat → Nat → Option Nat} {r : Nat → Option AE} {n : Nat} {x y : Nat} {v : Int32} (hx : x < 6) (hy : y < 6) : MA G 1 yX11_put cX11_put 4 none 0 0 [.ref (b + 49), .int (nI x), .int (nI y), .int v] (HC b c co r n) (qV fun h1 => h1 = HC b (put c 50 (x * 6 + y) v) co r n) := by
  have e := c_pPut G (h := HC b c co r n) (a := b + 49) (q := b + 50) (f := c 50) (v := v) (HC_at (by decide)) (HC_at (by decide)) hx hy
  have e2 : upH (HC b c co r n) (b + 50) (aI 36 (upd (c 50) (x * 6 + y) v)) = HC b (put c 50 (x * 6 + y) v) co r n := HC_up (by decide) rfl
  rw [e2] at e
  exact e
theorem c_pAdd50 (G : GX) {b : Nat} {c : CT} {co : Nat → Nat → Option Nat} {r : Nat → Option AE} {n : Nat} {x y : Int32} {v : Int32} {N : Nat} (hx : vp_in x N) (hy : vp_in y N) (hN : N ≤ 6) : MA G 2 yX11_add cX11_add 4 none 0 0 [.ref (b + 49), .int x, .int y, .int v] (HC b c co r n) (qV fun h1 => h1 = HC b (put c 50 (tcl x * 6 + tcl y) (c 50 (tcl x * 6 + tcl y) + v)) co r n) := by
  obtain ⟨i, hi, rfl⟩ := vp_in_of hx (by omega)
  obtain ⟨j, hj, rfl⟩ := vp_in_of hy (by omega)
  rw [tcl, tcl, nI_clamp (by omega), nI_clamp (by omega)]
  have e := c_pAdd G (h := HC b c co r n) (a := b + 49) (q := b + 50) (f := c 50) (v := v) (x := i) (y := j) (HC_at (by decide)) (HC_at (by decide)) (by omega) (by omega)
  have e2 : upH (HC b c co r n) (b + 50) (aI 36 (upd (c 50) (i * 6 + j) (c 50 (i * 6 + j) + v))) = HC b (put c 50 (i * 6 + j) (c 50 (i * 6 + j) + v)) co r n := HC_up (by decide) rfl
  rw [e2] at e
  exact e
theorem c_pClear50 (G : GX) {b : Nat} {c : CT} {co : Nat → Nat → Option Nat} {r : Nat → Option AE} {n : Nat} : MA G 1 yX11_clear cX11_clear 1 none 0 0 [.ref (b + 49)] (HC b c co r n) (qV fun h1 => h1 = HC b (st1 c 50 (fun _ => 0)) co r n) := by
  have e := c_pClear G (h := HC b c co r n) (a := b + 49) (q := b + 50) (f := c 50) (HC_at (by decide)) (HC_at (by decide))
  have e2 : upH (HC b c co r n) (b + 50) (aI 36 (fun _ => 0)) = HC b (st1 c 50 (fun _ => 0)) co r n := HC_up (by decide) rfl
  rw [e2] at e
  exact e
theorem c_pAt52 (G : GX) {b : Nat} {c : CT} {co : Nat → Nat → Option Nat} {r : Nat → Option AE} {n : Nat} {x y : Nat} (hx : x < 6) (hy : y < 6) : MA G 1 yX11_at cX11_at 3 (some .int) 0 0 [.ref (b + 51), .int (nI x), .int (nI y)] (HC b c co r n) (qI fun z h1 => z = c 52 (x * 6 + y) ∧ h1 = HC b c co r n) := c_pAt G (HC_at (by decide)) (HC_at (by decide)) hx hy
theorem c_pAt52v (G : GX) {b : Nat} {c : CT} {co : Nat → Nat → Option Nat} {r : Nat → Option AE} {n : Nat} {x y : Int32} {N : Nat} (hx : vp_in x N) (hy : vp_in y N) (hN : N ≤ 6) : MA G 1 yX11_at cX11_at 3 (some .int) 0 0 [.ref (b + 51), .int x, .int y] (HC b c co r n) (qI fun z h1 => z = c 52 (tcl x * 6 + tcl y) ∧ h1 = HC b c co r n) := by
  obtain ⟨i, hi, rfl⟩ := vp_in_of hx (by omega)
  obtain ⟨j, hj, rfl⟩ := vp_in_of hy (by omega)
  rw [tcl, tcl, nI_clamp (by omega), nI_clamp (by omega)]
  exact c_pAt52 G (by omega) (by omega)
theorem c_pPut52 (G : GX) {b : Nat} {c : CT} {co : Nat → Nat → Option Nat} {r : Nat → Option AE} {n : Nat} {x y : Nat} {v : Int32} (hx : x < 6) (hy : y < 6) : MA G 1 yX11_put cX11_put 4 none 0 0 [.ref (b + 51), .int (nI x), .int (nI y), .int v] (HC b c co r n) (qV fun h1 => h1 = HC b (put c 52 (x * 6 + y) v) co r n) := by
  have e := c_pPut G (h := HC b c co r n) (a := b + 51) (q := b + 52) (f := c 52) (v := v) (HC_at (by decide)) (HC_at (by decide)) hx hy
  have e2 : upH (HC b c co r n) (b + 52) (aI 36 (upd (c 52) (x * 6 + y) v)) = HC b (put c 52 (x * 6 + y) v) co r n := HC_up (by decide) rfl
  rw [e2] at e
  exact e
theorem c_pAdd52 (G : GX) {b : Nat} {c : CT} {co : Nat → Nat → Option Nat} {r : Nat → Option AE} {n : Nat} {x y : Int32} {v : Int32} {N : Nat} (hx : vp_in x N) (hy : vp_in y N) (hN : N ≤ 6) : MA G 2 yX11_add cX11_add 4 none 0 0 [.ref (b + 51), .int x, .int y, .int v] (HC b c co r n) (qV fun h1 => h1 = HC b (put c 52 (tcl x * 6 + tcl y) (c 52 (tcl x * 6 + tcl y) + v)) co r n) := by
  obtain ⟨i, hi, rfl⟩ := vp_in_of hx (by omega)
  obtain ⟨j, hj, rfl⟩ := vp_in_of hy (by omega)
  rw [tcl, tcl, nI_clamp (by omega), nI_clamp (by omega)]
  have e := c_pAdd G (h := HC b c co r n) (a := b + 51) (q := b + 52) (f := c 52) (v := v) (x := i) (y := j) (HC_at (by decide)) (HC_at (by decide)) (by omega) (by omega)
  have e2 : upH (HC b c co r n) (b + 52) (aI 36 (upd (c 52) (i * 6 + j) (c 52 (i * 6 + j) + v))) = HC b (put c 52 (i * 6 + j) (c 52 (i * 6 + j) + v)) co r n := HC_up (by decide) rfl
  rw [e2] at e
  exact e
theorem c_pClear52 (G : GX) {b : Nat} {c : CT} {co : Nat → Nat → Option Nat} {r : Nat → Option AE} {n : Nat} : MA G 1 yX11_clear cX11_clear 1 none 0 0 [.ref (b + 51)] (HC b c co r n) (qV fun h1 => h1 = HC b (st1 c 52 (fun _ => 0)) co r n) := by
  have e := c_pClear G (h := HC b c co r n) (a := b + 51) (q := b + 52) (f := c 52) (HC_at (by decide)) (HC_at (by decide))
  have e2 : upH (HC b c co r n) (b + 52) (aI 36 (fun _ => 0)) = HC b (st1 c 52 (fun _ => 0)) co r n := HC_up (by decide) rfl
  rw [e2] at e
  exact e
theorem c_pInAll52 (G : GX) {b : Nat} {c : CT} {co : Nat → Nat → Option Nat} {r : Nat → Option AE} {n : Nat} : MA G 1 yX11_inAll cX11_inAll 1 (some .int) 0 0 [.ref (b + 51)] (HC b c co r n) (qI fun z h1 => z = sumI (c 52) 36 ∧ h1 = HC b c co r n) := c_pInAll G (HC_at (by decide)) (HC_at (by decide))
theorem c_waterOfN (G : GX) {b : Nat} {c : CT} {co : Nat → Nat → Option Nat} {r : Nat → Option AE} {n v : Nat} (hv : v < 6) : MA G 0 yX8_waterOf cX8_waterOf 2 (some .int) 0 0 [.ref (b + 28), .int (nI v)] (HC b c co r n) (qI fun y h1 => y = c 30 v ∧ h1 = HC b c co r n) := by
  have e := c_waterOf G (b := b) (c := c) (co := co) (r := r) (n := n) (vp_in_nI hv (by decide))
  rw [tcl, nI_clamp (by omega)] at e
  exact e
theorem c_reckon (G : GX) {b : Nat} {c : CT} {co : Nat → Nat → Option Nat} {r : Nat → Option AE} {n : Nat} {nv nc nf nl wk : Nat} (hI : IX c nv nc nf nl wk) : MA G 3 yX0_reckon cX0_reckon 2 none 0 0 [.ref (b + 46)] (HC b c co r n) (qV fun h1 => h1 = HC b (reckF c) co r n) := by
  refine MA.of (own := RX0) false [some (.ref (b + 46)), none] (by decide +kernel) rfl (fun h => by cases h) (Nat.le_of_ble_eq_true rfl) rfl (fun X => ?_)
  obtain ⟨hv, hv6, hc, hc8, hf, hf3, hl, hl8, hw, hw30, gC, gL⟩ := id hI
  obtain ⟨T, hTe⟩ : ∃ T, T = owF c := ⟨_, rfl⟩
  have hT9 : HC b (st1 c 48 T) co r n = HC b (reckF c) co r n := by rw [hTe]; rfl
  have loop : ∀ (k i : Nat) (g : Nat → Int32), i + k = nl → (forR (owS c) i k g = T) → WA X G RX0 cX0_reckon false none (qV fun h1 => h1 = HC b (reckF c) co r n) 3 0 0 (HC b (st1 c 48 g) co r n) 0 0 9 [some (.ref (b + 46)), some (.int (nI i))] [] := by
    intro k
    induction k with
    | zero =>
      intro i g hk hT
      refine A_iload_n dX0_reckon_9 rfl rfl ?_
      refine A_aload_n dX0_reckon_10 rfl rfl ?_
      refine A_get dX0_reckon_11 f_X0_31 (HC_at (by decide)) rfl ?_
      refine A_get dX0_reckon_14 f_X0_42 (HC_at (by decide)) rfl ?_
      refine A_get dX0_reckon_17 f_X0_48 (HC_at (by decide)) rfl ?_
      refine A_icmp_ge 79 dX0_reckon_20 (by decide) (fun c20 => ?_) (fun c20 => ?_)
      · exact A_vret dX0_reckon_79 (by rw [← hT9, ← hT]; rfl) ⟨by decide, by decide⟩
      · exact absurd (by rw [st1_ne (by decide), hl]; exact nI_le (by omega) (by omega)) c20
    | succ k ih =>
      intro i g hk hT
      have hi : i < nl := by omega
      refine A_iload_n dX0_reckon_9 rfl rfl ?_
      refine A_aload_n dX0_reckon_10 rfl rfl ?_
      refine A_get dX0_reckon_11 f_X0_31 (HC_at (by decide)) rfl ?_
      refine A_get dX0_reckon_14 f_X0_42 (HC_at (by decide)) rfl ?_
      refine A_get dX0_reckon_17 f_X0_48 (HC_at (by decide)) rfl ?_
      refine A_icmp_ge 79 dX0_reckon_20 (by decide) (fun c20 => ?_) (fun c20 => ?_)
      · exact absurd c20 (by rw [st1_ne (by decide), hl]; exact nI_ge (by omega) (by omega))
      · refine A_aload_n dX0_reckon_23 rfl rfl ?_
        refine A_get dX0_reckon_24 f_X0_12 (HC_at (by decide)) rfl ?_
        refine A_aload_n dX0_reckon_27 rfl rfl ?_
        refine A_get dX0_reckon_28 f_X0_31 (HC_at (by decide)) rfl ?_
        refine A_get dX0_reckon_31 f_X0_42 (HC_at (by decide)) rfl ?_
        refine A_iload_n dX0_reckon_34 rfl rfl ?_
        refine A_iconst (v := 1) dX0_reckon_35 (by decide) ?_
        refine A_callVi dX0_reckon_36 m_X0_54 cb_X3_at (As := [_, _]) rfl (HC_at (by decide)) rfl (c_at13 G b _ co r n 1 (by rw [st1_ne (by decide)]; exact hl) hl8 hi (by decide)) rfl ⟨by decide, by decide⟩ (Nat.le_of_ble_eq_true rfl) ⟨by decide, by decide⟩ (fun x36 h36 hq => ?_)
        obtain ⟨rfl, rfl⟩ := hq
        refine A_aload_n dX0_reckon_39 rfl rfl ?_
        refine A_get dX0_reckon_40 f_X0_31 (HC_at (by decide)) rfl ?_
        refine A_get dX0_reckon_43 f_X0_42 (HC_at (by decide)) rfl ?_
        refine A_iload_n dX0_reckon_46 rfl rfl ?_
        refine A_iconst (v := 0) dX0_reckon_47 (by decide) ?_
        refine A_callVi dX0_reckon_48 m_X0_54 cb_X3_at (As := [_, _]) rfl (HC_at (by decide)) rfl (c_at13 G b _ co r n 0 (by rw [st1_ne (by decide)]; exact hl) hl8 hi (by decide)) rfl ⟨by decide, by decide⟩ (Nat.le_of_ble_eq_true rfl) ⟨by decide, by decide⟩ (fun x48 h48 hq => ?_)
        obtain ⟨rfl, rfl⟩ := hq
        refine A_aload_n dX0_reckon_51 rfl rfl ?_
        refine A_get dX0_reckon_52 f_X0_35 (HC_at (by decide)) rfl ?_
        refine A_get dX0_reckon_55 f_X0_58 (HC_at (by decide)) rfl ?_
        refine A_iload_n dX0_reckon_58 rfl rfl ?_
        refine A_ialdN dX0_reckon_59 (HC_at (by decide)) (by omega) (by decide) ?_
        refine A_aload_n dX0_reckon_60 rfl rfl ?_
        refine A_get dX0_reckon_61 f_X0_35 (HC_at (by decide)) rfl ?_
        refine A_get dX0_reckon_64 f_X0_63 (HC_at (by decide)) rfl ?_
        refine A_iload_n dX0_reckon_67 rfl rfl ?_
        refine A_ialdN dX0_reckon_68 (HC_at (by decide)) (by omega) (by decide) ?_
        refine A_isub dX0_reckon_69 ?_
        rw [st1_ne (show (14 : Nat) ≠ 48 by decide)]
        refine A_callVv dX0_reckon_70 m_X0_66 cb_X11_add (As := [_, _, _]) rfl (HC_at (by decide)) rfl (c_pAdd48 G (gL i hi).2 (gL i hi).1 hv6) rfl ⟨by decide, by decide⟩ (Nat.le_of_ble_eq_true rfl) ⟨by decide, by decide⟩ (fun h70 hq => ?_)
        obtain rfl := hq
        refine A_inc 1 (lv1 := [_, _]) dX0_reckon_73 rfl (by decide) rfl rfl ?_
        refine A_goto 9 dX0_reckon_76 (by decide) ?_
        rw [nI_1]
        refine WA_h (congrArg (fun z => HC b z co r n) (show _ = st1 c 48 (owS c i g) from by funext l; by_cases h : l = 48 <;> simp [put, st1, h]; rfl)) (ih (i + 1) _ (by omega) hT)
  refine A_aload_n dX0_reckon_0 rfl rfl ?_
  refine A_get dX0_reckon_1 f_X0_12 (HC_at (by decide)) rfl ?_
  refine A_callVv dX0_reckon_4 m_X0_39 cb_X11_clear (As := []) rfl (HC_at (by decide)) rfl (c_pClear48 G) rfl ⟨by decide, by decide⟩ (Nat.le_of_ble_eq_true rfl) ⟨by decide, by decide⟩ (fun h4 hq => ?_)
  obtain rfl := hq
  refine A_iconst (v := 0) dX0_reckon_7 (by decide) ?_
  refine A_istore_n (lv1 := [_, _]) dX0_reckon_8 rfl (Nat.le_of_ble_eq_true rfl) rfl rfl ?_
  exact loop nl 0 (fun _ => 0) (by omega) (by rw [hTe, owF, hI.nvf.2.2.2.1])

theorem c_nextToPay (G : GX) {b : Nat} {c : CT} {co : Nat → Nat → Option Nat} {r : Nat → Option AE} {n : Nat} {nv nc nf nl wk : Nat} {v : Nat} {law dn : Int32} (hI : IX c nv nc nf nl wk) (hv9 : v < nv) : MA G 2 yX0_nextToPay cX0_nextToPay 7 (some .int) 0 0 [.ref (b + 46), .int (nI v), .int law, .int dn] (HC b c co r n) (qI fun x h1 => x = nextF (c 48) law v dn nv ∧ h1 = HC b c co r n) := by
  refine MA.of (own := RX0) false [some (.ref (b + 46)), some (.int (nI v)), some (.int law), some (.int dn), none, none, none] (by decide +kernel) rfl (fun h => by cases h) (Nat.le_of_ble_eq_true rfl) rfl (fun X => ?_)
  obtain ⟨hv, hv6, hc, hc8, hf, hf3, hl, hl8, hw, hw30, gC, gL⟩ := id hI
  have loop : ∀ (k i : Nat) , i + k = nv → WA X G RX0 cX0_nextToPay false (some .int) (qI fun x h1 => x = nextF (c 48) law v dn nv ∧ h1 = HC b c co r n) 2 0 0 (HC b c co r n) 0 0 6 [some (.ref (b + 46)), some (.int (nI v)), some (.int law), some (.int dn), some (.int (nextF (c 48) law v dn i)), some (.int (nI i)), none] [] := by
    intro k
    induction k with
    | zero =>
      intro i  hk 
      refine A_iload dX0_nextToPay_6 rfl ?_
      refine A_aload_n dX0_nextToPay_8 rfl rfl ?_
      refine A_get dX0_nextToPay_9 f_X0_31 (HC_at (by decide)) rfl ?_
      refine A_get dX0_nextToPay_12 f_X0_93 (HC_at (by decide)) rfl ?_
      refine A_get dX0_nextToPay_15 f_X0_48 (HC_at (by decide)) rfl ?_
      refine A_icmp_ge 83 dX0_nextToPay_18 (by decide) (fun c18 => ?_) (fun c18 => ?_)
      · refine A_iload dX0_nextToPay_83 rfl ?_
        exact A_iret dX0_nextToPay_85 ⟨by rw [show i = nv by omega], rfl⟩ ⟨by decide, by decide⟩
      · exact absurd (by rw [hv]; exact nI_le (by omega) (by omega)) c18
    | succ k ih =>
      intro i  hk 
      have hi : i < nv := by omega
      refine A_iload dX0_nextToPay_6 rfl ?_
      refine A_aload_n dX0_nextToPay_8 rfl rfl ?_
      refine A_get dX0_nextToPay_9 f_X0_31 (HC_at (by decide)) rfl ?_
      refine A_get dX0_nextToPay_12 f_X0_93 (HC_at (by decide)) rfl ?_
      refine A_get dX0_nextToPay_15 f_X0_48 (HC_at (by decide)) rfl ?_
      refine A_icmp_ge 83 dX0_nextToPay_18 (by decide) (fun c18 => ?_) (fun c18 => ?_)
      · exact absurd c18 (by rw [hv]; exact nI_ge (by omega) (by omega))
      · refine A_aload_n dX0_nextToPay_21 rfl rfl ?_
        refine A_get dX0_nextToPay_22 f_X0_12 (HC_at (by decide)) rfl ?_
        refine A_iload_n dX0_nextToPay_25 rfl rfl ?_
        refine A_iload dX0_nextToPay_26 rfl ?_
        refine A_callVi dX0_nextToPay_28 m_X0_100 cb_X11_at (As := [_, _]) rfl (HC_at (by decide)) rfl (c_pAt48 G (by omega) (by omega)) rfl ⟨by decide, by decide⟩ (Nat.le_of_ble_eq_true rfl) ⟨by decide, by decide⟩ (fun x28 h28 hq => ?_)
        obtain ⟨rfl, rfl⟩ := hq
        refine A_istore (lv1 := [_, _, _, _, _, _, _]) dX0_nextToPay_31 (Nat.le_of_ble_eq_true rfl) rfl rfl ?_
        refine A_iload dX0_nextToPay_33 rfl ?_
        refine A_if_le 77 dX0_nextToPay_35 (by decide) (fun c35 => ?_) (fun c35 => ?_)
        · refine A_inc 1 (lv1 := [_, _, _, _, _, _, _]) dX0_nextToPay_77 rfl (by decide) rfl rfl ?_
          refine A_goto 6 dX0_nextToPay_80 (by decide) ?_
          refine A_fg 6 (lv1 := [_, _, _, _, _, _, _]) rfl ?_
          rw [nI_1]
          have e := ih (i + 1) (by omega)
          rw [nextF, if_pos c35] at e
          exact e
        · refine A_iload_n dX0_nextToPay_38 rfl rfl ?_
          refine A_iload dX0_nextToPay_39 rfl ?_
          refine A_ishr dX0_nextToPay_41 ?_
          refine A_iconst (v := 1) dX0_nextToPay_42 (by decide) ?_
          refine A_iand dX0_nextToPay_43 ?_
          refine A_if_ne 77 dX0_nextToPay_44 (by decide) (fun c44 => ?_) (fun c44 => ?_)
          · refine A_inc 1 (lv1 := [_, _, _, _, _, _, _]) dX0_nextToPay_77 rfl (by decide) rfl rfl ?_
            refine A_goto 6 dX0_nextToPay_80 (by decide) ?_
            refine A_fg 6 (lv1 := [_, _, _, _, _, _, _]) rfl ?_
            rw [nI_1]
            have e := ih (i + 1) (by omega)
            rw [nextF, if_neg c35, if_pos c44] at e
            exact e
          · refine A_iload dX0_nextToPay_47 rfl ?_
            refine A_iconst (v := (-1)) dX0_nextToPay_49 (by decide) ?_
            refine A_icmp_eq 73 dX0_nextToPay_50 (by decide) (fun c50 => ?_) (fun c50 => ?_)
            · refine A_iload dX0_nextToPay_73 rfl ?_
              refine A_istore (lv1 := [_, _, _, _, _, _, _]) dX0_nextToPay_75 (Nat.le_of_ble_eq_true rfl) rfl rfl ?_
              refine A_inc 1 (lv1 := [_, _, _, _, _, _, _]) dX0_nextToPay_77 rfl (by decide) rfl rfl ?_
              refine A_goto 6 dX0_nextToPay_80 (by decide) ?_
              refine A_fg 6 (lv1 := [_, _, _, _, _, _, _]) rfl ?_
              rw [nI_1]
              have e := ih (i + 1) (by omega)
              rw [nextF, if_neg c35, if_neg (fun z => z c44), if_pos c50] at e
              exact e
            · obtain ⟨j, hj, ej⟩ := (nextF_ix i).resolve_left c50
              have etc9 : tcl (nextF (c 48) law v dn i) = j := by rw [ej, tcl, nI_clamp (by omega)]
              refine A_iload_n dX0_nextToPay_53 rfl rfl ?_
              refine A_iconst (v := 1) dX0_nextToPay_54 (by decide) ?_
              refine A_icmp_ne 77 dX0_nextToPay_55 (by decide) (fun c55 => ?_) (fun c55 => ?_)
              · refine A_inc 1 (lv1 := [_, _, _, _, _, _, _]) dX0_nextToPay_77 rfl (by decide) rfl rfl ?_
                refine A_goto 6 dX0_nextToPay_80 (by decide) ?_
                refine A_fg 6 (lv1 := [_, _, _, _, _, _, _]) rfl ?_
                rw [nI_1]
                have e := ih (i + 1) (by omega)
                rw [nextF, if_neg c35, if_neg (fun z => z c44), if_neg c50, if_pos c55] at e
                exact e
              · refine A_iload dX0_nextToPay_58 rfl ?_
                refine A_aload_n dX0_nextToPay_60 rfl rfl ?_
                refine A_get dX0_nextToPay_61 f_X0_12 (HC_at (by decide)) rfl ?_
                refine A_iload_n dX0_nextToPay_64 rfl rfl ?_
                refine A_iload dX0_nextToPay_65 rfl ?_
                refine A_eqI ej ?_
                refine A_callVi dX0_nextToPay_67 m_X0_100 cb_X11_at (As := [_, _]) rfl (HC_at (by decide)) rfl (c_pAt48 G (by omega) (by omega)) rfl ⟨by decide, by decide⟩ (Nat.le_of_ble_eq_true rfl) ⟨by decide, by decide⟩ (fun x67 h67 hq => ?_)
                obtain ⟨rfl, rfl⟩ := hq
                refine A_icmp_ge 77 dX0_nextToPay_70 (by decide) (fun c70 => ?_) (fun c70 => ?_)
                · rw [← etc9] at c70
                  refine A_inc 1 (lv1 := [_, _, _, _, _, _, _]) dX0_nextToPay_77 rfl (by decide) rfl rfl ?_
                  refine A_goto 6 dX0_nextToPay_80 (by decide) ?_
                  refine A_fg 6 (lv1 := [_, _, _, _, _, _, _]) rfl ?_
                  rw [nI_1]
                  have e := ih (i + 1) (by omega)
                  rw [nextF, if_neg c35, if_neg (fun z => z c44), if_neg c50, if_neg (fun z => z c55), if_pos c70] at e
                  exact e
                · rw [← etc9] at c70
                  refine A_iload dX0_nextToPay_73 rfl ?_
                  refine A_istore (lv1 := [_, _, _, _, _, _, _]) dX0_nextToPay_75 (Nat.le_of_ble_eq_true rfl) rfl rfl ?_
                  refine A_inc 1 (lv1 := [_, _, _, _, _, _, _]) dX0_nextToPay_77 rfl (by decide) rfl rfl ?_
                  refine A_goto 6 dX0_nextToPay_80 (by decide) ?_
                  refine A_fg 6 (lv1 := [_, _, _, _, _, _, _]) rfl ?_
                  rw [nI_1]
                  have e := ih (i + 1) (by omega)
                  rw [nextF, if_neg c35, if_neg (fun z => z c44), if_neg c50, if_neg (fun z => z c55), if_neg c70] at e
                  exact e
  refine A_iconst (v := (-1)) dX0_nextToPay_0 (by decide) ?_
  refine A_istore (lv1 := [_, _, _, _, _, _, _]) dX0_nextToPay_1 (Nat.le_of_ble_eq_true rfl) rfl rfl ?_
  refine A_iconst (v := 0) dX0_nextToPay_3 (by decide) ?_
  refine A_istore (lv1 := [_, _, _, _, _, _, _]) dX0_nextToPay_4 (Nat.le_of_ble_eq_true rfl) rfl rfl ?_
  exact loop nv 0 (by omega)

theorem c_payInTurn (G : GX) {b : Nat} {c : CT} {co : Nat → Nat → Option Nat} {r : Nat → Option AE} {n : Nat} {nv nc nf nl wk : Nat} {v : Nat} {law : Int32} (hI : IX c nv nc nf nl wk) (hv9 : v < nv) : MA G 3 yX0_payInTurn cX0_payInTurn 8 none 0 0 [.ref (b + 46), .int (nI v), .int law] (HC b c co r n) (qV fun h1 => h1 = HC b (ptR nv law v nv (c 30 v) 0 c) co r n) := by
  refine MA.of (own := RX0) false [some (.ref (b + 46)), some (.int (nI v)), some (.int law), none, none, none, none, none] (by decide +kernel) rfl (fun h => by cases h) (Nat.le_of_ble_eq_true rfl) rfl (fun X => ?_)
  have hv6 := hI.2.1
  obtain ⟨T, hTe⟩ : ∃ T, T = ptR nv law v nv (c 30 v) 0 c := ⟨_, rfl⟩
  rw [← hTe]
  have loop : ∀ (k i : Nat) (wa : Int32) (dn : Int32) (c : CT), i + k = nv → (IX c nv nc nf nl wk) → (ptR nv law v k wa dn c = T) → WA X G RX0 cX0_payInTurn false none (qV fun h1 => h1 = HC b T co r n) 3 0 0 (HC b c co r n) 0 0 15 [some (.ref (b + 46)), some (.int (nI v)), some (.int law), some (.int wa), some (.int dn), some (.int (nI i)), none, none] [] := by
    intro k
    induction k with
    | zero =>
      intro i wa dn c hk hI hT
      refine A_iload dX0_payInTurn_15 rfl ?_
      refine A_aload_n dX0_payInTurn_17 rfl rfl ?_
      refine A_get dX0_payInTurn_18 f_X0_31 (HC_at (by decide)) rfl ?_
      refine A_get dX0_payInTurn_21 f_X0_93 (HC_at (by decide)) rfl ?_
      refine A_get dX0_payInTurn_24 f_X0_48 (HC_at (by decide)) rfl ?_
      refine A_icmp_ge 95 dX0_payInTurn_27 (by decide) (fun c27 => ?_) (fun c27 => ?_)
      · exact A_vret dX0_payInTurn_95 (congrArg (fun z => HC b z co r n) hT) ⟨by decide, by decide⟩
      · exact absurd (by rw [hI.1]; exact nI_le (by omega) (by omega)) c27
    | succ k ih =>
      intro i wa dn c hk hI hT
      have hi : i < nv := by omega
      refine A_iload dX0_payInTurn_15 rfl ?_
      refine A_aload_n dX0_payInTurn_17 rfl rfl ?_
      refine A_get dX0_payInTurn_18 f_X0_31 (HC_at (by decide)) rfl ?_
      refine A_get dX0_payInTurn_21 f_X0_93 (HC_at (by decide)) rfl ?_
      refine A_get dX0_payInTurn_24 f_X0_48 (HC_at (by decide)) rfl ?_
      refine A_icmp_ge 95 dX0_payInTurn_27 (by decide) (fun c27 => ?_) (fun c27 => ?_)
      · exact absurd c27 (by rw [hI.1]; exact nI_ge (by omega) (by omega))
      · refine A_aload_n dX0_payInTurn_30 rfl rfl ?_
        refine A_iload_n dX0_payInTurn_31 rfl rfl ?_
        refine A_iload_n dX0_payInTurn_32 rfl rfl ?_
        refine A_iload dX0_payInTurn_33 rfl ?_
        refine A_callVi dX0_payInTurn_35 m_X0_126 cb_X0_nextToPay (As := [_, _, _]) rfl (HC_at (by decide)) rfl (c_nextToPay G hI hv9) rfl ⟨by decide, by decide⟩ (Nat.le_of_ble_eq_true rfl) ⟨by decide, by decide⟩ (fun x35 h35 hq => ?_)
        obtain ⟨rfl, rfl⟩ := hq
        refine A_istore (lv1 := [_, _, _, _, _, _, _, _]) dX0_payInTurn_38 (Nat.le_of_ble_eq_true rfl) rfl rfl ?_
        refine A_iload dX0_payInTurn_40 rfl ?_
        refine A_iconst (v := (-1)) dX0_payInTurn_42 (by decide) ?_
        refine A_icmp_ne 47 dX0_payInTurn_43 (by decide) (fun c43 => ?_) (fun c43 => ?_)
        · obtain ⟨j, hj, ej⟩ := (nextF_ix (d := c 48) (law := law) (done := dn) (v := v) nv).resolve_left c43
          have etc9 : tcl (nextF (c 48) law v dn nv) = j := by rw [ej, tcl, nI_clamp (by omega)]
          refine A_iload_n dX0_payInTurn_47 rfl rfl ?_
          refine A_aload_n dX0_payInTurn_48 rfl rfl ?_
          refine A_get dX0_payInTurn_49 f_X0_12 (HC_at (by decide)) rfl ?_
          refine A_iload_n dX0_payInTurn_52 rfl rfl ?_
          refine A_iload dX0_payInTurn_53 rfl ?_
          refine A_eqI ej ?_
          refine A_callVi dX0_payInTurn_55 m_X0_100 cb_X11_at (As := [_, _]) rfl (HC_at (by decide)) rfl (c_pAt48 G (by omega) (by omega)) rfl ⟨by decide, by decide⟩ (Nat.le_of_ble_eq_true rfl) ⟨by decide, by decide⟩ (fun x55 h55 hq => ?_)
          obtain ⟨rfl, rfl⟩ := hq
          refine A_min dX0_payInTurn_58 w_1016 (by decide) (Nat.le_of_ble_eq_true rfl) ⟨by decide, by decide⟩ ?_
          refine A_istore (lv1 := [_, _, _, _, _, _, _, _]) dX0_payInTurn_61 (Nat.le_of_ble_eq_true rfl) rfl rfl ?_
          refine A_aload_n dX0_payInTurn_63 rfl rfl ?_
          refine A_get dX0_payInTurn_64 f_X0_21 (HC_at (by decide)) rfl ?_
          refine A_iload_n dX0_payInTurn_67 rfl rfl ?_
          refine A_iload dX0_payInTurn_68 rfl ?_
          refine A_eqI ej ?_
          refine A_iload dX0_payInTurn_70 rfl ?_
          refine A_callVv dX0_payInTurn_72 m_X0_123 cb_X11_put (As := [_, _, _]) rfl (HC_at (by decide)) rfl (c_pPut52 G (by omega) (by omega)) rfl ⟨by decide, by decide⟩ (Nat.le_of_ble_eq_true rfl) ⟨by decide, by decide⟩ (fun h72 hq => ?_)
          obtain rfl := hq
          refine A_iload_n dX0_payInTurn_75 rfl rfl ?_
          refine A_iload dX0_payInTurn_76 rfl ?_
          refine A_isub dX0_payInTurn_78 ?_
          refine A_istore_n (lv1 := [_, _, _, _, _, _, _, _]) dX0_payInTurn_79 rfl (Nat.le_of_ble_eq_true rfl) rfl rfl ?_
          refine A_iload dX0_payInTurn_80 rfl ?_
          refine A_iconst (v := 1) dX0_payInTurn_82 (by decide) ?_
          refine A_iload dX0_payInTurn_83 rfl ?_
          refine A_ishl dX0_payInTurn_85 ?_
          refine A_ior dX0_payInTurn_86 ?_
          refine A_istore (lv1 := [_, _, _, _, _, _, _, _]) dX0_payInTurn_87 (Nat.le_of_ble_eq_true rfl) rfl rfl ?_
          refine A_inc 1 (lv1 := [_, _, _, _, _, _, _, _]) dX0_payInTurn_89 rfl (by decide) rfl rfl ?_
          refine A_goto 15 dX0_payInTurn_92 (by decide) ?_
          refine A_fg 6 (lv1 := [_, _, _, _, _, _, _, _]) rfl ?_
          refine A_fg 7 (lv1 := [_, _, _, _, _, _, _, _]) rfl ?_
          rw [nI_1]
          rw [ptR, if_neg c43] at hT
          have e := ih (i + 1) _ _ _ (by omega) (hI.s49 same49.put) hT
          rw [etc9] at e
          exact e
        · exact A_vret dX0_payInTurn_46 (by rw [ptR, if_pos c43] at hT; rw [hT]) ⟨by decide, by decide⟩
  refine A_aload_n dX0_payInTurn_0 rfl rfl ?_
  refine A_get dX0_payInTurn_1 f_X0_35 (HC_at (by decide)) rfl ?_
  refine A_iload_n dX0_payInTurn_4 rfl rfl ?_
  refine A_callVi dX0_payInTurn_5 m_X0_116 cb_X8_waterOf (As := [_]) rfl (HC_at (by decide)) rfl (c_waterOfN G (by omega)) rfl ⟨by decide, by decide⟩ (Nat.le_of_ble_eq_true rfl) ⟨by decide, by decide⟩ (fun x5 h5 hq => ?_)
  obtain ⟨rfl, rfl⟩ := hq
  refine A_istore_n (lv1 := [_, _, _, _, _, _, _, _]) dX0_payInTurn_8 rfl (Nat.le_of_ble_eq_true rfl) rfl rfl ?_
  refine A_iconst (v := 0) dX0_payInTurn_9 (by decide) ?_
  refine A_istore (lv1 := [_, _, _, _, _, _, _, _]) dX0_payInTurn_10 (Nat.le_of_ble_eq_true rfl) rfl rfl ?_
  refine A_iconst (v := 0) dX0_payInTurn_12 (by decide) ?_
  refine A_istore (lv1 := [_, _, _, _, _, _, _, _]) dX0_payInTurn_13 (Nat.le_of_ble_eq_true rfl) rfl rfl ?_
  exact loop nv 0 _ _ c (by omega) hI hTe.symm

theorem c_payParts (G : GX) {b : Nat} {c0 : CT} {co : Nat → Nat → Option Nat} {r : Nat → Option AE} {n : Nat} {nv nc nf nl wk : Nat} {v : Nat} (hI0 : IX c0 nv nc nf nl wk) (hv9 : v < nv) : MA G 2 yX0_payParts cX0_payParts 8 none 0 0 [.ref (b + 46), .int (nI v)] (HC b c0 co r n) (qV fun h1 => h1 = HC b (ppA nv v c0) co r n) := by
  refine MA.of (own := RX0) false [some (.ref (b + 46)), some (.int (nI v)), none, none, none, none, none, none] (by decide +kernel) rfl (fun h => by cases h) (Nat.le_of_ble_eq_true rfl) rfl (fun X => ?_)
  have hv6 := hI0.2.1
  obtain ⟨T, hTe⟩ : ∃ T, T = ppA nv v c0 := ⟨_, rfl⟩
  rw [← hTe]
  have loop2 : ∀ (k i : Nat) (c : CT), i + k = nv → (IX c nv nc nf nl wk) → (same49 c0 c) → (forR (ppS nv v) i k c = T) → WA X G RX0 cX0_payParts false none (qV fun h1 => h1 = HC b T co r n) 2 0 0 (HC b c co r n) 0 0 54 [some (.ref (b + 46)), some (.int (nI v)), some (.long (allF (c0 48) v nv)), none, some (.long (c0 30 v).toInt64), none, some (.int (nI i)), none] [] := by
    intro k
    induction k with
    | zero =>
      intro i c hk hI hs hT
      refine A_iload dX0_payParts_54 rfl ?_
      refine A_aload_n dX0_payParts_56 rfl rfl ?_
      refine A_get dX0_payParts_57 f_X0_31 (HC_at (by decide)) rfl ?_
      refine A_get dX0_payParts_60 f_X0_93 (HC_at (by decide)) rfl ?_
      refine A_get dX0_payParts_63 f_X0_48 (HC_at (by decide)) rfl ?_
      refine A_icmp_ge 122 dX0_payParts_66 (by decide) (fun c66 => ?_) (fun c66 => ?_)
      · exact A_vret dX0_payParts_122 (congrArg (fun z => HC b z co r n) hT) ⟨by decide, by decide⟩
      · exact absurd (by rw [hI.1]; exact nI_le (by omega) (by omega)) c66
    | succ k ih =>
      intro i c hk hI hs hT
      have hi : i < nv := by omega
      refine A_iload dX0_payParts_54 rfl ?_
      refine A_aload_n dX0_payParts_56 rfl rfl ?_
      refine A_get dX0_payParts_57 f_X0_31 (HC_at (by decide)) rfl ?_
      refine A_get dX0_payParts_60 f_X0_93 (HC_at (by decide)) rfl ?_
      refine A_get dX0_payParts_63 f_X0_48 (HC_at (by decide)) rfl ?_
      refine A_icmp_ge 122 dX0_payParts_66 (by decide) (fun c66 => ?_) (fun c66 => ?_)
      · exact absurd c66 (by rw [hI.1]; exact nI_ge (by omega) (by omega))
      · refine A_aload_n dX0_payParts_69 rfl rfl ?_
        refine A_get dX0_payParts_70 f_X0_12 (HC_at (by decide)) rfl ?_
        refine A_iload_n dX0_payParts_73 rfl rfl ?_
        refine A_iload dX0_payParts_74 rfl ?_
        refine A_callVi dX0_payParts_76 m_X0_100 cb_X11_at (As := [_, _]) rfl (HC_at (by decide)) rfl (c_pAt48 G (by omega) (by omega)) rfl ⟨by decide, by decide⟩ (Nat.le_of_ble_eq_true rfl) ⟨by decide, by decide⟩ (fun x76 h76 hq => ?_)
        obtain ⟨rfl, rfl⟩ := hq
        refine A_istore (lv1 := [_, _, _, _, _, _, _, _]) dX0_payParts_79 (Nat.le_of_ble_eq_true rfl) rfl rfl ?_
        refine A_aload_n dX0_payParts_81 rfl rfl ?_
        refine A_get dX0_payParts_82 f_X0_21 (HC_at (by decide)) rfl ?_
        refine A_iload_n dX0_payParts_85 rfl rfl ?_
        refine A_iload dX0_payParts_86 rfl ?_
        refine A_lload dX0_payParts_88 rfl ?_
        refine A_lload_n dX0_payParts_90 rfl rfl ?_
        refine A_lcmp dX0_payParts_91 ?_
        refine A_if_ge 111 dX0_payParts_92 (by decide) (fun c92 => ?_) (fun c92 => ?_)
        · refine A_iload dX0_payParts_111 rfl ?_
          refine A_callVv dX0_payParts_113 m_X0_123 cb_X11_put (As := [_, _, _]) rfl (HC_at (by decide)) rfl (c_pPut52 G (by omega) (by omega)) rfl ⟨by decide, by decide⟩ (Nat.le_of_ble_eq_true rfl) ⟨by decide, by decide⟩ (fun h113 hq => ?_)
          obtain rfl := hq
          refine A_inc 1 (lv1 := [_, _, _, _, _, _, _, _]) dX0_payParts_116 rfl (by decide) rfl rfl ?_
          refine A_goto 54 dX0_payParts_119 (by decide) ?_
          refine A_fg 7 (lv1 := [_, _, _, _, _, _, _, _]) rfl ?_
          rw [nI_1]
          refine WA_h (congrArg (fun z => HC b z co r n) (show _ = ppS nv v i c from ?_)) (ih (i + 1) _ (by omega) (hI.s49 same49.put) (hs.tr same49.put) hT)
          rw [ppS, ppV, hs 48 (by decide), hs 30 (by decide), if_neg ((lgc_ge _ _).mp c92)]
        · refine A_iload dX0_payParts_95 rfl ?_
          refine A_i2l dX0_payParts_97 ?_
          refine A_lload dX0_payParts_98 rfl ?_
          refine A_lmul dX0_payParts_100 ?_
          refine A_lconst (v := 1) dX0_payParts_101 (by decide) ?_
          refine A_lload_n dX0_payParts_102 rfl rfl ?_
          refine A_maxL dX0_payParts_103 w_1042 (by decide) (Nat.le_of_ble_eq_true rfl) ⟨by decide, by decide⟩ ?_
          refine A_ldiv dX0_payParts_106 mxL_ne ?_
          refine A_l2i dX0_payParts_107 ?_
          refine A_goto 113 dX0_payParts_108 (by decide) ?_
          refine A_callVv dX0_payParts_113 m_X0_123 cb_X11_put (As := [_, _, _]) rfl (HC_at (by decide)) rfl (c_pPut52 G (by omega) (by omega)) rfl ⟨by decide, by decide⟩ (Nat.le_of_ble_eq_true rfl) ⟨by decide, by decide⟩ (fun h113 hq => ?_)
          obtain rfl := hq
          refine A_inc 1 (lv1 := [_, _, _, _, _, _, _, _]) dX0_payParts_116 rfl (by decide) rfl rfl ?_
          refine A_goto 54 dX0_payParts_119 (by decide) ?_
          refine A_fg 7 (lv1 := [_, _, _, _, _, _, _, _]) rfl ?_
          rw [nI_1]
          refine WA_h (congrArg (fun z => HC b z co r n) (show _ = ppS nv v i c from ?_)) (ih (i + 1) _ (by omega) (hI.s49 same49.put) (hs.tr same49.put) hT)
          rw [ppS, ppV, hs 48 (by decide), hs 30 (by decide), if_pos (Decidable.of_not_not (fun z => c92 ((lgc_ge _ _).mpr z)))]
          rfl
  have loop1 : ∀ (k i : Nat) , i + k = nv → WA X G RX0 cX0_payParts false none (qV fun h1 => h1 = HC b T co r n) 2 0 0 (HC b c0 co r n) 0 0 5 [some (.ref (b + 46)), some (.int (nI v)), some (.long (allF (c0 48) v i)), none, some (.int (nI i)), none, none, none] [] := by
    intro k
    induction k with
    | zero =>
      intro i  hk 
      refine A_iload dX0_payParts_5 rfl ?_
      refine A_aload_n dX0_payParts_7 rfl rfl ?_
      refine A_get dX0_payParts_8 f_X0_31 (HC_at (by decide)) rfl ?_
      refine A_get dX0_payParts_11 f_X0_93 (HC_at (by decide)) rfl ?_
      refine A_get dX0_payParts_14 f_X0_48 (HC_at (by decide)) rfl ?_
      refine A_icmp_ge 40 dX0_payParts_17 (by decide) (fun c17 => ?_) (fun c17 => ?_)
      · refine A_aload_n dX0_payParts_40 rfl rfl ?_
        refine A_get dX0_payParts_41 f_X0_35 (HC_at (by decide)) rfl ?_
        refine A_iload_n dX0_payParts_44 rfl rfl ?_
        refine A_callVi dX0_payParts_45 m_X0_116 cb_X8_waterOf (As := [_]) rfl (HC_at (by decide)) rfl (c_waterOfN G (by omega)) rfl ⟨by decide, by decide⟩ (Nat.le_of_ble_eq_true rfl) ⟨by decide, by decide⟩ (fun x45 h45 hq => ?_)
        obtain ⟨rfl, rfl⟩ := hq
        refine A_i2l dX0_payParts_48 ?_
        refine A_lstore (lv1 := [_, _, _, _, _, _, _, _]) dX0_payParts_49 (Nat.le_of_ble_eq_true rfl) rfl rfl ?_
        refine A_iconst (v := 0) dX0_payParts_51 (by decide) ?_
        refine A_istore (lv1 := [_, _, _, _, _, _, _, _]) dX0_payParts_52 (Nat.le_of_ble_eq_true rfl) rfl rfl ?_
        rw [show i = nv by omega]
        refine A_fg 5 (lv1 := [_, _, _, _, _, _, _, _]) rfl ?_
        exact loop2 nv 0 c0 (by omega) hI0 same49.rf hTe.symm
      · exact absurd (by rw [hI0.1]; exact nI_le (by omega) (by omega)) c17
    | succ k ih =>
      intro i  hk 
      have hi : i < nv := by omega
      refine A_iload dX0_payParts_5 rfl ?_
      refine A_aload_n dX0_payParts_7 rfl rfl ?_
      refine A_get dX0_payParts_8 f_X0_31 (HC_at (by decide)) rfl ?_
      refine A_get dX0_payParts_11 f_X0_93 (HC_at (by decide)) rfl ?_
      refine A_get dX0_payParts_14 f_X0_48 (HC_at (by decide)) rfl ?_
      refine A_icmp_ge 40 dX0_payParts_17 (by decide) (fun c17 => ?_) (fun c17 => ?_)
      · exact absurd c17 (by rw [hI0.1]; exact nI_ge (by omega) (by omega))
      · refine A_lload_n dX0_payParts_20 rfl rfl ?_
        refine A_aload_n dX0_payParts_21 rfl rfl ?_
        refine A_get dX0_payParts_22 f_X0_12 (HC_at (by decide)) rfl ?_
        refine A_iload_n dX0_payParts_25 rfl rfl ?_
        refine A_iload dX0_payParts_26 rfl ?_
        refine A_callVi dX0_payParts_28 m_X0_100 cb_X11_at (As := [_, _]) rfl (HC_at (by decide)) rfl (c_pAt48 G (by omega) (by omega)) rfl ⟨by decide, by decide⟩ (Nat.le_of_ble_eq_true rfl) ⟨by decide, by decide⟩ (fun x28 h28 hq => ?_)
        obtain ⟨rfl, rfl⟩ := hq
        refine A_i2l dX0_payParts_31 ?_
        refine A_ladd dX0_payParts_32 ?_
        refine A_lstore_n (lv1 := [_, _, _, _, _, _, _, _]) dX0_payParts_33 rfl (Nat.le_of_ble_eq_true rfl) rfl rfl ?_
        refine A_inc 1 (lv1 := [_, _, _, _, _, _, _, _]) dX0_payParts_34 rfl (by decide) rfl rfl ?_
        refine A_goto 5 dX0_payParts_37 (by decide) ?_
        rw [nI_1]
        exact ih (i + 1) (by omega)
  refine A_lconst (v := 0) dX0_payParts_0 (by decide) ?_
  refine A_lstore_n (lv1 := [_, _, _, _, _, _, _, _]) dX0_payParts_1 rfl (Nat.le_of_ble_eq_true rfl) rfl rfl ?_
  refine A_iconst (v := 0) dX0_payParts_2 (by decide) ?_
  refine A_istore (lv1 := [_, _, _, _, _, _, _, _]) dX0_payParts_3 (Nat.le_of_ble_eq_true rfl) rfl rfl ?_
  exact loop1 nv 0 (by omega)

theorem c_strike (G : GX) {b : Nat} {c : CT} {co : Nat → Nat → Option Nat} {r : Nat → Option AE} {n : Nat} {nv nc nf nl wk : Nat} {law : Int32} (hI : IX c nv nc nf nl wk) : MA G 4 yX0_strike cX0_strike 3 none 0 0 [.ref (b + 46), .int law] (HC b c co r n) (qV fun h1 => h1 = HC b (strikeF law c) co r n) := by
  refine MA.of (own := RX0) false [some (.ref (b + 46)), some (.int law), none] (by decide +kernel) rfl (fun h => by cases h) (Nat.le_of_ble_eq_true rfl) rfl (fun X => ?_)
  have hv6 := hI.2.1
  obtain ⟨T, hTe⟩ : ∃ T, T = strikeF law c := ⟨_, rfl⟩
  rw [← hTe]
  have loop : ∀ (k i : Nat) (c : CT), i + k = nv → (IX c nv nc nf nl wk) → (forR (stS nv law) i k c = T) → WA X G RX0 cX0_strike false none (qV fun h1 => h1 = HC b T co r n) 4 0 0 (HC b c co r n) 0 0 9 [some (.ref (b + 46)), some (.int law), some (.int (nI i))] [] := by
    intro k
    induction k with
    | zero =>
      intro i c hk hI hT
      refine A_iload_n dX0_strike_9 rfl rfl ?_
      refine A_aload_n dX0_strike_10 rfl rfl ?_
      refine A_get dX0_strike_11 f_X0_31 (HC_at (by decide)) rfl ?_
      refine A_get dX0_strike_14 f_X0_93 (HC_at (by decide)) rfl ?_
      refine A_get dX0_strike_17 f_X0_48 (HC_at (by decide)) rfl ?_
      refine A_icmp_ge 48 dX0_strike_20 (by decide) (fun c20 => ?_) (fun c20 => ?_)
      · exact A_vret dX0_strike_48 (congrArg (fun z => HC b z co r n) hT) ⟨by decide, by decide⟩
      · exact absurd (by rw [hI.1]; exact nI_le (by omega) (by omega)) c20
    | succ k ih =>
      intro i c hk hI hT
      have hi : i < nv := by omega
      refine A_iload_n dX0_strike_9 rfl rfl ?_
      refine A_aload_n dX0_strike_10 rfl rfl ?_
      refine A_get dX0_strike_11 f_X0_31 (HC_at (by decide)) rfl ?_
      refine A_get dX0_strike_14 f_X0_93 (HC_at (by decide)) rfl ?_
      refine A_get dX0_strike_17 f_X0_48 (HC_at (by decide)) rfl ?_
      refine A_icmp_ge 48 dX0_strike_20 (by decide) (fun c20 => ?_) (fun c20 => ?_)
      · exact absurd c20 (by rw [hI.1]; exact nI_ge (by omega) (by omega))
      · refine A_iload_n dX0_strike_23 rfl rfl ?_
        refine A_iconst (v := 2) dX0_strike_24 (by decide) ?_
        refine A_icmp_ne 36 dX0_strike_25 (by decide) (fun c25 => ?_) (fun c25 => ?_)
        · refine A_aload_n dX0_strike_36 rfl rfl ?_
          refine A_iload_n dX0_strike_37 rfl rfl ?_
          refine A_iload_n dX0_strike_38 rfl rfl ?_
          refine A_callVv dX0_strike_39 m_X0_112 cb_X0_payInTurn (As := [_, _]) rfl (HC_at (by decide)) rfl (c_payInTurn G hI hi) rfl ⟨by decide, by decide⟩ (Nat.le_of_ble_eq_true rfl) ⟨by decide, by decide⟩ (fun h39 hq => ?_)
          obtain rfl := hq
          refine A_inc 1 (lv1 := [_, _, _]) dX0_strike_42 rfl (by decide) rfl rfl ?_
          refine A_goto 9 dX0_strike_45 (by decide) ?_
          rw [nI_1]
          refine WA_h (congrArg (fun z => HC b z co r n) (show _ = stS nv law i c from ?_)) (ih (i + 1) _ (by omega) (hI.s49 stS_s) hT)
          rw [stS, if_neg c25]
        · refine A_aload_n dX0_strike_28 rfl rfl ?_
          refine A_iload_n dX0_strike_29 rfl rfl ?_
          refine A_callVv dX0_strike_30 m_X0_108 cb_X0_payParts (As := [_]) rfl (HC_at (by decide)) rfl (c_payParts G hI hi) rfl ⟨by decide, by decide⟩ (Nat.le_of_ble_eq_true rfl) ⟨by decide, by decide⟩ (fun h30 hq => ?_)
          obtain rfl := hq
          refine A_goto 42 dX0_strike_33 (by decide) ?_
          refine A_inc 1 (lv1 := [_, _, _]) dX0_strike_42 rfl (by decide) rfl rfl ?_
          refine A_goto 9 dX0_strike_45 (by decide) ?_
          rw [nI_1]
          refine WA_h (congrArg (fun z => HC b z co r n) (show _ = stS nv law i c from ?_)) (ih (i + 1) _ (by omega) (hI.s49 stS_s) hT)
          rw [stS, if_pos c25]
  refine A_aload_n dX0_strike_0 rfl rfl ?_
  refine A_get dX0_strike_1 f_X0_21 (HC_at (by decide)) rfl ?_
  refine A_callVv dX0_strike_4 m_X0_39 cb_X11_clear (As := []) rfl (HC_at (by decide)) rfl (c_pClear52 G) rfl ⟨by decide, by decide⟩ (Nat.le_of_ble_eq_true rfl) ⟨by decide, by decide⟩ (fun h4 hq => ?_)
  obtain rfl := hq
  refine A_iconst (v := 0) dX0_strike_7 (by decide) ?_
  refine A_istore_n (lv1 := [_, _, _]) dX0_strike_8 rfl (Nat.le_of_ble_eq_true rfl) rfl rfl ?_
  exact loop nv 0 (st1 c 52 (fun _ => 0)) (by omega) (hI.to (fun l hl => st1_ne (by omega))) (by rw [hTe, strikeF, hI.nvf.1])

theorem c_ruined (G : GX) {b : Nat} {c : CT} {co : Nat → Nat → Option Nat} {r : Nat → Option AE} {n : Nat} {nv nc nf nl wk : Nat} (hI : IX c nv nc nf nl wk) : MA G 2 yX0_ruined cX0_ruined 6 (some .int) 0 0 [.ref (b + 46)] (HC b c co r n) (qI fun x h1 => x = ruF c nv nv ∧ h1 = HC b c co r n) := by
  refine MA.of (own := RX0) false [some (.ref (b + 46)), none, none, none, none, none] (by decide +kernel) rfl (fun h => by cases h) (Nat.le_of_ble_eq_true rfl) rfl (fun X => ?_)
  obtain ⟨hv, hv6, hc, hc8, hf, hf3, hl, hl8, hw, hw30, gC, gL⟩ := id hI
  have inner : ∀ (v : Nat) (bi : Int32), v < nv → (WA X G RX0 cX0_ruined false (some .int) (qI fun x h1 => x = ruF c nv nv ∧ h1 = HC b c co r n) 2 0 0 (HC b c co r n) 0 0 75 [some (.ref (b + 46)), some (.int bi), some (.int (nI v)), some (.int (dueF (c 48) v nv)), some (.int (dueF (c 52) v nv)), none] []) → ∀ (k i : Nat), i + k = nv → WA X G RX0 cX0_ruined false (some .int) (qI fun x h1 => x = ruF c nv nv ∧ h1 = HC b c co r n) 2 0 0 (HC b c co r n) 0 0 26 [some (.ref (b + 46)), some (.int bi), some (.int (nI v)), some (.int (dueF (c 48) v i)), some (.int (dueF (c 52) v i)), some (.int (nI i))] [] := by
    intro v bi hv9 hk9
    intro k
    induction k with
    | zero =>
      intro i  hk 
      refine A_iload dX0_ruined_26 rfl ?_
      refine A_aload_n dX0_ruined_28 rfl rfl ?_
      refine A_get dX0_ruined_29 f_X0_31 (HC_at (by decide)) rfl ?_
      refine A_get dX0_ruined_32 f_X0_93 (HC_at (by decide)) rfl ?_
      refine A_get dX0_ruined_35 f_X0_48 (HC_at (by decide)) rfl ?_
      refine A_icmp_ge 75 dX0_ruined_38 (by decide) (fun c38 => ?_) (fun c38 => ?_)
      · refine A_fg 5 (lv1 := [_, _, _, _, _, _]) rfl ?_
        rw [show i = nv by omega]
        exact hk9
      · exact absurd (by rw [hv]; exact nI_le (by omega) (by omega)) c38
    | succ k ih =>
      intro i  hk 
      have hi : i < nv := by omega
      refine A_iload dX0_ruined_26 rfl ?_
      refine A_aload_n dX0_ruined_28 rfl rfl ?_
      refine A_get dX0_ruined_29 f_X0_31 (HC_at (by decide)) rfl ?_
      refine A_get dX0_ruined_32 f_X0_93 (HC_at (by decide)) rfl ?_
      refine A_get dX0_ruined_35 f_X0_48 (HC_at (by decide)) rfl ?_
      refine A_icmp_ge 75 dX0_ruined_38 (by decide) (fun c38 => ?_) (fun c38 => ?_)
      · exact absurd c38 (by rw [hv]; exact nI_ge (by omega) (by omega))
      · refine A_iload_n dX0_ruined_41 rfl rfl ?_
        refine A_aload_n dX0_ruined_42 rfl rfl ?_
        refine A_get dX0_ruined_43 f_X0_12 (HC_at (by decide)) rfl ?_
        refine A_iload dX0_ruined_46 rfl ?_
        refine A_iload_n dX0_ruined_48 rfl rfl ?_
        refine A_callVi dX0_ruined_49 m_X0_100 cb_X11_at (As := [_, _]) rfl (HC_at (by decide)) rfl (c_pAt48 G (by omega) (by omega)) rfl ⟨by decide, by decide⟩ (Nat.le_of_ble_eq_true rfl) ⟨by decide, by decide⟩ (fun x49 h49 hq => ?_)
        obtain ⟨rfl, rfl⟩ := hq
        refine A_iadd dX0_ruined_52 ?_
        refine A_istore_n (lv1 := [_, _, _, _, _, _]) dX0_ruined_53 rfl (Nat.le_of_ble_eq_true rfl) rfl rfl ?_
        refine A_iload dX0_ruined_54 rfl ?_
        refine A_aload_n dX0_ruined_56 rfl rfl ?_
        refine A_get dX0_ruined_57 f_X0_21 (HC_at (by decide)) rfl ?_
        refine A_iload dX0_ruined_60 rfl ?_
        refine A_iload_n dX0_ruined_62 rfl rfl ?_
        refine A_callVi dX0_ruined_63 m_X0_100 cb_X11_at (As := [_, _]) rfl (HC_at (by decide)) rfl (c_pAt52 G (by omega) (by omega)) rfl ⟨by decide, by decide⟩ (Nat.le_of_ble_eq_true rfl) ⟨by decide, by decide⟩ (fun x63 h63 hq => ?_)
        obtain ⟨rfl, rfl⟩ := hq
        refine A_iadd dX0_ruined_66 ?_
        refine A_istore (lv1 := [_, _, _, _, _, _]) dX0_ruined_67 (Nat.le_of_ble_eq_true rfl) rfl rfl ?_
        refine A_inc 1 (lv1 := [_, _, _, _, _, _]) dX0_ruined_69 rfl (by decide) rfl rfl ?_
        refine A_goto 26 dX0_ruined_72 (by decide) ?_
        rw [nI_1]
        exact ih (i + 1) (by omega)
  have loop : ∀ (k i : Nat) , i + k = nv → WA X G RX0 cX0_ruined false (some .int) (qI fun x h1 => x = ruF c nv nv ∧ h1 = HC b c co r n) 2 0 0 (HC b c co r n) 0 0 4 [some (.ref (b + 46)), some (.int (ruF c nv i)), some (.int (nI i)), none, none, none] [] := by
    intro k
    induction k with
    | zero =>
      intro i  hk 
      refine A_iload_n dX0_ruined_4 rfl rfl ?_
      refine A_aload_n dX0_ruined_5 rfl rfl ?_
      refine A_get dX0_ruined_6 f_X0_31 (HC_at (by decide)) rfl ?_
      refine A_get dX0_ruined_9 f_X0_93 (HC_at (by decide)) rfl ?_
      refine A_get dX0_ruined_12 f_X0_48 (HC_at (by decide)) rfl ?_
      refine A_icmp_ge 95 dX0_ruined_15 (by decide) (fun c15 => ?_) (fun c15 => ?_)
      · refine A_iload_n dX0_ruined_95 rfl rfl ?_
        exact A_iret dX0_ruined_96 ⟨by rw [show i = nv by omega], rfl⟩ ⟨by decide, by decide⟩
      · exact absurd (by rw [hv]; exact nI_le (by omega) (by omega)) c15
    | succ k ih =>
      intro i  hk 
      have hi : i < nv := by omega
      refine A_iload_n dX0_ruined_4 rfl rfl ?_
      refine A_aload_n dX0_ruined_5 rfl rfl ?_
      refine A_get dX0_ruined_6 f_X0_31 (HC_at (by decide)) rfl ?_
      refine A_get dX0_ruined_9 f_X0_93 (HC_at (by decide)) rfl ?_
      refine A_get dX0_ruined_12 f_X0_48 (HC_at (by decide)) rfl ?_
      refine A_icmp_ge 95 dX0_ruined_15 (by decide) (fun c15 => ?_) (fun c15 => ?_)
      · exact absurd c15 (by rw [hv]; exact nI_ge (by omega) (by omega))
      · refine A_iconst (v := 0) dX0_ruined_18 (by decide) ?_
        refine A_istore_n (lv1 := [_, _, _, _, _, _]) dX0_ruined_19 rfl (Nat.le_of_ble_eq_true rfl) rfl rfl ?_
        refine A_iconst (v := 0) dX0_ruined_20 (by decide) ?_
        refine A_istore (lv1 := [_, _, _, _, _, _]) dX0_ruined_21 (Nat.le_of_ble_eq_true rfl) rfl rfl ?_
        refine A_iconst (v := 0) dX0_ruined_23 (by decide) ?_
        refine A_istore (lv1 := [_, _, _, _, _, _]) dX0_ruined_24 (Nat.le_of_ble_eq_true rfl) rfl rfl ?_
        refine inner i _ hi ?_ nv 0 (by omega)
        refine A_iconst (v := 2) dX0_ruined_75 (by decide) ?_
        refine A_iload dX0_ruined_76 rfl ?_
        refine A_imul dX0_ruined_78 ?_
        refine A_iload_n dX0_ruined_79 rfl rfl ?_
        refine A_icmp_ge 89 dX0_ruined_80 (by decide) (fun c80 => ?_) (fun c80 => ?_)
        · refine A_inc 1 (lv1 := [_, _, _, _, _, _]) dX0_ruined_89 rfl (by decide) rfl rfl ?_
          refine A_goto 4 dX0_ruined_92 (by decide) ?_
          refine A_fg 3 (lv1 := [_, _, _, _, _, _]) rfl ?_
          refine A_fg 4 (lv1 := [_, _, _, _, _, _]) rfl ?_
          rw [nI_1]
          have e := ih (i + 1) (by omega)
          rw [ruF, if_neg (Int32.not_lt.mpr c80)] at e
          exact e
        · refine A_iload_n dX0_ruined_83 rfl rfl ?_
          refine A_iconst (v := 1) dX0_ruined_84 (by decide) ?_
          refine A_iload_n dX0_ruined_85 rfl rfl ?_
          refine A_ishl dX0_ruined_86 ?_
          refine A_ior dX0_ruined_87 ?_
          refine A_istore_n (lv1 := [_, _, _, _, _, _]) dX0_ruined_88 rfl (Nat.le_of_ble_eq_true rfl) rfl rfl ?_
          refine A_inc 1 (lv1 := [_, _, _, _, _, _]) dX0_ruined_89 rfl (by decide) rfl rfl ?_
          refine A_goto 4 dX0_ruined_92 (by decide) ?_
          refine A_fg 3 (lv1 := [_, _, _, _, _, _]) rfl ?_
          refine A_fg 4 (lv1 := [_, _, _, _, _, _]) rfl ?_
          rw [nI_1]
          have e := ih (i + 1) (by omega)
          rw [ruF, if_pos (Int32.not_le.mp c80)] at e
          exact e
  refine A_iconst (v := 0) dX0_ruined_0 (by decide) ?_
  refine A_istore_n (lv1 := [_, _, _, _, _, _]) dX0_ruined_1 rfl (Nat.le_of_ble_eq_true rfl) rfl rfl ?_
  refine A_iconst (v := 0) dX0_ruined_2 (by decide) ?_
  refine A_istore_n (lv1 := [_, _, _, _, _, _]) dX0_ruined_3 rfl (Nat.le_of_ble_eq_true rfl) rfl rfl ?_
  exact loop nv 0 (by omega)
