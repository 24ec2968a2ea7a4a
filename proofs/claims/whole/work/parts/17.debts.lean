/-! DEBTS of the class -/
def owS (c : CT) (i : Nat) (d : Nat → Int32) : Nat → Int32 := upd d (tcl (c 14 (5 * i + 1)) * 6 + tcl (c 14 (5 * i + 0))) (d (tcl (c 14 (5 * i + 1)) * 6 + tcl (c 14 (5 * i + 0))) + (c 36 i - c 37 i))
def owF (c : CT) : Nat → Int32 := forR (owS c) 0 (tcl (c 13 2)) (fun _ => 0)
def reckF (c : CT) : CT := st1 c 47 (owF c)
def allF (d : Nat → Int32) (v : Nat) : Nat → Int64
  | 0 => 0
  | t + 1 => allF d v t + (d (v * 6 + t)).toInt64
def mxL (x y : Int64) : Int64 := if y < x then x else y
def ppV (c : CT) (nv v t : Nat) : Int32 := if (c 30 v).toInt64 < allF (c 47) v nv then ((c 47 (v * 6 + t)).toInt64 * (c 30 v).toInt64 / mxL 1 (allF (c 47) v nv)).toInt32 else c 47 (v * 6 + t)
def ppS (nv v t : Nat) (c : CT) : CT := put c 49 (v * 6 + t) (ppV c nv v t)
def ppA (nv v : Nat) (c : CT) : CT := forR (ppS nv v) 0 nv c
def nextF (d : Nat → Int32) (law : Int32) (v : Nat) (done : Int32) : Nat → Int32
  | 0 => -1
  | t + 1 => if d (v * 6 + t) ≤ 0 then nextF d law v done t else if ¬ (done >>> (nI t &&& 31)) &&& 1 = 0 then nextF d law v done t else
    if nextF d law v done t = -1 then nI t else if ¬ law = 1 then nextF d law v done t else if d (v * 6 + tcl (nextF d law v done t)) ≤ d (v * 6 + t) then nextF d law v done t else nI t
theorem nextF_ix {d : Nat → Int32} {law done : Int32} {v : Nat} : ∀ k, nextF d law v done k = -1 ∨ ∃ j, j < k ∧ nextF d law v done k = nI j
  | 0 => Or.inl rfl
  | k + 1 => by
    have ih := nextF_ix (d := d) (law := law) (done := done) (v := v) k
    have up : nextF d law v done k = -1 ∨ ∃ j, j < k + 1 ∧ nextF d law v done k = nI j := ih.imp id (fun ⟨j, h, e⟩ => ⟨j, by omega, e⟩)
    have me : (nI k : Int32) = -1 ∨ ∃ j, j < k + 1 ∧ (nI k : Int32) = nI j := Or.inr ⟨k, by omega, rfl⟩
    rw [nextF]
    split
    · exact up
    · split
      · exact up
      · split
        · exact me
        · split
          · exact up
          · split
            · exact up
            · exact me
def ptR (nv : Nat) (law : Int32) (v : Nat) : Nat → Int32 → Int32 → CT → CT
  | 0, _, _, c => c
  | k + 1, wa, dn, c => if nextF (c 47) law v dn nv = -1 then c else ptR nv law v k (wa - mn wa (c 47 (v * 6 + tcl (nextF (c 47) law v dn nv)))) (dn ||| (1 <<< (nextF (c 47) law v dn nv &&& 31))) (put c 49 (v * 6 + tcl (nextF (c 47) law v dn nv)) (mn wa (c 47 (v * 6 + tcl (nextF (c 47) law v dn nv)))))
def stS (nv : Nat) (law : Int32) (v : Nat) (c : CT) : CT := if law = 2 then ppA nv v c else ptR nv law v nv (c 30 v) 0 c
def strikeF (law : Int32) (c : CT) : CT := forR (stS (tcl (c 7 2)) law) 0 (tcl (c 7 2)) (st1 c 49 (fun _ => 0))
def dueF (d : Nat → Int32) (v : Nat) : Nat → Int32
  | 0 => 0
  | f + 1 => dueF d v f + d (f * 6 + v)
def ruF (c : CT) (nv : Nat) : Nat → Int32
  | 0 => 0
  | v + 1 => if 2 * dueF (c 49) v nv < dueF (c 47) v nv then ruF c nv v ||| (1 <<< (nI v &&& 31)) else ruF c nv v
def same49 (c c' : CT) : Prop := ∀ l, l ≠ 49 → c' l = c l
theorem same49.tr {a b c : CT} (h : same49 a b) (h2 : same49 b c) : same49 a c := fun l hl => (h2 l hl).trans (h l hl)
theorem same49.rf {c : CT} : same49 c c := fun _ _ => rfl
theorem same49.put {c : CT} {i : Nat} {v : Int32} : same49 c (put c 49 i v) := fun l hl => put_ne hl
theorem ppA_s {nv v : Nat} {c : CT} : same49 c (ppA nv v c) := forR_keep (fun z => same49 c z) (fun _ _ hz => hz.tr same49.put) _ _ _ same49.rf
theorem ptR_s {nv v : Nat} {law : Int32} : ∀ {k : Nat} {wa dn : Int32} {c : CT}, same49 c (ptR nv law v k wa dn c)
  | 0, _, _, _ => same49.rf
  | k + 1, wa, dn, c => by
    rw [ptR]
    split
    · exact same49.rf
    · exact same49.put.tr ptR_s
theorem stS_s {nv v : Nat} {law : Int32} {c : CT} : same49 c (stS nv law v c) := by
  unfold stS
  split
  · exact ppA_s
  · exact ptR_s
theorem IX.s49 {c c' : CT} {nv nc nf nl wk : Nat} (h : IX c nv nc nf nl wk) (e : same49 c c') : IX c' nv nc nf nl wk := h.to (fun l hl => e l (by omega))
theorem lgc_ge (x y : Int64) : 0 ≤ lg_cmp x y ↔ ¬ x < y := by
  unfold lg_cmp
  by_cases h : x > y
  · rw [if_pos h]; exact ⟨fun _ z => absurd h (lg_lt_not z), fun _ => by decide⟩
  · rw [if_neg h]
    by_cases e : x = y
    · rw [if_pos e]; subst e; exact ⟨fun _ => h, fun _ => by decide⟩
    · rw [if_neg e]
      refine ⟨fun z => absurd z (by decide), fun z => ?_⟩
      exfalso
      have h1 : ¬ y.toInt < x.toInt := fun q => h (Int64.lt_iff_toInt_lt.mpr q)
      have h2 : ¬ x.toInt < y.toInt := fun q => z (Int64.lt_iff_toInt_lt.mpr q)
      exact e (Int64.toInt_inj.mp (by omega))
theorem mxL_ne {x : Int64} : ¬ mxL 1 x = 0 := by
  unfold mxL
  split
  · decide
  · next h => intro e; rw [e] at h; exact h (by decide)

theorem c_pair (G : GX) {h : AH} {x y : Nat} : MA G 0 yX0_pair cX0_pair 2 (some .int) 0 0 [.int (nI x), .int (nI y)] h (qI fun z h1 => z = nI (x * 6 + y) ∧ h1 = h) := by
  refine MA.of (own := RX0) false [some (.int (nI x)), some (.int (nI y))] (by decide +kernel) rfl (fun h => by cases h) (Nat.le_of_ble_eq_true rfl) rfl (fun X => ?_)
  refine A_iload_n dX0_pair_0 rfl rfl ?_
  refine A_bipush (v := 6) dX0_pair_1 (by decide) ?_
  refine A_imul dX0_pair_3 ?_
  refine A_iload_n dX0_pair_4 rfl rfl ?_
  refine A_iadd dX0_pair_5 ?_
  exact A_iret dX0_pair_6 ⟨by rw [show (6 : Int32) = nI 6 from rfl, pk_mul, nI_add], rfl⟩ ⟨by decide, by decide⟩

theorem c_pairv (G : GX) {h : AH} {x y : Int32} {N : Nat} (hx : vp_in x N) (hy : vp_in y N) (hN : N ≤ 6) : MA G 0 yX0_pair cX0_pair 2 (some .int) 0 0 [.int x, .int y] h (qI fun z h1 => z = nI (tcl x * 6 + tcl y) ∧ h1 = h) := by
  obtain ⟨i, hi, rfl⟩ := vp_in_of hx (by omega)
  obtain ⟨j, hj, rfl⟩ := vp_in_of hy (by omega)
  have e := c_pair G (h := h) (x := i) (y := j)
  rw [tcl, tcl, nI_clamp (by omega), nI_clamp (by omega)]
  exact e
theorem c_reckon (G : GX) {b : Nat} {c : CT} {co : Nat → Nat → Option Nat} {r : Nat → Option AE} {n : Nat} {nv nc nf nl wk : Nat} (hI : IX c nv nc nf nl wk) : MA G 1 yX0_reckon cX0_reckon 3 none 0 0 [.ref (b + 46)] (HC b c co r n) (qV fun h1 => h1 = HC b (reckF c) co r n) := by
  refine MA.of (own := RX0) false [some (.ref (b + 46)), none, none] (by decide +kernel) rfl (fun h => by cases h) (Nat.le_of_ble_eq_true rfl) rfl (fun X => ?_)
  obtain ⟨hv, hv6, hc, hc8, hf, hf3, hl, hl8, hw, hw30, gC, gL⟩ := id hI
  obtain ⟨T, hTe⟩ : ∃ T, T = owF c := ⟨_, rfl⟩
  have hT9 : HC b (st1 c 47 T) co r n = HC b (reckF c) co r n := by rw [hTe]; rfl
  have loop : ∀ (k i : Nat) (g : Nat → Int32), i + k = nl → (forR (owS c) i k g = T) → WA X G RX0 cX0_reckon false none (qV fun h1 => h1 = HC b (reckF c) co r n) 1 0 0 (HC b (st1 c 47 g) co r n) 0 0 10 [some (.ref (b + 46)), some (.int (nI i)), none] [] := by
    intro k
    induction k with
    | zero =>
      intro i g hk hT
      refine A_iload_n dX0_reckon_10 rfl rfl ?_
      refine A_aload_n dX0_reckon_11 rfl rfl ?_
      refine A_get dX0_reckon_12 f_X0_27 (HC_at (by decide)) rfl ?_
      refine A_get dX0_reckon_15 f_X0_41 (HC_at (by decide)) rfl ?_
      refine A_get dX0_reckon_18 f_X0_47 (HC_at (by decide)) rfl ?_
      refine A_icmp_ge 86 dX0_reckon_21 (by decide) (fun c21 => ?_) (fun c21 => ?_)
      · exact A_vret dX0_reckon_86 (by rw [← hT9, ← hT]; rfl) ⟨by decide, by decide⟩
      · exact absurd (by rw [st1_ne (by decide), hl]; exact nI_le (by omega) (by omega)) c21
    | succ k ih =>
      intro i g hk hT
      have hi : i < nl := by omega
      refine A_iload_n dX0_reckon_10 rfl rfl ?_
      refine A_aload_n dX0_reckon_11 rfl rfl ?_
      refine A_get dX0_reckon_12 f_X0_27 (HC_at (by decide)) rfl ?_
      refine A_get dX0_reckon_15 f_X0_41 (HC_at (by decide)) rfl ?_
      refine A_get dX0_reckon_18 f_X0_47 (HC_at (by decide)) rfl ?_
      refine A_icmp_ge 86 dX0_reckon_21 (by decide) (fun c21 => ?_) (fun c21 => ?_)
      · exact absurd c21 (by rw [st1_ne (by decide), hl]; exact nI_ge (by omega) (by omega))
      · refine A_aload_n dX0_reckon_24 rfl rfl ?_
        refine A_get dX0_reckon_25 f_X0_27 (HC_at (by decide)) rfl ?_
        refine A_get dX0_reckon_28 f_X0_41 (HC_at (by decide)) rfl ?_
        refine A_iload_n dX0_reckon_31 rfl rfl ?_
        refine A_iconst (v := 1) dX0_reckon_32 (by decide) ?_
        refine A_callVi dX0_reckon_33 m_X0_53 cb_X3_at (As := [_, _]) rfl (HC_at (by decide)) rfl (c_at13 G b _ co r n 1 (by rw [st1_ne (by decide)]; exact hl) hl8 hi (by decide)) rfl ⟨by decide, by decide⟩ (Nat.le_of_ble_eq_true rfl) ⟨by decide, by decide⟩ (fun x33 h33 hq => ?_)
        obtain ⟨rfl, rfl⟩ := hq
        refine A_aload_n dX0_reckon_36 rfl rfl ?_
        refine A_get dX0_reckon_37 f_X0_27 (HC_at (by decide)) rfl ?_
        refine A_get dX0_reckon_40 f_X0_41 (HC_at (by decide)) rfl ?_
        refine A_iload_n dX0_reckon_43 rfl rfl ?_
        refine A_iconst (v := 0) dX0_reckon_44 (by decide) ?_
        refine A_callVi dX0_reckon_45 m_X0_53 cb_X3_at (As := [_, _]) rfl (HC_at (by decide)) rfl (c_at13 G b _ co r n 0 (by rw [st1_ne (by decide)]; exact hl) hl8 hi (by decide)) rfl ⟨by decide, by decide⟩ (Nat.le_of_ble_eq_true rfl) ⟨by decide, by decide⟩ (fun x45 h45 hq => ?_)
        obtain ⟨rfl, rfl⟩ := hq
        rw [st1_ne (by decide)]
        have hp1 := vp_tcl (gL i hi).1
        have hp2 := vp_tcl (gL i hi).2
        refine A_callSi dX0_reckon_48 m_X0_57 cb_X0_pair (As := [_, _]) rfl (c_pairv G (gL i hi).2 (gL i hi).1 hv6) rfl ⟨by decide, by decide⟩ (Nat.le_of_ble_eq_true rfl) ⟨by decide, by decide⟩ (fun x48 h48 hq => ?_)
        obtain ⟨rfl, rfl⟩ := hq
        refine A_istore_n (lv1 := [_, _, _]) dX0_reckon_51 rfl (Nat.le_of_ble_eq_true rfl) rfl rfl ?_
        refine A_aload_n dX0_reckon_52 rfl rfl ?_
        refine A_get dX0_reckon_53 f_X0_11 (HC_at (by decide)) rfl ?_
        refine A_iload_n dX0_reckon_56 rfl rfl ?_
        refine A_dup2 dX0_reckon_57 rfl rfl ?_
        refine A_ialdN dX0_reckon_58 (HC_at (by decide)) (by omega) (by decide) ?_
        refine A_aload_n dX0_reckon_59 rfl rfl ?_
        refine A_get dX0_reckon_60 f_X0_31 (HC_at (by decide)) rfl ?_
        refine A_get dX0_reckon_63 f_X0_60 (HC_at (by decide)) rfl ?_
        refine A_iload_n dX0_reckon_66 rfl rfl ?_
        refine A_ialdN dX0_reckon_67 (HC_at (by decide)) (by omega) (by decide) ?_
        refine A_aload_n dX0_reckon_68 rfl rfl ?_
        refine A_get dX0_reckon_69 f_X0_31 (HC_at (by decide)) rfl ?_
        refine A_get dX0_reckon_72 f_X0_65 (HC_at (by decide)) rfl ?_
        refine A_iload_n dX0_reckon_75 rfl rfl ?_
        refine A_ialdN dX0_reckon_76 (HC_at (by decide)) (by omega) (by decide) ?_
        refine A_isub dX0_reckon_77 ?_
        refine A_iadd dX0_reckon_78 ?_
        refine A_iastCN dX0_reckon_79 (by decide) (fun _ => rfl) (by omega) (by decide) ?_
        refine A_inc 1 (lv1 := [_, _, _]) dX0_reckon_80 rfl (by decide) rfl rfl ?_
        refine A_goto 10 dX0_reckon_83 (by decide) ?_
        refine A_fg 2 (lv1 := [_, _, _]) rfl ?_
        rw [nI_1]
        refine WA_h (congrArg (fun z => HC b z co r n) (show _ = st1 c 47 (owS c i g) from by funext l; by_cases h : l = 47 <;> simp [put, st1, h]; rfl)) (ih (i + 1) _ (by omega) hT)
  refine A_aload_n dX0_reckon_0 rfl rfl ?_
  refine A_get dX0_reckon_1 f_X0_11 (HC_at (by decide)) rfl ?_
  refine A_iconst (v := 0) dX0_reckon_4 (by decide) ?_
  refine A_callSv dX0_reckon_5 m_X0_35 cb_J7_fill_53178 (As := [_, _]) rfl (c_fill G (HC b _ co r n) (b + 47) _ _ _ (HC_at (by decide)) (by decide)) rfl ⟨by decide, by decide⟩ (Nat.le_of_ble_eq_true rfl) ⟨by decide, by decide⟩ (fun h5 hq => ?_)
  obtain rfl := hq
  refine WA_h (HC_up (by decide) rfl) ?_
  refine A_iconst (v := 0) dX0_reckon_8 (by decide) ?_
  refine A_istore_n (lv1 := [_, _, _]) dX0_reckon_9 rfl (Nat.le_of_ble_eq_true rfl) rfl rfl ?_
  exact loop nl 0 (fun _ => 0) (by omega) (by rw [hTe, owF, hI.nvf.2.2.2.1])

theorem c_nextToPay (G : GX) {b : Nat} {c : CT} {co : Nat → Nat → Option Nat} {r : Nat → Option AE} {n : Nat} {nv nc nf nl wk : Nat} {v : Nat} {law dn : Int32} (hI : IX c nv nc nf nl wk) (hv9 : v < nv) : MA G 1 yX0_nextToPay cX0_nextToPay 7 (some .int) 0 0 [.ref (b + 46), .int (nI v), .int law, .int dn] (HC b c co r n) (qI fun x h1 => x = nextF (c 47) law v dn nv ∧ h1 = HC b c co r n) := by
  refine MA.of (own := RX0) false [some (.ref (b + 46)), some (.int (nI v)), some (.int law), some (.int dn), none, none, none] (by decide +kernel) rfl (fun h => by cases h) (Nat.le_of_ble_eq_true rfl) rfl (fun X => ?_)
  obtain ⟨hv, hv6, hc, hc8, hf, hf3, hl, hl8, hw, hw30, gC, gL⟩ := id hI
  have loop : ∀ (k i : Nat) , i + k = nv → WA X G RX0 cX0_nextToPay false (some .int) (qI fun x h1 => x = nextF (c 47) law v dn nv ∧ h1 = HC b c co r n) 1 0 0 (HC b c co r n) 0 0 6 [some (.ref (b + 46)), some (.int (nI v)), some (.int law), some (.int dn), some (.int (nextF (c 47) law v dn i)), some (.int (nI i)), none] [] := by
    intro k
    induction k with
    | zero =>
      intro i  hk 
      refine A_iload dX0_nextToPay_6 rfl ?_
      refine A_aload_n dX0_nextToPay_8 rfl rfl ?_
      refine A_get dX0_nextToPay_9 f_X0_27 (HC_at (by decide)) rfl ?_
      refine A_get dX0_nextToPay_12 f_X0_88 (HC_at (by decide)) rfl ?_
      refine A_get dX0_nextToPay_15 f_X0_47 (HC_at (by decide)) rfl ?_
      refine A_icmp_ge 85 dX0_nextToPay_18 (by decide) (fun c18 => ?_) (fun c18 => ?_)
      · refine A_iload dX0_nextToPay_85 rfl ?_
        exact A_iret dX0_nextToPay_87 ⟨by rw [show i = nv by omega], rfl⟩ ⟨by decide, by decide⟩
      · exact absurd (by rw [hv]; exact nI_le (by omega) (by omega)) c18
    | succ k ih =>
      intro i  hk 
      have hi : i < nv := by omega
      refine A_iload dX0_nextToPay_6 rfl ?_
      refine A_aload_n dX0_nextToPay_8 rfl rfl ?_
      refine A_get dX0_nextToPay_9 f_X0_27 (HC_at (by decide)) rfl ?_
      refine A_get dX0_nextToPay_12 f_X0_88 (HC_at (by decide)) rfl ?_
      refine A_get dX0_nextToPay_15 f_X0_47 (HC_at (by decide)) rfl ?_
      refine A_icmp_ge 85 dX0_nextToPay_18 (by decide) (fun c18 => ?_) (fun c18 => ?_)
      · exact absurd c18 (by rw [hv]; exact nI_ge (by omega) (by omega))
      · refine A_aload_n dX0_nextToPay_21 rfl rfl ?_
        refine A_get dX0_nextToPay_22 f_X0_11 (HC_at (by decide)) rfl ?_
        refine A_iload_n dX0_nextToPay_25 rfl rfl ?_
        refine A_iload dX0_nextToPay_26 rfl ?_
        refine A_callSi dX0_nextToPay_28 m_X0_57 cb_X0_pair (As := [_, _]) rfl (c_pair G) rfl ⟨by decide, by decide⟩ (Nat.le_of_ble_eq_true rfl) ⟨by decide, by decide⟩ (fun x28 h28 hq => ?_)
        obtain ⟨rfl, rfl⟩ := hq
        refine A_ialdN dX0_nextToPay_31 (HC_at (by decide)) (by omega) (by decide) ?_
        refine A_istore (lv1 := [_, _, _, _, _, _, _]) dX0_nextToPay_32 (Nat.le_of_ble_eq_true rfl) rfl rfl ?_
        refine A_iload dX0_nextToPay_34 rfl ?_
        refine A_if_le 79 dX0_nextToPay_36 (by decide) (fun c36 => ?_) (fun c36 => ?_)
        · refine A_inc 1 (lv1 := [_, _, _, _, _, _, _]) dX0_nextToPay_79 rfl (by decide) rfl rfl ?_
          refine A_goto 6 dX0_nextToPay_82 (by decide) ?_
          refine A_fg 6 (lv1 := [_, _, _, _, _, _, _]) rfl ?_
          rw [nI_1]
          have e := ih (i + 1) (by omega)
          rw [nextF, if_pos c36] at e
          exact e
        · refine A_iload_n dX0_nextToPay_39 rfl rfl ?_
          refine A_iload dX0_nextToPay_40 rfl ?_
          refine A_ishr dX0_nextToPay_42 ?_
          refine A_iconst (v := 1) dX0_nextToPay_43 (by decide) ?_
          refine A_iand dX0_nextToPay_44 ?_
          refine A_if_ne 79 dX0_nextToPay_45 (by decide) (fun c45 => ?_) (fun c45 => ?_)
          · refine A_inc 1 (lv1 := [_, _, _, _, _, _, _]) dX0_nextToPay_79 rfl (by decide) rfl rfl ?_
            refine A_goto 6 dX0_nextToPay_82 (by decide) ?_
            refine A_fg 6 (lv1 := [_, _, _, _, _, _, _]) rfl ?_
            rw [nI_1]
            have e := ih (i + 1) (by omega)
            rw [nextF, if_neg c36, if_pos c45] at e
            exact e
          · refine A_iload dX0_nextToPay_48 rfl ?_
            refine A_iconst (v := (-1)) dX0_nextToPay_50 (by decide) ?_
            refine A_icmp_eq 75 dX0_nextToPay_51 (by decide) (fun c51 => ?_) (fun c51 => ?_)
            · refine A_iload dX0_nextToPay_75 rfl ?_
              refine A_istore (lv1 := [_, _, _, _, _, _, _]) dX0_nextToPay_77 (Nat.le_of_ble_eq_true rfl) rfl rfl ?_
              refine A_inc 1 (lv1 := [_, _, _, _, _, _, _]) dX0_nextToPay_79 rfl (by decide) rfl rfl ?_
              refine A_goto 6 dX0_nextToPay_82 (by decide) ?_
              refine A_fg 6 (lv1 := [_, _, _, _, _, _, _]) rfl ?_
              rw [nI_1]
              have e := ih (i + 1) (by omega)
              rw [nextF, if_neg c36, if_neg (fun z => z c45), if_pos c51] at e
              exact e
            · obtain ⟨j, hj, ej⟩ := (nextF_ix i).resolve_left c51
              have etc9 : tcl (nextF (c 47) law v dn i) = j := by rw [ej, tcl, nI_clamp (by omega)]
              refine A_iload_n dX0_nextToPay_54 rfl rfl ?_
              refine A_iconst (v := 1) dX0_nextToPay_55 (by decide) ?_
              refine A_icmp_ne 79 dX0_nextToPay_56 (by decide) (fun c56 => ?_) (fun c56 => ?_)
              · refine A_inc 1 (lv1 := [_, _, _, _, _, _, _]) dX0_nextToPay_79 rfl (by decide) rfl rfl ?_
                refine A_goto 6 dX0_nextToPay_82 (by decide) ?_
                refine A_fg 6 (lv1 := [_, _, _, _, _, _, _]) rfl ?_
                rw [nI_1]
                have e := ih (i + 1) (by omega)
                rw [nextF, if_neg c36, if_neg (fun z => z c45), if_neg c51, if_pos c56] at e
                exact e
              · refine A_iload dX0_nextToPay_59 rfl ?_
                refine A_aload_n dX0_nextToPay_61 rfl rfl ?_
                refine A_get dX0_nextToPay_62 f_X0_11 (HC_at (by decide)) rfl ?_
                refine A_iload_n dX0_nextToPay_65 rfl rfl ?_
                refine A_iload dX0_nextToPay_66 rfl ?_
                refine A_eqI ej ?_
                refine A_callSi dX0_nextToPay_68 m_X0_57 cb_X0_pair (As := [_, _]) rfl (c_pair G) rfl ⟨by decide, by decide⟩ (Nat.le_of_ble_eq_true rfl) ⟨by decide, by decide⟩ (fun x68 h68 hq => ?_)
                obtain ⟨rfl, rfl⟩ := hq
                refine A_ialdN dX0_nextToPay_71 (HC_at (by decide)) (by omega) (by decide) ?_
                refine A_icmp_ge 79 dX0_nextToPay_72 (by decide) (fun c72 => ?_) (fun c72 => ?_)
                · rw [← etc9] at c72
                  refine A_inc 1 (lv1 := [_, _, _, _, _, _, _]) dX0_nextToPay_79 rfl (by decide) rfl rfl ?_
                  refine A_goto 6 dX0_nextToPay_82 (by decide) ?_
                  refine A_fg 6 (lv1 := [_, _, _, _, _, _, _]) rfl ?_
                  rw [nI_1]
                  have e := ih (i + 1) (by omega)
                  rw [nextF, if_neg c36, if_neg (fun z => z c45), if_neg c51, if_neg (fun z => z c56), if_pos c72] at e
                  exact e
                · rw [← etc9] at c72
                  refine A_iload dX0_nextToPay_75 rfl ?_
                  refine A_istore (lv1 := [_, _, _, _, _, _, _]) dX0_nextToPay_77 (Nat.le_of_ble_eq_true rfl) rfl rfl ?_
                  refine A_inc 1 (lv1 := [_, _, _, _, _, _, _]) dX0_nextToPay_79 rfl (by decide) rfl rfl ?_
                  refine A_goto 6 dX0_nextToPay_82 (by decide) ?_
                  refine A_fg 6 (lv1 := [_, _, _, _, _, _, _]) rfl ?_
                  rw [nI_1]
                  have e := ih (i + 1) (by omega)
                  rw [nextF, if_neg c36, if_neg (fun z => z c45), if_neg c51, if_neg (fun z => z c56), if_neg c72] at e
                  exact e
  refine A_iconst (v := (-1)) dX0_nextToPay_0 (by decide) ?_
  refine A_istore (lv1 := [_, _, _, _, _, _, _]) dX0_nextToPay_1 (Nat.le_of_ble_eq_true rfl) rfl rfl ?_
  refine A_iconst (v := 0) dX0_nextToPay_3 (by decide) ?_
  refine A_istore (lv1 := [_, _, _, _, _, _, _]) dX0_nextToPay_4 (Nat.le_of_ble_eq_true rfl) rfl rfl ?_
  exact loop nv 0 (by omega)

theorem c_payInTurn (G : GX) {b : Nat} {c : CT} {co : Nat → Nat → Option Nat} {r : Nat → Option AE} {n : Nat} {nv nc nf nl wk : Nat} {v : Nat} {law : Int32} (hI : IX c nv nc nf nl wk) (hv9 : v < nv) : MA G 2 yX0_payInTurn cX0_payInTurn 8 none 0 0 [.ref (b + 46), .int (nI v), .int law] (HC b c co r n) (qV fun h1 => h1 = HC b (ptR nv law v nv (c 30 v) 0 c) co r n) := by
  refine MA.of (own := RX0) false [some (.ref (b + 46)), some (.int (nI v)), some (.int law), none, none, none, none, none] (by decide +kernel) rfl (fun h => by cases h) (Nat.le_of_ble_eq_true rfl) rfl (fun X => ?_)
  have hv6 := hI.2.1
  obtain ⟨T, hTe⟩ : ∃ T, T = ptR nv law v nv (c 30 v) 0 c := ⟨_, rfl⟩
  rw [← hTe]
  have loop : ∀ (k i : Nat) (wa : Int32) (dn : Int32) (c : CT), i + k = nv → (IX c nv nc nf nl wk) → (ptR nv law v k wa dn c = T) → WA X G RX0 cX0_payInTurn false none (qV fun h1 => h1 = HC b T co r n) 2 0 0 (HC b c co r n) 0 0 16 [some (.ref (b + 46)), some (.int (nI v)), some (.int law), some (.int wa), some (.int dn), some (.int (nI i)), none, none] [] := by
    intro k
    induction k with
    | zero =>
      intro i wa dn c hk hI hT
      refine A_iload dX0_payInTurn_16 rfl ?_
      refine A_aload_n dX0_payInTurn_18 rfl rfl ?_
      refine A_get dX0_payInTurn_19 f_X0_27 (HC_at (by decide)) rfl ?_
      refine A_get dX0_payInTurn_22 f_X0_88 (HC_at (by decide)) rfl ?_
      refine A_get dX0_payInTurn_25 f_X0_47 (HC_at (by decide)) rfl ?_
      refine A_icmp_ge 98 dX0_payInTurn_28 (by decide) (fun c28 => ?_) (fun c28 => ?_)
      · exact A_vret dX0_payInTurn_98 (congrArg (fun z => HC b z co r n) hT) ⟨by decide, by decide⟩
      · exact absurd (by rw [hI.1]; exact nI_le (by omega) (by omega)) c28
    | succ k ih =>
      intro i wa dn c hk hI hT
      have hi : i < nv := by omega
      refine A_iload dX0_payInTurn_16 rfl ?_
      refine A_aload_n dX0_payInTurn_18 rfl rfl ?_
      refine A_get dX0_payInTurn_19 f_X0_27 (HC_at (by decide)) rfl ?_
      refine A_get dX0_payInTurn_22 f_X0_88 (HC_at (by decide)) rfl ?_
      refine A_get dX0_payInTurn_25 f_X0_47 (HC_at (by decide)) rfl ?_
      refine A_icmp_ge 98 dX0_payInTurn_28 (by decide) (fun c28 => ?_) (fun c28 => ?_)
      · exact absurd c28 (by rw [hI.1]; exact nI_ge (by omega) (by omega))
      · refine A_aload_n dX0_payInTurn_31 rfl rfl ?_
        refine A_iload_n dX0_payInTurn_32 rfl rfl ?_
        refine A_iload_n dX0_payInTurn_33 rfl rfl ?_
        refine A_iload dX0_payInTurn_34 rfl ?_
        refine A_callVi dX0_payInTurn_36 m_X0_118 cb_X0_nextToPay (As := [_, _, _]) rfl (HC_at (by decide)) rfl (c_nextToPay G hI hv9) rfl ⟨by decide, by decide⟩ (Nat.le_of_ble_eq_true rfl) ⟨by decide, by decide⟩ (fun x36 h36 hq => ?_)
        obtain ⟨rfl, rfl⟩ := hq
        refine A_istore (lv1 := [_, _, _, _, _, _, _, _]) dX0_payInTurn_39 (Nat.le_of_ble_eq_true rfl) rfl rfl ?_
        refine A_iload dX0_payInTurn_41 rfl ?_
        refine A_iconst (v := (-1)) dX0_payInTurn_43 (by decide) ?_
        refine A_icmp_ne 48 dX0_payInTurn_44 (by decide) (fun c44 => ?_) (fun c44 => ?_)
        · obtain ⟨j, hj, ej⟩ := (nextF_ix (d := c 47) (law := law) (done := dn) (v := v) nv).resolve_left c44
          have etc9 : tcl (nextF (c 47) law v dn nv) = j := by rw [ej, tcl, nI_clamp (by omega)]
          refine A_iload_n dX0_payInTurn_48 rfl rfl ?_
          refine A_aload_n dX0_payInTurn_49 rfl rfl ?_
          refine A_get dX0_payInTurn_50 f_X0_11 (HC_at (by decide)) rfl ?_
          refine A_iload_n dX0_payInTurn_53 rfl rfl ?_
          refine A_iload dX0_payInTurn_54 rfl ?_
          refine A_eqI ej ?_
          refine A_callSi dX0_payInTurn_56 m_X0_57 cb_X0_pair (As := [_, _]) rfl (c_pair G) rfl ⟨by decide, by decide⟩ (Nat.le_of_ble_eq_true rfl) ⟨by decide, by decide⟩ (fun x56 h56 hq => ?_)
          obtain ⟨rfl, rfl⟩ := hq
          refine A_ialdN dX0_payInTurn_59 (HC_at (by decide)) (by omega) (by decide) ?_
          refine A_min dX0_payInTurn_60 w_943 (by decide) (Nat.le_of_ble_eq_true rfl) ⟨by decide, by decide⟩ ?_
          refine A_istore (lv1 := [_, _, _, _, _, _, _, _]) dX0_payInTurn_63 (Nat.le_of_ble_eq_true rfl) rfl rfl ?_
          refine A_aload_n dX0_payInTurn_65 rfl rfl ?_
          refine A_get dX0_payInTurn_66 f_X0_18 (HC_at (by decide)) rfl ?_
          refine A_iload_n dX0_payInTurn_69 rfl rfl ?_
          refine A_iload dX0_payInTurn_70 rfl ?_
          refine A_eqI ej ?_
          refine A_callSi dX0_payInTurn_72 m_X0_57 cb_X0_pair (As := [_, _]) rfl (c_pair G) rfl ⟨by decide, by decide⟩ (Nat.le_of_ble_eq_true rfl) ⟨by decide, by decide⟩ (fun x72 h72 hq => ?_)
          obtain ⟨rfl, rfl⟩ := hq
          refine A_iload dX0_payInTurn_75 rfl ?_
          refine A_iastCN dX0_payInTurn_77 (by decide) (fun _ => rfl) (by omega) (by decide) ?_
          refine A_iload_n dX0_payInTurn_78 rfl rfl ?_
          refine A_iload dX0_payInTurn_79 rfl ?_
          refine A_isub dX0_payInTurn_81 ?_
          refine A_istore_n (lv1 := [_, _, _, _, _, _, _, _]) dX0_payInTurn_82 rfl (Nat.le_of_ble_eq_true rfl) rfl rfl ?_
          refine A_iload dX0_payInTurn_83 rfl ?_
          refine A_iconst (v := 1) dX0_payInTurn_85 (by decide) ?_
          refine A_iload dX0_payInTurn_86 rfl ?_
          refine A_ishl dX0_payInTurn_88 ?_
          refine A_ior dX0_payInTurn_89 ?_
          refine A_istore (lv1 := [_, _, _, _, _, _, _, _]) dX0_payInTurn_90 (Nat.le_of_ble_eq_true rfl) rfl rfl ?_
          refine A_inc 1 (lv1 := [_, _, _, _, _, _, _, _]) dX0_payInTurn_92 rfl (by decide) rfl rfl ?_
          refine A_goto 16 dX0_payInTurn_95 (by decide) ?_
          refine A_fg 6 (lv1 := [_, _, _, _, _, _, _, _]) rfl ?_
          refine A_fg 7 (lv1 := [_, _, _, _, _, _, _, _]) rfl ?_
          rw [nI_1]
          rw [ptR, if_neg c44] at hT
          have e := ih (i + 1) _ _ _ (by omega) (hI.s49 same49.put) hT
          rw [etc9] at e
          exact e
        · exact A_vret dX0_payInTurn_47 (by rw [ptR, if_pos c44] at hT; rw [hT]) ⟨by decide, by decide⟩
  refine A_aload_n dX0_payInTurn_0 rfl rfl ?_
  refine A_get dX0_payInTurn_1 f_X0_31 (HC_at (by decide)) rfl ?_
  refine A_get dX0_payInTurn_4 f_X0_111 (HC_at (by decide)) rfl ?_
  refine A_iload_n dX0_payInTurn_7 rfl rfl ?_
  refine A_ialdN dX0_payInTurn_8 (HC_at (by decide)) (by omega) (by decide) ?_
  refine A_istore_n (lv1 := [_, _, _, _, _, _, _, _]) dX0_payInTurn_9 rfl (Nat.le_of_ble_eq_true rfl) rfl rfl ?_
  refine A_iconst (v := 0) dX0_payInTurn_10 (by decide) ?_
  refine A_istore (lv1 := [_, _, _, _, _, _, _, _]) dX0_payInTurn_11 (Nat.le_of_ble_eq_true rfl) rfl rfl ?_
  refine A_iconst (v := 0) dX0_payInTurn_13 (by decide) ?_
  refine A_istore (lv1 := [_, _, _, _, _, _, _, _]) dX0_payInTurn_14 (Nat.le_of_ble_eq_true rfl) rfl rfl ?_
  exact loop nv 0 _ _ c (by omega) hI hTe.symm

theorem c_payParts (G : GX) {b : Nat} {c0 : CT} {co : Nat → Nat → Option Nat} {r : Nat → Option AE} {n : Nat} {nv nc nf nl wk : Nat} {v : Nat} (hI0 : IX c0 nv nc nf nl wk) (hv9 : v < nv) : MA G 1 yX0_payParts cX0_payParts 8 none 0 0 [.ref (b + 46), .int (nI v)] (HC b c0 co r n) (qV fun h1 => h1 = HC b (ppA nv v c0) co r n) := by
  refine MA.of (own := RX0) false [some (.ref (b + 46)), some (.int (nI v)), none, none, none, none, none, none] (by decide +kernel) rfl (fun h => by cases h) (Nat.le_of_ble_eq_true rfl) rfl (fun X => ?_)
  have hv6 := hI0.2.1
  obtain ⟨T, hTe⟩ : ∃ T, T = ppA nv v c0 := ⟨_, rfl⟩
  rw [← hTe]
  have loop2 : ∀ (k i : Nat) (c : CT), i + k = nv → (IX c nv nc nf nl wk) → (same49 c0 c) → (forR (ppS nv v) i k c = T) → WA X G RX0 cX0_payParts false none (qV fun h1 => h1 = HC b T co r n) 1 0 0 (HC b c co r n) 0 0 56 [some (.ref (b + 46)), some (.int (nI v)), some (.long (allF (c0 47) v nv)), none, some (.long (c0 30 v).toInt64), none, some (.int (nI i)), none] [] := by
    intro k
    induction k with
    | zero =>
      intro i c hk hI hs hT
      refine A_iload dX0_payParts_56 rfl ?_
      refine A_aload_n dX0_payParts_58 rfl rfl ?_
      refine A_get dX0_payParts_59 f_X0_27 (HC_at (by decide)) rfl ?_
      refine A_get dX0_payParts_62 f_X0_88 (HC_at (by decide)) rfl ?_
      refine A_get dX0_payParts_65 f_X0_47 (HC_at (by decide)) rfl ?_
      refine A_icmp_ge 126 dX0_payParts_68 (by decide) (fun c68 => ?_) (fun c68 => ?_)
      · exact A_vret dX0_payParts_126 (congrArg (fun z => HC b z co r n) hT) ⟨by decide, by decide⟩
      · exact absurd (by rw [hI.1]; exact nI_le (by omega) (by omega)) c68
    | succ k ih =>
      intro i c hk hI hs hT
      have hi : i < nv := by omega
      refine A_iload dX0_payParts_56 rfl ?_
      refine A_aload_n dX0_payParts_58 rfl rfl ?_
      refine A_get dX0_payParts_59 f_X0_27 (HC_at (by decide)) rfl ?_
      refine A_get dX0_payParts_62 f_X0_88 (HC_at (by decide)) rfl ?_
      refine A_get dX0_payParts_65 f_X0_47 (HC_at (by decide)) rfl ?_
      refine A_icmp_ge 126 dX0_payParts_68 (by decide) (fun c68 => ?_) (fun c68 => ?_)
      · exact absurd c68 (by rw [hI.1]; exact nI_ge (by omega) (by omega))
      · refine A_aload_n dX0_payParts_71 rfl rfl ?_
        refine A_get dX0_payParts_72 f_X0_11 (HC_at (by decide)) rfl ?_
        refine A_iload_n dX0_payParts_75 rfl rfl ?_
        refine A_iload dX0_payParts_76 rfl ?_
        refine A_callSi dX0_payParts_78 m_X0_57 cb_X0_pair (As := [_, _]) rfl (c_pair G) rfl ⟨by decide, by decide⟩ (Nat.le_of_ble_eq_true rfl) ⟨by decide, by decide⟩ (fun x78 h78 hq => ?_)
        obtain ⟨rfl, rfl⟩ := hq
        refine A_ialdN dX0_payParts_81 (HC_at (by decide)) (by omega) (by decide) ?_
        refine A_istore (lv1 := [_, _, _, _, _, _, _, _]) dX0_payParts_82 (Nat.le_of_ble_eq_true rfl) rfl rfl ?_
        refine A_aload_n dX0_payParts_84 rfl rfl ?_
        refine A_get dX0_payParts_85 f_X0_18 (HC_at (by decide)) rfl ?_
        refine A_iload_n dX0_payParts_88 rfl rfl ?_
        refine A_iload dX0_payParts_89 rfl ?_
        refine A_callSi dX0_payParts_91 m_X0_57 cb_X0_pair (As := [_, _]) rfl (c_pair G) rfl ⟨by decide, by decide⟩ (Nat.le_of_ble_eq_true rfl) ⟨by decide, by decide⟩ (fun x91 h91 hq => ?_)
        obtain ⟨rfl, rfl⟩ := hq
        refine A_lload dX0_payParts_94 rfl ?_
        refine A_lload_n dX0_payParts_96 rfl rfl ?_
        refine A_lcmp dX0_payParts_97 ?_
        refine A_if_ge 117 dX0_payParts_98 (by decide) (fun c98 => ?_) (fun c98 => ?_)
        · refine A_iload dX0_payParts_117 rfl ?_
          refine A_iastCN dX0_payParts_119 (by decide) (fun _ => rfl) (by omega) (by decide) ?_
          refine A_inc 1 (lv1 := [_, _, _, _, _, _, _, _]) dX0_payParts_120 rfl (by decide) rfl rfl ?_
          refine A_goto 56 dX0_payParts_123 (by decide) ?_
          refine A_fg 7 (lv1 := [_, _, _, _, _, _, _, _]) rfl ?_
          rw [nI_1]
          refine WA_h (congrArg (fun z => HC b z co r n) (show _ = ppS nv v i c from ?_)) (ih (i + 1) _ (by omega) (hI.s49 same49.put) (hs.tr same49.put) hT)
          rw [ppS, ppV, hs 47 (by decide), hs 30 (by decide), if_neg ((lgc_ge _ _).mp c98)]
        · refine A_iload dX0_payParts_101 rfl ?_
          refine A_i2l dX0_payParts_103 ?_
          refine A_lload dX0_payParts_104 rfl ?_
          refine A_lmul dX0_payParts_106 ?_
          refine A_lconst (v := 1) dX0_payParts_107 (by decide) ?_
          refine A_lload_n dX0_payParts_108 rfl rfl ?_
          refine A_maxL dX0_payParts_109 w_964 (by decide) (Nat.le_of_ble_eq_true rfl) ⟨by decide, by decide⟩ ?_
          refine A_ldiv dX0_payParts_112 mxL_ne ?_
          refine A_l2i dX0_payParts_113 ?_
          refine A_goto 119 dX0_payParts_114 (by decide) ?_
          refine A_iastCN dX0_payParts_119 (by decide) (fun _ => rfl) (by omega) (by decide) ?_
          refine A_inc 1 (lv1 := [_, _, _, _, _, _, _, _]) dX0_payParts_120 rfl (by decide) rfl rfl ?_
          refine A_goto 56 dX0_payParts_123 (by decide) ?_
          refine A_fg 7 (lv1 := [_, _, _, _, _, _, _, _]) rfl ?_
          rw [nI_1]
          refine WA_h (congrArg (fun z => HC b z co r n) (show _ = ppS nv v i c from ?_)) (ih (i + 1) _ (by omega) (hI.s49 same49.put) (hs.tr same49.put) hT)
          rw [ppS, ppV, hs 47 (by decide), hs 30 (by decide), if_pos (Decidable.of_not_not (fun z => c98 ((lgc_ge _ _).mpr z)))]
          rfl
  have loop1 : ∀ (k i : Nat) , i + k = nv → WA X G RX0 cX0_payParts false none (qV fun h1 => h1 = HC b T co r n) 1 0 0 (HC b c0 co r n) 0 0 5 [some (.ref (b + 46)), some (.int (nI v)), some (.long (allF (c0 47) v i)), none, some (.int (nI i)), none, none, none] [] := by
    intro k
    induction k with
    | zero =>
      intro i  hk 
      refine A_iload dX0_payParts_5 rfl ?_
      refine A_aload_n dX0_payParts_7 rfl rfl ?_
      refine A_get dX0_payParts_8 f_X0_27 (HC_at (by decide)) rfl ?_
      refine A_get dX0_payParts_11 f_X0_88 (HC_at (by decide)) rfl ?_
      refine A_get dX0_payParts_14 f_X0_47 (HC_at (by decide)) rfl ?_
      refine A_icmp_ge 41 dX0_payParts_17 (by decide) (fun c17 => ?_) (fun c17 => ?_)
      · refine A_aload_n dX0_payParts_41 rfl rfl ?_
        refine A_get dX0_payParts_42 f_X0_31 (HC_at (by decide)) rfl ?_
        refine A_get dX0_payParts_45 f_X0_111 (HC_at (by decide)) rfl ?_
        refine A_iload_n dX0_payParts_48 rfl rfl ?_
        refine A_ialdN dX0_payParts_49 (HC_at (by decide)) (by omega) (by decide) ?_
        refine A_i2l dX0_payParts_50 ?_
        refine A_lstore (lv1 := [_, _, _, _, _, _, _, _]) dX0_payParts_51 (Nat.le_of_ble_eq_true rfl) rfl rfl ?_
        refine A_iconst (v := 0) dX0_payParts_53 (by decide) ?_
        refine A_istore (lv1 := [_, _, _, _, _, _, _, _]) dX0_payParts_54 (Nat.le_of_ble_eq_true rfl) rfl rfl ?_
        rw [show i = nv by omega]
        refine A_fg 5 (lv1 := [_, _, _, _, _, _, _, _]) rfl ?_
        exact loop2 nv 0 c0 (by omega) hI0 same49.rf hTe.symm
      · exact absurd (by rw [hI0.1]; exact nI_le (by omega) (by omega)) c17
    | succ k ih =>
      intro i  hk 
      have hi : i < nv := by omega
      refine A_iload dX0_payParts_5 rfl ?_
      refine A_aload_n dX0_payParts_7 rfl rfl ?_
      refine A_get dX0_payParts_8 f_X0_27 (HC_at (by decide)) rfl ?_
      refine A_get dX0_payParts_11 f_X0_88 (HC_at (by decide)) rfl ?_
      refine A_get dX0_payParts_14 f_X0_47 (HC_at (by decide)) rfl ?_
      refine A_icmp_ge 41 dX0_payParts_17 (by decide) (fun c17 => ?_) (fun c17 => ?_)
      · exact absurd c17 (by rw [hI0.1]; exact nI_ge (by omega) (by omega))
      · refine A_lload_n dX0_payParts_20 rfl rfl ?_
        refine A_aload_n dX0_payParts_21 rfl rfl ?_
        refine A_get dX0_payParts_22 f_X0_11 (HC_at (by decide)) rfl ?_
        refine A_iload_n dX0_payParts_25 rfl rfl ?_
        refine A_iload dX0_payParts_26 rfl ?_
        refine A_callSi dX0_payParts_28 m_X0_57 cb_X0_pair (As := [_, _]) rfl (c_pair G) rfl ⟨by decide, by decide⟩ (Nat.le_of_ble_eq_true rfl) ⟨by decide, by decide⟩ (fun x28 h28 hq => ?_)
        obtain ⟨rfl, rfl⟩ := hq
        refine A_ialdN dX0_payParts_31 (HC_at (by decide)) (by omega) (by decide) ?_
        refine A_i2l dX0_payParts_32 ?_
        refine A_ladd dX0_payParts_33 ?_
        refine A_lstore_n (lv1 := [_, _, _, _, _, _, _, _]) dX0_payParts_34 rfl (Nat.le_of_ble_eq_true rfl) rfl rfl ?_
        refine A_inc 1 (lv1 := [_, _, _, _, _, _, _, _]) dX0_payParts_35 rfl (by decide) rfl rfl ?_
        refine A_goto 5 dX0_payParts_38 (by decide) ?_
        rw [nI_1]
        exact ih (i + 1) (by omega)
  refine A_lconst (v := 0) dX0_payParts_0 (by decide) ?_
  refine A_lstore_n (lv1 := [_, _, _, _, _, _, _, _]) dX0_payParts_1 rfl (Nat.le_of_ble_eq_true rfl) rfl rfl ?_
  refine A_iconst (v := 0) dX0_payParts_2 (by decide) ?_
  refine A_istore (lv1 := [_, _, _, _, _, _, _, _]) dX0_payParts_3 (Nat.le_of_ble_eq_true rfl) rfl rfl ?_
  exact loop1 nv 0 (by omega)

theorem c_strike (G : GX) {b : Nat} {c : CT} {co : Nat → Nat → Option Nat} {r : Nat → Option AE} {n : Nat} {nv nc nf nl wk : Nat} {law : Int32} (hI : IX c nv nc nf nl wk) : MA G 3 yX0_strike cX0_strike 3 none 0 0 [.ref (b + 46), .int law] (HC b c co r n) (qV fun h1 => h1 = HC b (strikeF law c) co r n) := by
  refine MA.of (own := RX0) false [some (.ref (b + 46)), some (.int law), none] (by decide +kernel) rfl (fun h => by cases h) (Nat.le_of_ble_eq_true rfl) rfl (fun X => ?_)
  have hv6 := hI.2.1
  obtain ⟨T, hTe⟩ : ∃ T, T = strikeF law c := ⟨_, rfl⟩
  rw [← hTe]
  have loop : ∀ (k i : Nat) (c : CT), i + k = nv → (IX c nv nc nf nl wk) → (forR (stS nv law) i k c = T) → WA X G RX0 cX0_strike false none (qV fun h1 => h1 = HC b T co r n) 3 0 0 (HC b c co r n) 0 0 10 [some (.ref (b + 46)), some (.int law), some (.int (nI i))] [] := by
    intro k
    induction k with
    | zero =>
      intro i c hk hI hT
      refine A_iload_n dX0_strike_10 rfl rfl ?_
      refine A_aload_n dX0_strike_11 rfl rfl ?_
      refine A_get dX0_strike_12 f_X0_27 (HC_at (by decide)) rfl ?_
      refine A_get dX0_strike_15 f_X0_88 (HC_at (by decide)) rfl ?_
      refine A_get dX0_strike_18 f_X0_47 (HC_at (by decide)) rfl ?_
      refine A_icmp_ge 49 dX0_strike_21 (by decide) (fun c21 => ?_) (fun c21 => ?_)
      · exact A_vret dX0_strike_49 (congrArg (fun z => HC b z co r n) hT) ⟨by decide, by decide⟩
      · exact absurd (by rw [hI.1]; exact nI_le (by omega) (by omega)) c21
    | succ k ih =>
      intro i c hk hI hT
      have hi : i < nv := by omega
      refine A_iload_n dX0_strike_10 rfl rfl ?_
      refine A_aload_n dX0_strike_11 rfl rfl ?_
      refine A_get dX0_strike_12 f_X0_27 (HC_at (by decide)) rfl ?_
      refine A_get dX0_strike_15 f_X0_88 (HC_at (by decide)) rfl ?_
      refine A_get dX0_strike_18 f_X0_47 (HC_at (by decide)) rfl ?_
      refine A_icmp_ge 49 dX0_strike_21 (by decide) (fun c21 => ?_) (fun c21 => ?_)
      · exact absurd c21 (by rw [hI.1]; exact nI_ge (by omega) (by omega))
      · refine A_iload_n dX0_strike_24 rfl rfl ?_
        refine A_iconst (v := 2) dX0_strike_25 (by decide) ?_
        refine A_icmp_ne 37 dX0_strike_26 (by decide) (fun c26 => ?_) (fun c26 => ?_)
        · refine A_aload_n dX0_strike_37 rfl rfl ?_
          refine A_iload_n dX0_strike_38 rfl rfl ?_
          refine A_iload_n dX0_strike_39 rfl rfl ?_
          refine A_callVv dX0_strike_40 m_X0_107 cb_X0_payInTurn (As := [_, _]) rfl (HC_at (by decide)) rfl (c_payInTurn G hI hi) rfl ⟨by decide, by decide⟩ (Nat.le_of_ble_eq_true rfl) ⟨by decide, by decide⟩ (fun h40 hq => ?_)
          obtain ⟨rfl, rfl⟩ := hq
          refine A_inc 1 (lv1 := [_, _, _]) dX0_strike_43 rfl (by decide) rfl rfl ?_
          refine A_goto 10 dX0_strike_46 (by decide) ?_
          rw [nI_1]
          refine WA_h (congrArg (fun z => HC b z co r n) (show _ = stS nv law i c from ?_)) (ih (i + 1) _ (by omega) (hI.s49 stS_s) hT)
          rw [stS, if_neg c26]
        · refine A_aload_n dX0_strike_29 rfl rfl ?_
          refine A_iload_n dX0_strike_30 rfl rfl ?_
          refine A_callVv dX0_strike_31 m_X0_104 cb_X0_payParts (As := [_]) rfl (HC_at (by decide)) rfl (c_payParts G hI hi) rfl ⟨by decide, by decide⟩ (Nat.le_of_ble_eq_true rfl) ⟨by decide, by decide⟩ (fun h31 hq => ?_)
          obtain ⟨rfl, rfl⟩ := hq
          refine A_goto 43 dX0_strike_34 (by decide) ?_
          refine A_inc 1 (lv1 := [_, _, _]) dX0_strike_43 rfl (by decide) rfl rfl ?_
          refine A_goto 10 dX0_strike_46 (by decide) ?_
          rw [nI_1]
          refine WA_h (congrArg (fun z => HC b z co r n) (show _ = stS nv law i c from ?_)) (ih (i + 1) _ (by omega) (hI.s49 stS_s) hT)
          rw [stS, if_pos c26]
  refine A_aload_n dX0_strike_0 rfl rfl ?_
  refine A_get dX0_strike_1 f_X0_18 (HC_at (by decide)) rfl ?_
  refine A_iconst (v := 0) dX0_strike_4 (by decide) ?_
  refine A_callSv dX0_strike_5 m_X0_35 cb_J7_fill_53178 (As := [_, _]) rfl (c_fill G (HC b _ co r n) (b + 49) _ _ _ (HC_at (by decide)) (by decide)) rfl ⟨by decide, by decide⟩ (Nat.le_of_ble_eq_true rfl) ⟨by decide, by decide⟩ (fun h5 hq => ?_)
  obtain rfl := hq
  refine WA_h (HC_up (by decide) rfl) ?_
  refine A_iconst (v := 0) dX0_strike_8 (by decide) ?_
  refine A_istore_n (lv1 := [_, _, _]) dX0_strike_9 rfl (Nat.le_of_ble_eq_true rfl) rfl rfl ?_
  exact loop nv 0 (st1 c 49 (fun _ => 0)) (by omega) (hI.to (fun l hl => st1_ne (by omega))) (by rw [hTe, strikeF, hI.nvf.1])

theorem c_ruined (G : GX) {b : Nat} {c : CT} {co : Nat → Nat → Option Nat} {r : Nat → Option AE} {n : Nat} {nv nc nf nl wk : Nat} (hI : IX c nv nc nf nl wk) : MA G 1 yX0_ruined cX0_ruined 6 (some .int) 0 0 [.ref (b + 46)] (HC b c co r n) (qI fun x h1 => x = ruF c nv nv ∧ h1 = HC b c co r n) := by
  refine MA.of (own := RX0) false [some (.ref (b + 46)), none, none, none, none, none] (by decide +kernel) rfl (fun h => by cases h) (Nat.le_of_ble_eq_true rfl) rfl (fun X => ?_)
  obtain ⟨hv, hv6, hc, hc8, hf, hf3, hl, hl8, hw, hw30, gC, gL⟩ := id hI
  have inner : ∀ (v : Nat) (bi : Int32), v < nv → (WA X G RX0 cX0_ruined false (some .int) (qI fun x h1 => x = ruF c nv nv ∧ h1 = HC b c co r n) 1 0 0 (HC b c co r n) 0 0 77 [some (.ref (b + 46)), some (.int bi), some (.int (nI v)), some (.int (dueF (c 47) v nv)), some (.int (dueF (c 49) v nv)), none] []) → ∀ (k i : Nat), i + k = nv → WA X G RX0 cX0_ruined false (some .int) (qI fun x h1 => x = ruF c nv nv ∧ h1 = HC b c co r n) 1 0 0 (HC b c co r n) 0 0 26 [some (.ref (b + 46)), some (.int bi), some (.int (nI v)), some (.int (dueF (c 47) v i)), some (.int (dueF (c 49) v i)), some (.int (nI i))] [] := by
    intro v bi hv9 hk9
    intro k
    induction k with
    | zero =>
      intro i  hk 
      refine A_iload dX0_ruined_26 rfl ?_
      refine A_aload_n dX0_ruined_28 rfl rfl ?_
      refine A_get dX0_ruined_29 f_X0_27 (HC_at (by decide)) rfl ?_
      refine A_get dX0_ruined_32 f_X0_88 (HC_at (by decide)) rfl ?_
      refine A_get dX0_ruined_35 f_X0_47 (HC_at (by decide)) rfl ?_
      refine A_icmp_ge 77 dX0_ruined_38 (by decide) (fun c38 => ?_) (fun c38 => ?_)
      · refine A_fg 5 (lv1 := [_, _, _, _, _, _]) rfl ?_
        rw [show i = nv by omega]
        exact hk9
      · exact absurd (by rw [hv]; exact nI_le (by omega) (by omega)) c38
    | succ k ih =>
      intro i  hk 
      have hi : i < nv := by omega
      refine A_iload dX0_ruined_26 rfl ?_
      refine A_aload_n dX0_ruined_28 rfl rfl ?_
      refine A_get dX0_ruined_29 f_X0_27 (HC_at (by decide)) rfl ?_
      refine A_get dX0_ruined_32 f_X0_88 (HC_at (by decide)) rfl ?_
      refine A_get dX0_ruined_35 f_X0_47 (HC_at (by decide)) rfl ?_
      refine A_icmp_ge 77 dX0_ruined_38 (by decide) (fun c38 => ?_) (fun c38 => ?_)
      · exact absurd c38 (by rw [hv]; exact nI_ge (by omega) (by omega))
      · refine A_iload_n dX0_ruined_41 rfl rfl ?_
        refine A_aload_n dX0_ruined_42 rfl rfl ?_
        refine A_get dX0_ruined_43 f_X0_11 (HC_at (by decide)) rfl ?_
        refine A_iload dX0_ruined_46 rfl ?_
        refine A_iload_n dX0_ruined_48 rfl rfl ?_
        refine A_callSi dX0_ruined_49 m_X0_57 cb_X0_pair (As := [_, _]) rfl (c_pair G) rfl ⟨by decide, by decide⟩ (Nat.le_of_ble_eq_true rfl) ⟨by decide, by decide⟩ (fun x49 h49 hq => ?_)
        obtain ⟨rfl, rfl⟩ := hq
        refine A_ialdN dX0_ruined_52 (HC_at (by decide)) (by omega) (by decide) ?_
        refine A_iadd dX0_ruined_53 ?_
        refine A_istore_n (lv1 := [_, _, _, _, _, _]) dX0_ruined_54 rfl (Nat.le_of_ble_eq_true rfl) rfl rfl ?_
        refine A_iload dX0_ruined_55 rfl ?_
        refine A_aload_n dX0_ruined_57 rfl rfl ?_
        refine A_get dX0_ruined_58 f_X0_18 (HC_at (by decide)) rfl ?_
        refine A_iload dX0_ruined_61 rfl ?_
        refine A_iload_n dX0_ruined_63 rfl rfl ?_
        refine A_callSi dX0_ruined_64 m_X0_57 cb_X0_pair (As := [_, _]) rfl (c_pair G) rfl ⟨by decide, by decide⟩ (Nat.le_of_ble_eq_true rfl) ⟨by decide, by decide⟩ (fun x64 h64 hq => ?_)
        obtain ⟨rfl, rfl⟩ := hq
        refine A_ialdN dX0_ruined_67 (HC_at (by decide)) (by omega) (by decide) ?_
        refine A_iadd dX0_ruined_68 ?_
        refine A_istore (lv1 := [_, _, _, _, _, _]) dX0_ruined_69 (Nat.le_of_ble_eq_true rfl) rfl rfl ?_
        refine A_inc 1 (lv1 := [_, _, _, _, _, _]) dX0_ruined_71 rfl (by decide) rfl rfl ?_
        refine A_goto 26 dX0_ruined_74 (by decide) ?_
        rw [nI_1]
        exact ih (i + 1) (by omega)
  have loop : ∀ (k i : Nat) , i + k = nv → WA X G RX0 cX0_ruined false (some .int) (qI fun x h1 => x = ruF c nv nv ∧ h1 = HC b c co r n) 1 0 0 (HC b c co r n) 0 0 4 [some (.ref (b + 46)), some (.int (ruF c nv i)), some (.int (nI i)), none, none, none] [] := by
    intro k
    induction k with
    | zero =>
      intro i  hk 
      refine A_iload_n dX0_ruined_4 rfl rfl ?_
      refine A_aload_n dX0_ruined_5 rfl rfl ?_
      refine A_get dX0_ruined_6 f_X0_27 (HC_at (by decide)) rfl ?_
      refine A_get dX0_ruined_9 f_X0_88 (HC_at (by decide)) rfl ?_
      refine A_get dX0_ruined_12 f_X0_47 (HC_at (by decide)) rfl ?_
      refine A_icmp_ge 97 dX0_ruined_15 (by decide) (fun c15 => ?_) (fun c15 => ?_)
      · refine A_iload_n dX0_ruined_97 rfl rfl ?_
        exact A_iret dX0_ruined_98 ⟨by rw [show i = nv by omega], rfl⟩ ⟨by decide, by decide⟩
      · exact absurd (by rw [hv]; exact nI_le (by omega) (by omega)) c15
    | succ k ih =>
      intro i  hk 
      have hi : i < nv := by omega
      refine A_iload_n dX0_ruined_4 rfl rfl ?_
      refine A_aload_n dX0_ruined_5 rfl rfl ?_
      refine A_get dX0_ruined_6 f_X0_27 (HC_at (by decide)) rfl ?_
      refine A_get dX0_ruined_9 f_X0_88 (HC_at (by decide)) rfl ?_
      refine A_get dX0_ruined_12 f_X0_47 (HC_at (by decide)) rfl ?_
      refine A_icmp_ge 97 dX0_ruined_15 (by decide) (fun c15 => ?_) (fun c15 => ?_)
      · exact absurd c15 (by rw [hv]; exact nI_ge (by omega) (by omega))
      · refine A_iconst (v := 0) dX0_ruined_18 (by decide) ?_
        refine A_istore_n (lv1 := [_, _, _, _, _, _]) dX0_ruined_19 rfl (Nat.le_of_ble_eq_true rfl) rfl rfl ?_
        refine A_iconst (v := 0) dX0_ruined_20 (by decide) ?_
        refine A_istore (lv1 := [_, _, _, _, _, _]) dX0_ruined_21 (Nat.le_of_ble_eq_true rfl) rfl rfl ?_
        refine A_iconst (v := 0) dX0_ruined_23 (by decide) ?_
        refine A_istore (lv1 := [_, _, _, _, _, _]) dX0_ruined_24 (Nat.le_of_ble_eq_true rfl) rfl rfl ?_
        refine inner i _ hi ?_ nv 0 (by omega)
        refine A_iconst (v := 2) dX0_ruined_77 (by decide) ?_
        refine A_iload dX0_ruined_78 rfl ?_
        refine A_imul dX0_ruined_80 ?_
        refine A_iload_n dX0_ruined_81 rfl rfl ?_
        refine A_icmp_ge 91 dX0_ruined_82 (by decide) (fun c82 => ?_) (fun c82 => ?_)
        · refine A_inc 1 (lv1 := [_, _, _, _, _, _]) dX0_ruined_91 rfl (by decide) rfl rfl ?_
          refine A_goto 4 dX0_ruined_94 (by decide) ?_
          refine A_fg 3 (lv1 := [_, _, _, _, _, _]) rfl ?_
          refine A_fg 4 (lv1 := [_, _, _, _, _, _]) rfl ?_
          rw [nI_1]
          have e := ih (i + 1) (by omega)
          rw [ruF, if_neg (Int32.not_lt.mpr c82)] at e
          exact e
        · refine A_iload_n dX0_ruined_85 rfl rfl ?_
          refine A_iconst (v := 1) dX0_ruined_86 (by decide) ?_
          refine A_iload_n dX0_ruined_87 rfl rfl ?_
          refine A_ishl dX0_ruined_88 ?_
          refine A_ior dX0_ruined_89 ?_
          refine A_istore_n (lv1 := [_, _, _, _, _, _]) dX0_ruined_90 rfl (Nat.le_of_ble_eq_true rfl) rfl rfl ?_
          refine A_inc 1 (lv1 := [_, _, _, _, _, _]) dX0_ruined_91 rfl (by decide) rfl rfl ?_
          refine A_goto 4 dX0_ruined_94 (by decide) ?_
          refine A_fg 3 (lv1 := [_, _, _, _, _, _]) rfl ?_
          refine A_fg 4 (lv1 := [_, _, _, _, _, _]) rfl ?_
          rw [nI_1]
          have e := ih (i + 1) (by omega)
          rw [ruF, if_pos (Int32.not_le.mp c82)] at e
          exact e
  refine A_iconst (v := 0) dX0_ruined_0 (by decide) ?_
  refine A_istore_n (lv1 := [_, _, _, _, _, _]) dX0_ruined_1 rfl (Nat.le_of_ble_eq_true rfl) rfl rfl ?_
  refine A_iconst (v := 0) dX0_ruined_2 (by decide) ?_
  refine A_istore_n (lv1 := [_, _, _, _, _, _]) dX0_ruined_3 rfl (Nat.le_of_ble_eq_true rfl) rfl rfl ?_
  exact loop nv 0 (by omega)
