/-! TAKERS by their number -/
theorem nI_sub1 {n : Nat} (h : 0 < n) : nI n - 1 = nI (n - 1) := by
  obtain ⟨m, rfl⟩ : ∃ m, n = m + 1 := ⟨n - 1, by omega⟩
  exact nI_pred m
def tot (nv nf : Nat) : Nat := (nv + 1) ^ nf
def tkc (nv nf k f : Nat) : Nat := k / (nv + 1) ^ (nf - 1 - f) % (nv + 1)
def cdF (nv : Nat) (g : Nat → Nat) : Nat → Nat
  | 0 => 0
  | i + 1 => cdF nv g i * (nv + 1) + g i
theorem cdF_lt {nv : Nat} {g : Nat → Nat} : ∀ (n : Nat), (∀ i, i < n → g i ≤ nv) → cdF nv g n < (nv + 1) ^ n
  | 0, _ => by simp [cdF]
  | n + 1, h => by
    have ih := cdF_lt (nv := nv) (g := g) n (fun i hi => h i (by omega))
    have h1 := h n (by omega)
    rw [cdF, Nat.pow_succ]
    have : (cdF nv g n + 1) * (nv + 1) ≤ (nv + 1) ^ n * (nv + 1) := Nat.mul_le_mul_right _ ih
    rw [Nat.add_mul] at this
    omega
theorem tkc_le {nv nf k f : Nat} : tkc nv nf k f ≤ nv := by
  have := Nat.mod_lt (k / (nv + 1) ^ (nf - 1 - f)) (show nv + 1 > 0 by omega)
  unfold tkc; omega
def comeN (nv nf k fl : Nat) : Nat := cdF nv (fun i => if fl.testBit i then tkc nv nf k i else 0) nf
theorem comeN_lt {nv nf k fl : Nat} : comeN nv nf k fl < tot nv nf := cdF_lt nf (fun i _ => by
  split
  · exact tkc_le
  · omega)
theorem tot_343 {nv nf : Nat} (hv : nv ≤ 6) (hf : nf ≤ 3) : tot nv nf ≤ 343 := by
  have h1 : (nv + 1) ^ nf ≤ 7 ^ nf := Nat.pow_le_pow_left (by omega) _
  have h2 : 7 ^ nf ≤ 7 ^ 3 := Nat.pow_le_pow_right (by decide) hf
  have h3 : 7 ^ 3 = 343 := by decide
  unfold tot; omega
theorem tot_pos {nv nf : Nat} : 0 < tot nv nf := Nat.pow_pos (by omega)
theorem sh_bit : ∀ fl, fl < 8 → ∀ i, i < 3 → ((nI fl >>> (nI i &&& 31)) &&& 1) = nI (if fl.testBit i then 1 else 0) := by decide
/-- who takes a FLOOD now, as a digit -/
def tkn (c : CT) (i : Nat) : Nat := tcl (c 12 (4 * i + 3) + 1)
def KX (c : CT) (nv nf : Nat) : Prop := ∀ i, i < nf → c 12 (4 * i + 3) + 1 = nI (tkn c i) ∧ tkn c i ≤ nv

theorem c_choices (G : GX) {b : Nat} {c : CT} {co : Nat → Nat → Option Nat} {r : Nat → Option AE} {n : Nat} {nv nc nf nl wk : Nat} (hI : IX c nv nc nf nl wk) : MA G 1 yX1_choices cX1_choices 1 (some .int) 0 0 [.ref (b + 42)] (HC b c co r n) (qI fun x h1 => x = nI (nv + 1) ∧ h1 = (HC b c co r n)) := by
  refine MA.of (own := RX1) false [some (.ref (b + 42))] (by decide +kernel) rfl (fun h => by cases h) (Nat.le_of_ble_eq_true rfl) rfl (fun X => ?_)
  refine A_iconst (v := 1) dX1_choices_0 (by decide) ?_
  refine A_aload_n dX1_choices_1 rfl rfl ?_
  refine A_get dX1_choices_2 f_X1_22 (HC_at (by decide)) rfl ?_
  refine A_get dX1_choices_5 f_X1_46 (HC_at (by decide)) rfl ?_
  refine A_get dX1_choices_8 f_X1_36 (HC_at (by decide)) rfl ?_
  refine A_iconst (v := 1) dX1_choices_11 (by decide) ?_
  refine A_iadd dX1_choices_12 ?_
  refine A_max dX1_choices_13 w_747 (by decide) (Nat.le_of_ble_eq_true rfl) ⟨by decide, by decide⟩ ?_
  refine A_eqI (y := nI (nv + 1)) ?_ ?_
  · have h6 := hI.2.1
    rw [hI.1, nI_1]
    by_cases z : nv = 0
    · subst z; decide
    · exact if_pos (show nI 1 < nI (nv + 1) from nI_lt (by omega) (by omega))
  exact A_iret dX1_choices_16 ⟨rfl, rfl⟩ ⟨by decide, by decide⟩

theorem c_total (G : GX) {b : Nat} {c : CT} {co : Nat → Nat → Option Nat} {r : Nat → Option AE} {n : Nat} {nv nc nf nl wk : Nat} (hI : IX c nv nc nf nl wk) : MA G 2 yX1_total cX1_total 3 (some .int) 0 0 [.ref (b + 42)] (HC b c co r n) (qI fun x h1 => x = nI (tot nv nf) ∧ h1 = HC b c co r n) := by
  refine MA.of (own := RX1) false [some (.ref (b + 42)), none, none] (by decide +kernel) rfl (fun h => by cases h) (Nat.le_of_ble_eq_true rfl) rfl (fun X => ?_)
  obtain ⟨hv, hv6, hc, hc8, hf, hf3, hl, hl8, hw, hw30, gC, gL⟩ := id hI
  have h343 := tot_343 hv6 hf3
  have loop : ∀ (k i : Nat) , i + k = nf → WA X G RX1 cX1_total false (some .int) (qI fun x h1 => x = nI (tot nv nf) ∧ h1 = HC b c co r n) 2 0 0 (HC b c co r n) 0 0 4 [some (.ref (b + 42)), some (.int (nI ((nv + 1) ^ i))), some (.int (nI i))] [] := by
    intro k
    induction k with
    | zero =>
      intro i  hk 
      refine A_iload_n dX1_total_4 rfl rfl ?_
      refine A_aload_n dX1_total_5 rfl rfl ?_
      refine A_get dX1_total_6 f_X1_22 (HC_at (by decide)) rfl ?_
      refine A_get dX1_total_9 f_X1_30 (HC_at (by decide)) rfl ?_
      refine A_get dX1_total_12 f_X1_36 (HC_at (by decide)) rfl ?_
      refine A_icmp_ge 31 dX1_total_15 (by decide) (fun c15 => ?_) (fun c15 => ?_)
      · refine A_iload_n dX1_total_31 rfl rfl ?_
        exact A_iret dX1_total_32 ⟨by rw [show i = nf by omega]; rfl, rfl⟩ ⟨by decide, by decide⟩
      · exact absurd (by rw [hf]; exact nI_le (by omega) (by omega)) c15
    | succ k ih =>
      intro i  hk 
      have hi : i < nf := by omega
      refine A_iload_n dX1_total_4 rfl rfl ?_
      refine A_aload_n dX1_total_5 rfl rfl ?_
      refine A_get dX1_total_6 f_X1_22 (HC_at (by decide)) rfl ?_
      refine A_get dX1_total_9 f_X1_30 (HC_at (by decide)) rfl ?_
      refine A_get dX1_total_12 f_X1_36 (HC_at (by decide)) rfl ?_
      refine A_icmp_ge 31 dX1_total_15 (by decide) (fun c15 => ?_) (fun c15 => ?_)
      · exact absurd c15 (by rw [hf]; exact nI_ge (by omega) (by omega))
      · refine A_iload_n dX1_total_18 rfl rfl ?_
        refine A_aload_n dX1_total_19 rfl rfl ?_
        refine A_callVi dX1_total_20 m_X1_42 cb_X1_choices (As := []) rfl (HC_at (by decide)) rfl (c_choices G hI) rfl ⟨by decide, by decide⟩ (Nat.le_of_ble_eq_true rfl) ⟨by decide, by decide⟩ (fun x20 h20 hq => ?_)
        obtain ⟨rfl, rfl⟩ := hq
        refine A_imul dX1_total_23 ?_
        rw [pk_mul, ← Nat.pow_succ]
        refine A_istore_n (lv1 := [_, _, _]) dX1_total_24 rfl (Nat.le_of_ble_eq_true rfl) rfl rfl ?_
        refine A_inc 1 (lv1 := [_, _, _]) dX1_total_25 rfl (by decide) rfl rfl ?_
        refine A_goto 4 dX1_total_28 (by decide) ?_
        rw [nI_1]
        exact ih (i + 1) (by omega)
  refine A_iconst (v := 1) dX1_total_0 (by decide) ?_
  refine A_istore_n (lv1 := [_, _, _]) dX1_total_1 rfl (Nat.le_of_ble_eq_true rfl) rfl rfl ?_
  refine A_iconst (v := 0) dX1_total_2 (by decide) ?_
  refine A_istore_n (lv1 := [_, _, _]) dX1_total_3 rfl (Nat.le_of_ble_eq_true rfl) rfl rfl ?_
  exact loop nf 0 (by omega)

theorem c_takerIn (G : GX) {b : Nat} {c : CT} {co : Nat → Nat → Option Nat} {r : Nat → Option AE} {n : Nat} {nv nc nf nl wk : Nat} {kk f : Nat} (hI : IX c nv nc nf nl wk) (hk9 : kk < 343) (hf9 : f < nf) : MA G 2 yX1_takerIn cX1_takerIn 6 (some .int) 0 0 [.ref (b + 42), .int (nI kk), .int (nI f)] (HC b c co r n) (qI fun x h1 => x = nI (tkc nv nf kk f) - 1 ∧ h1 = HC b c co r n) := by
  refine MA.of (own := RX1) false [some (.ref (b + 42)), some (.int (nI kk)), some (.int (nI f)), none, none, none] (by decide +kernel) rfl (fun h => by cases h) (Nat.le_of_ble_eq_true rfl) rfl (fun X => ?_)
  obtain ⟨hv, hv6, hc, hc8, hf, hf3, hl, hl8, hw, hw30, gC, gL⟩ := id hI
  have loop : ∀ t : Nat, f + t < nf → WA X G RX1 cX1_takerIn false (some .int) (qI fun x h1 => x = nI (tkc nv nf kk f) - 1 ∧ h1 = HC b c co r n) 2 0 0 (HC b c co r n) 0 0 22 [some (.ref (b + 42)), some (.int (nI kk)), some (.int (nI f)), some (.int (nI (nv + 1))), some (.int (nI (kk / (nv + 1) ^ (nf - 1 - (f + t))))), some (.int (nI (f + t)))] [] := by
    intro t
    induction t with
    | zero =>
      intro ht
      refine A_iload dX1_takerIn_22 rfl ?_
      refine A_iload_n dX1_takerIn_24 rfl rfl ?_
      refine A_icmp_le 40 dX1_takerIn_25 (by decide) (fun c25 => ?_) (fun c25 => ?_)
      · refine A_iload dX1_takerIn_40 rfl ?_
        refine A_iload_n dX1_takerIn_42 rfl rfl ?_
        refine A_irem dX1_takerIn_43 (nI_ne0 (by omega) (by omega)) ?_
        rw [pk_rem (Nat.lt_of_le_of_lt (Nat.div_le_self _ _) (by omega)) (by omega) (by omega)]
        refine A_iconst (v := 1) dX1_takerIn_44 (by decide) ?_
        refine A_isub dX1_takerIn_45 ?_
        exact A_iret dX1_takerIn_46 ⟨rfl, rfl⟩ ⟨by decide, by decide⟩
      · exact absurd (nI_le (by omega) (by omega)) c25
    | succ t ih =>
      intro ht
      have ih := ih (by omega)
      have e1 : nf - 1 - (f + t) = nf - 1 - (f + (t + 1)) + 1 := by omega
      rw [e1, Nat.pow_succ, ← Nat.div_div_eq_div_mul] at ih
      refine A_iload dX1_takerIn_22 rfl ?_
      refine A_iload_n dX1_takerIn_24 rfl rfl ?_
      refine A_icmp_le 40 dX1_takerIn_25 (by decide) (fun c25 => ?_) (fun c25 => ?_)
      · exact absurd c25 (nI_ge (by omega) (by omega))
      · refine A_iload dX1_takerIn_28 rfl ?_
        refine A_iload_n dX1_takerIn_30 rfl rfl ?_
        refine A_idiv dX1_takerIn_31 (nI_ne0 (by omega) (by omega)) ?_
        rw [pk_div (Nat.lt_of_le_of_lt (Nat.div_le_self _ _) (by omega)) (by omega) (by omega)]
        refine A_istore (lv1 := [_, _, _, _, _, _]) dX1_takerIn_32 (Nat.le_of_ble_eq_true rfl) rfl rfl ?_
        refine A_inc (-1) (lv1 := [_, _, _, _, _, _]) dX1_takerIn_34 rfl (by decide) rfl rfl ?_
        refine A_goto 22 dX1_takerIn_37 (by decide) ?_
        rw [show f + (t + 1) = f + t + 1 from rfl, pk_m1]
        exact ih
  refine A_aload_n dX1_takerIn_0 rfl rfl ?_
  refine A_callVi dX1_takerIn_1 m_X1_42 cb_X1_choices (As := []) rfl (HC_at (by decide)) rfl (c_choices G hI) rfl ⟨by decide, by decide⟩ (Nat.le_of_ble_eq_true rfl) ⟨by decide, by decide⟩ (fun x1 h1 hq => ?_)
  obtain ⟨rfl, rfl⟩ := hq
  refine A_istore_n (lv1 := [_, _, _, _, _, _]) dX1_takerIn_4 rfl (Nat.le_of_ble_eq_true rfl) rfl rfl ?_
  refine A_iload_n dX1_takerIn_5 rfl rfl ?_
  refine A_istore (lv1 := [_, _, _, _, _, _]) dX1_takerIn_6 (Nat.le_of_ble_eq_true rfl) rfl rfl ?_
  refine A_aload_n dX1_takerIn_8 rfl rfl ?_
  refine A_get dX1_takerIn_9 f_X1_22 (HC_at (by decide)) rfl ?_
  refine A_get dX1_takerIn_12 f_X1_30 (HC_at (by decide)) rfl ?_
  refine A_get dX1_takerIn_15 f_X1_36 (HC_at (by decide)) rfl ?_
  refine A_iconst (v := 1) dX1_takerIn_18 (by decide) ?_
  refine A_isub dX1_takerIn_19 ?_
  refine A_eqI (show _ = nI (nf - 1) from by rw [hf]; exact nI_sub1 (by omega)) ?_
  refine A_istore (lv1 := [_, _, _, _, _, _]) dX1_takerIn_20 (Nat.le_of_ble_eq_true rfl) rfl rfl ?_
  have e := loop (nf - 1 - f) (by omega)
  rw [show f + (nf - 1 - f) = nf - 1 by omega, Nat.sub_self, Nat.pow_zero, Nat.div_one] at e
  exact e

theorem c_codeNow (G : GX) {b : Nat} {c : CT} {co : Nat → Nat → Option Nat} {r : Nat → Option AE} {n : Nat} {nv nc nf nl wk : Nat} (hI : IX c nv nc nf nl wk) (hK : KX c nv nf) : MA G 2 yX1_codeNow cX1_codeNow 3 (some .int) 0 0 [.ref (b + 42)] (HC b c co r n) (qI fun x h1 => x = nI (cdF nv (tkn c) nf) ∧ h1 = HC b c co r n) := by
  refine MA.of (own := RX1) false [some (.ref (b + 42)), none, none] (by decide +kernel) rfl (fun h => by cases h) (Nat.le_of_ble_eq_true rfl) rfl (fun X => ?_)
  obtain ⟨hv, hv6, hc, hc8, hf, hf3, hl, hl8, hw, hw30, gC, gL⟩ := id hI
  have loop : ∀ (k i : Nat) , i + k = nf → WA X G RX1 cX1_codeNow false (some .int) (qI fun x h1 => x = nI (cdF nv (tkn c) nf) ∧ h1 = HC b c co r n) 2 0 0 (HC b c co r n) 0 0 4 [some (.ref (b + 42)), some (.int (nI (cdF nv (tkn c) i))), some (.int (nI i))] [] := by
    intro k
    induction k with
    | zero =>
      intro i  hk 
      refine A_iload_n dX1_codeNow_4 rfl rfl ?_
      refine A_aload_n dX1_codeNow_5 rfl rfl ?_
      refine A_get dX1_codeNow_6 f_X1_22 (HC_at (by decide)) rfl ?_
      refine A_get dX1_codeNow_9 f_X1_30 (HC_at (by decide)) rfl ?_
      refine A_get dX1_codeNow_12 f_X1_36 (HC_at (by decide)) rfl ?_
      refine A_icmp_ge 46 dX1_codeNow_15 (by decide) (fun c15 => ?_) (fun c15 => ?_)
      · refine A_iload_n dX1_codeNow_46 rfl rfl ?_
        exact A_iret dX1_codeNow_47 ⟨by rw [show i = nf by omega], rfl⟩ ⟨by decide, by decide⟩
      · exact absurd (by rw [hf]; exact nI_le (by omega) (by omega)) c15
    | succ k ih =>
      intro i  hk 
      have hi : i < nf := by omega
      refine A_iload_n dX1_codeNow_4 rfl rfl ?_
      refine A_aload_n dX1_codeNow_5 rfl rfl ?_
      refine A_get dX1_codeNow_6 f_X1_22 (HC_at (by decide)) rfl ?_
      refine A_get dX1_codeNow_9 f_X1_30 (HC_at (by decide)) rfl ?_
      refine A_get dX1_codeNow_12 f_X1_36 (HC_at (by decide)) rfl ?_
      refine A_icmp_ge 46 dX1_codeNow_15 (by decide) (fun c15 => ?_) (fun c15 => ?_)
      · exact absurd c15 (by rw [hf]; exact nI_ge (by omega) (by omega))
      · refine A_iload_n dX1_codeNow_18 rfl rfl ?_
        refine A_aload_n dX1_codeNow_19 rfl rfl ?_
        refine A_callVi dX1_codeNow_20 m_X1_42 cb_X1_choices (As := []) rfl (HC_at (by decide)) rfl (c_choices G hI) rfl ⟨by decide, by decide⟩ (Nat.le_of_ble_eq_true rfl) ⟨by decide, by decide⟩ (fun x20 h20 hq => ?_)
        obtain ⟨rfl, rfl⟩ := hq
        refine A_imul dX1_codeNow_23 ?_
        refine A_aload_n dX1_codeNow_24 rfl rfl ?_
        refine A_get dX1_codeNow_25 f_X1_22 (HC_at (by decide)) rfl ?_
        refine A_get dX1_codeNow_28 f_X1_30 (HC_at (by decide)) rfl ?_
        refine A_iload_n dX1_codeNow_31 rfl rfl ?_
        refine A_iconst (v := 3) dX1_codeNow_32 (by decide) ?_
        refine A_callVi dX1_codeNow_33 m_X1_55 cb_X3_at (As := [_, _]) rfl (HC_at (by decide)) rfl (c_at11 G b _ co r n 3 hf hf3 hi (by decide)) rfl ⟨by decide, by decide⟩ (Nat.le_of_ble_eq_true rfl) ⟨by decide, by decide⟩ (fun x33 h33 hq => ?_)
        obtain ⟨rfl, rfl⟩ := hq
        refine A_iadd dX1_codeNow_36 ?_
        refine A_iconst (v := 1) dX1_codeNow_37 (by decide) ?_
        refine A_iadd dX1_codeNow_38 ?_
        rw [pk_mul, Int32.add_assoc, (hK i hi).1, nI_add]
        refine A_istore_n (lv1 := [_, _, _]) dX1_codeNow_39 rfl (Nat.le_of_ble_eq_true rfl) rfl rfl ?_
        refine A_inc 1 (lv1 := [_, _, _]) dX1_codeNow_40 rfl (by decide) rfl rfl ?_
        refine A_goto 4 dX1_codeNow_43 (by decide) ?_
        rw [nI_1]
        exact ih (i + 1) (by omega)
  refine A_iconst (v := 0) dX1_codeNow_0 (by decide) ?_
  refine A_istore_n (lv1 := [_, _, _]) dX1_codeNow_1 rfl (Nat.le_of_ble_eq_true rfl) rfl rfl ?_
  refine A_iconst (v := 0) dX1_codeNow_2 (by decide) ?_
  refine A_istore_n (lv1 := [_, _, _]) dX1_codeNow_3 rfl (Nat.le_of_ble_eq_true rfl) rfl rfl ?_
  exact loop nf 0 (by omega)

theorem c_onlyComing (G : GX) {b : Nat} {c : CT} {co : Nat → Nat → Option Nat} {r : Nat → Option AE} {n : Nat} {nv nc nf nl wk : Nat} {kk fl : Nat} (hI : IX c nv nc nf nl wk) (hk9 : kk < 343) (hfl : fl < 8) : MA G 3 yX1_onlyComing cX1_onlyComing 6 (some .int) 0 0 [.ref (b + 42), .int (nI kk), .int (nI fl)] (HC b c co r n) (qI fun x h1 => x = nI (comeN nv nf kk fl) ∧ h1 = HC b c co r n) := by
  refine MA.of (own := RX1) false [some (.ref (b + 42)), some (.int (nI kk)), some (.int (nI fl)), none, none, none] (by decide +kernel) rfl (fun h => by cases h) (Nat.le_of_ble_eq_true rfl) rfl (fun X => ?_)
  obtain ⟨hv, hv6, hc, hc8, hf, hf3, hl, hl8, hw, hw30, gC, gL⟩ := id hI
  have loop : ∀ (k i : Nat) , i + k = nf → WA X G RX1 cX1_onlyComing false (some .int) (qI fun x h1 => x = nI (comeN nv nf kk fl) ∧ h1 = HC b c co r n) 3 0 0 (HC b c co r n) 0 0 5 [some (.ref (b + 42)), some (.int (nI kk)), some (.int (nI fl)), some (.int (nI (cdF nv (fun i => if fl.testBit i then tkc nv nf kk i else 0) i))), some (.int (nI i)), none] [] := by
    intro k
    induction k with
    | zero =>
      intro i  hk 
      refine A_iload dX1_onlyComing_5 rfl ?_
      refine A_aload_n dX1_onlyComing_7 rfl rfl ?_
      refine A_get dX1_onlyComing_8 f_X1_22 (HC_at (by decide)) rfl ?_
      refine A_get dX1_onlyComing_11 f_X1_30 (HC_at (by decide)) rfl ?_
      refine A_get dX1_onlyComing_14 f_X1_36 (HC_at (by decide)) rfl ?_
      refine A_icmp_ge 61 dX1_onlyComing_17 (by decide) (fun c17 => ?_) (fun c17 => ?_)
      · refine A_iload_n dX1_onlyComing_61 rfl rfl ?_
        exact A_iret dX1_onlyComing_62 ⟨by rw [show i = nf by omega]; rfl, rfl⟩ ⟨by decide, by decide⟩
      · exact absurd (by rw [hf]; exact nI_le (by omega) (by omega)) c17
    | succ k ih =>
      intro i  hk 
      have hi : i < nf := by omega
      refine A_iload dX1_onlyComing_5 rfl ?_
      refine A_aload_n dX1_onlyComing_7 rfl rfl ?_
      refine A_get dX1_onlyComing_8 f_X1_22 (HC_at (by decide)) rfl ?_
      refine A_get dX1_onlyComing_11 f_X1_30 (HC_at (by decide)) rfl ?_
      refine A_get dX1_onlyComing_14 f_X1_36 (HC_at (by decide)) rfl ?_
      refine A_icmp_ge 61 dX1_onlyComing_17 (by decide) (fun c17 => ?_) (fun c17 => ?_)
      · exact absurd c17 (by rw [hf]; exact nI_ge (by omega) (by omega))
      · refine A_iload_n dX1_onlyComing_20 rfl rfl ?_
        refine A_iload dX1_onlyComing_21 rfl ?_
        refine A_ishr dX1_onlyComing_23 ?_
        refine A_iconst (v := 1) dX1_onlyComing_24 (by decide) ?_
        refine A_iand dX1_onlyComing_25 ?_
        refine A_iconst (v := 1) dX1_onlyComing_26 (by decide) ?_
        refine A_icmp_ne 42 dX1_onlyComing_27 (by decide) (fun c27 => ?_) (fun c27 => ?_)
        · have hb : fl.testBit i = false := by cases hq : fl.testBit i; rfl; rw [sh_bit fl hfl i (by omega), hq] at c27; exact absurd rfl c27
          refine A_iconst (v := 0) dX1_onlyComing_42 (by decide) ?_
          refine A_istore (lv1 := [_, _, _, _, _, _]) dX1_onlyComing_43 (Nat.le_of_ble_eq_true rfl) rfl rfl ?_
          refine A_iload_n dX1_onlyComing_45 rfl rfl ?_
          refine A_aload_n dX1_onlyComing_46 rfl rfl ?_
          refine A_callVi dX1_onlyComing_47 m_X1_42 cb_X1_choices (As := []) rfl (HC_at (by decide)) rfl (c_choices G hI) rfl ⟨by decide, by decide⟩ (Nat.le_of_ble_eq_true rfl) ⟨by decide, by decide⟩ (fun x47 h47 hq => ?_)
          obtain ⟨rfl, rfl⟩ := hq
          refine A_imul dX1_onlyComing_50 ?_
          refine A_iload dX1_onlyComing_51 rfl ?_
          refine A_iadd dX1_onlyComing_53 ?_
          rw [show (0 : Int32) = nI 0 from rfl, pk_mul, nI_add]
          refine A_istore_n (lv1 := [_, _, _, _, _, _]) dX1_onlyComing_54 rfl (Nat.le_of_ble_eq_true rfl) rfl rfl ?_
          refine A_inc 1 (lv1 := [_, _, _, _, _, _]) dX1_onlyComing_55 rfl (by decide) rfl rfl ?_
          refine A_goto 5 dX1_onlyComing_58 (by decide) ?_
          refine A_fg 5 (lv1 := [_, _, _, _, _, _]) rfl ?_
          rw [nI_1]
          have e := ih (i + 1) (by omega)
          rw [cdF, if_neg (by rw [hb]; decide)] at e
          exact e
        · have hb : fl.testBit i = true := by cases hq : fl.testBit i; (rw [sh_bit fl hfl i (by omega), hq] at c27; exact absurd c27 (by decide)); rfl
          refine A_aload_n dX1_onlyComing_30 rfl rfl ?_
          refine A_iload_n dX1_onlyComing_31 rfl rfl ?_
          refine A_iload dX1_onlyComing_32 rfl ?_
          refine A_callVi dX1_onlyComing_34 m_X1_58 cb_X1_takerIn (As := [_, _]) rfl (HC_at (by decide)) rfl (c_takerIn G hI hk9 (by omega)) rfl ⟨by decide, by decide⟩ (Nat.le_of_ble_eq_true rfl) ⟨by decide, by decide⟩ (fun x34 h34 hq => ?_)
          obtain ⟨rfl, rfl⟩ := hq
          refine A_iconst (v := 1) dX1_onlyComing_37 (by decide) ?_
          refine A_iadd dX1_onlyComing_38 ?_
          refine A_goto 43 dX1_onlyComing_39 (by decide) ?_
          refine A_istore (lv1 := [_, _, _, _, _, _]) dX1_onlyComing_43 (Nat.le_of_ble_eq_true rfl) rfl rfl ?_
          refine A_iload_n dX1_onlyComing_45 rfl rfl ?_
          refine A_aload_n dX1_onlyComing_46 rfl rfl ?_
          refine A_callVi dX1_onlyComing_47 m_X1_42 cb_X1_choices (As := []) rfl (HC_at (by decide)) rfl (c_choices G hI) rfl ⟨by decide, by decide⟩ (Nat.le_of_ble_eq_true rfl) ⟨by decide, by decide⟩ (fun x47 h47 hq => ?_)
          obtain ⟨rfl, rfl⟩ := hq
          refine A_imul dX1_onlyComing_50 ?_
          refine A_iload dX1_onlyComing_51 rfl ?_
          refine A_iadd dX1_onlyComing_53 ?_
          rw [Int32.sub_add_cancel, pk_mul, nI_add]
          refine A_istore_n (lv1 := [_, _, _, _, _, _]) dX1_onlyComing_54 rfl (Nat.le_of_ble_eq_true rfl) rfl rfl ?_
          refine A_inc 1 (lv1 := [_, _, _, _, _, _]) dX1_onlyComing_55 rfl (by decide) rfl rfl ?_
          refine A_goto 5 dX1_onlyComing_58 (by decide) ?_
          refine A_fg 5 (lv1 := [_, _, _, _, _, _]) rfl ?_
          rw [nI_1]
          have e := ih (i + 1) (by omega)
          rw [cdF, if_pos hb] at e
          exact e
  refine A_iconst (v := 0) dX1_onlyComing_0 (by decide) ?_
  refine A_istore_n (lv1 := [_, _, _, _, _, _]) dX1_onlyComing_1 rfl (Nat.le_of_ble_eq_true rfl) rfl rfl ?_
  refine A_iconst (v := 0) dX1_onlyComing_2 (by decide) ?_
  refine A_istore (lv1 := [_, _, _, _, _, _]) dX1_onlyComing_3 (Nat.le_of_ble_eq_true rfl) rfl rfl ?_
  exact loop nf 0 (by omega)

def leadT (c : CT) (k : Nat) : Nat → Int32 := fun j => if j < tcl (c 11 2) then nI (tkc (tcl (c 7 2)) (tcl (c 11 2)) k j) - 1 else 0
def leadF (c : CT) (k : Nat) : CT := st1 (beginF c) 29 (leadT c k)
theorem beginF_l {c : CT} {l : Nat} (h : l ≤ 27 ∨ l = 31 ∨ 42 ≤ l) : beginF c l = c l := by
  simp only [beginF]
  repeat rw [put_ne (by omega)]
  repeat rw [st1_ne (by omega)]
  rw [put_ne (by omega), put_ne (by omega)]
theorem beginF_29 {c : CT} : beginF c 29 = tkF c := by
  simp only [beginF]
  repeat rw [put_ne (by decide)]
  repeat rw [st1_ne (by decide)]
  rw [st1_eq]
theorem leadF_l {c : CT} {k l : Nat} (h : l ≤ 27 ∨ l = 31 ∨ 42 ≤ l) : leadF c k l = c l := by rw [leadF, st1_ne (by omega), beginF_l h]
theorem IX.nvf {c : CT} {nv nc nf nl wk : Nat} (h : IX c nv nc nf nl wk) : tcl (c 7 2) = nv ∧ tcl (c 11 2) = nf ∧ tcl (c 9 2) = nc ∧ tcl (c 13 2) = nl ∧ tcl (c 6 6) = wk := by
  obtain ⟨hv, hv6, hc, hc8, hf, hf3, hl, hl8, hw, hw30, -⟩ := id h
  refine ⟨?_, ?_, ?_, ?_, ?_⟩ <;> (rw [tcl]; simp only [hv, hf, hc, hl, hw]; exact nI_clamp (by omega))
theorem leadT_x {c : CT} {nv nc nf nl wk : Nat} (h : IX c nv nc nf nl wk) (k j : Nat) : leadT c k j = if j < nf then nI (tkc nv nf k j) - 1 else 0 := by
  rw [leadT, h.nvf.1, h.nvf.2.1]
theorem TX_lead {c : CT} {nv nc nf nl wk : Nat} (h : IX c nv nc nf nl wk) (k : Nat) : TX (leadF c k) nv nf := by
  intro i hi hne
  rw [leadF, st1_eq, leadT_x h, if_pos hi] at hne ⊢
  have h1 : tkc nv nf k i ≤ nv := tkc_le
  rcases Nat.eq_zero_or_pos (tkc nv nf k i) with e | e
  · rw [e] at hne; exact absurd (by decide) hne
  · rw [nI_sub1 e]
    exact vp_in_nI (by omega) (by have := h.2.1; omega)
theorem c_lead (G : GX) {b : Nat} {c : CT} {co : Nat → Nat → Option Nat} {r : Nat → Option AE} {n : Nat} {nv nc nf nl wk : Nat} {kk : Nat} (hI : IX c nv nc nf nl wk) (hk9 : kk < 343) : MA G 3 yX1_lead cX1_lead 3 none 0 0 [.ref (b + 42), .int (nI kk)] (HC b c co r n) (qV fun h1 => h1 = HC b (leadF c kk) co r n) := by
  refine MA.of (own := RX1) false [some (.ref (b + 42)), some (.int (nI kk)), none] (by decide +kernel) rfl (fun h => by cases h) (Nat.le_of_ble_eq_true rfl) rfl (fun X => ?_)
  obtain ⟨hv, hv6, hc, hc8, hf, hf3, hl, hl8, hw, hw30, gC, gL⟩ := id hI
  have loop : ∀ (k i : Nat) (g : Nat → Int32), i + k = nf → (∀ j, j < i → g j = leadT c kk j) → (∀ j, nf ≤ j → g j = 0) → WA X G RX1 cX1_lead false none (qV fun h1 => h1 = HC b (leadF c kk) co r n) 3 0 0 (HC b (st1 (beginF c) 29 g) co r n) 0 0 9 [some (.ref (b + 42)), some (.int (nI kk)), some (.int (nI i))] [] := by
    intro k
    induction k with
    | zero =>
      intro i g hk hg hz
      refine A_iload_n dX1_lead_9 rfl rfl ?_
      refine A_aload_n dX1_lead_10 rfl rfl ?_
      refine A_get dX1_lead_11 f_X1_22 (HC_at (by decide)) rfl ?_
      refine A_get dX1_lead_14 f_X1_30 (HC_at (by decide)) rfl ?_
      refine A_get dX1_lead_17 f_X1_36 (HC_at (by decide)) rfl ?_
      refine A_icmp_ge 44 dX1_lead_20 (by decide) (fun c20 => ?_) (fun c20 => ?_)
      · refine WA_rowC (k := 29) (leadT c kk) (by decide) (fun _ => rfl) (fun j hj => ?_) ?_
        · rw [st1_eq]
          rcases Nat.lt_or_ge j nf with z | z
          · exact hg j (by omega)
          · rw [hz j z, leadT_x hI, if_neg (by omega)]
        rw [st1_st1]
        exact A_vret dX1_lead_44 rfl ⟨by decide, by decide⟩
      · exact absurd (by rw [st1_ne (by decide), beginF_l (by decide), hf]; exact nI_le (by omega) (by omega)) c20
    | succ k ih =>
      intro i g hk hg hz
      have hi : i < nf := by omega
      refine A_iload_n dX1_lead_9 rfl rfl ?_
      refine A_aload_n dX1_lead_10 rfl rfl ?_
      refine A_get dX1_lead_11 f_X1_22 (HC_at (by decide)) rfl ?_
      refine A_get dX1_lead_14 f_X1_30 (HC_at (by decide)) rfl ?_
      refine A_get dX1_lead_17 f_X1_36 (HC_at (by decide)) rfl ?_
      refine A_icmp_ge 44 dX1_lead_20 (by decide) (fun c20 => ?_) (fun c20 => ?_)
      · exact absurd c20 (by rw [st1_ne (by decide), beginF_l (by decide), hf]; exact nI_ge (by omega) (by omega))
      · refine A_aload_n dX1_lead_23 rfl rfl ?_
        refine A_get dX1_lead_24 f_X1_26 (HC_at (by decide)) rfl ?_
        refine A_get dX1_lead_27 f_X1_66 (HC_at (by decide)) rfl ?_
        refine A_iload_n dX1_lead_30 rfl rfl ?_
        refine A_aload_n dX1_lead_31 rfl rfl ?_
        refine A_iload_n dX1_lead_32 rfl rfl ?_
        refine A_iload_n dX1_lead_33 rfl rfl ?_
        refine A_callVi dX1_lead_34 m_X1_58 cb_X1_takerIn (As := [_, _]) rfl (HC_at (by decide)) rfl (c_takerIn G (hI.to (fun l hl => by rw [st1_ne (by omega), beginF_l (by omega)])) hk9 (by omega)) rfl ⟨by decide, by decide⟩ (Nat.le_of_ble_eq_true rfl) ⟨by decide, by decide⟩ (fun x34 h34 hq => ?_)
        obtain ⟨rfl, rfl⟩ := hq
        refine A_iastCN dX1_lead_37 (by decide) (fun _ => rfl) (by omega) (by decide) ?_
        refine A_inc 1 (lv1 := [_, _, _]) dX1_lead_38 rfl (by decide) rfl rfl ?_
        refine A_goto 9 dX1_lead_41 (by decide) ?_
        rw [nI_1]
        refine WA_h (congrArg (fun z => HC b z co r n) (show _ = st1 (beginF c) 29 (upd g i (nI (tkc nv nf kk i) - 1)) from by funext l; by_cases h : l = 29 <;> simp [put, st1, h]; rfl)) (ih (i + 1) _ (by omega) (fun j hj => ?_) (fun j hj => ?_))
        · by_cases e : j = i
          · subst e; rw [pk_us, leadT_x hI, if_pos hi]
          · rw [pk_un e]; exact hg j (by omega)
        · rw [pk_un (by omega)]; exact hz j hj
  refine A_aload_n dX1_lead_0 rfl rfl ?_
  refine A_get dX1_lead_1 f_X1_26 (HC_at (by decide)) rfl ?_
  refine A_callVv dX1_lead_4 m_X1_61 cb_X8_begin (As := []) rfl (HC_at (by decide)) rfl (c_begin G hI) rfl ⟨by decide, by decide⟩ (Nat.le_of_ble_eq_true rfl) ⟨by decide, by decide⟩ (fun h4 hq => ?_)
  obtain ⟨rfl, rfl⟩ := hq
  refine A_iconst (v := 0) dX1_lead_7 (by decide) ?_
  refine A_istore_n (lv1 := [_, _, _]) dX1_lead_8 rfl (Nat.le_of_ble_eq_true rfl) rfl rfl ?_
  have e := loop nf 0 (tkF c) (by omega) (fun j hj => by omega) (fun j hj => by rw [tkF, hI.nvf.2.1, if_neg (by omega)])
  refine WA_h (congrArg (fun z => HC b z co r n) (show _ = st1 (beginF c) 29 (tkF c) from by funext l; by_cases h : l = 29 <;> simp [st1, h, beginF_29])) e
