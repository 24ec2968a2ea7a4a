/-! what is told of all TAKERS, out of the rows that keep it -/
def cntS (f : Nat → Int32) : Nat → Nat
  | 0 => 0
  | k + 1 => cntS f k + (if f k = 0 then 1 else 0)
theorem cntS_le {f : Nat → Int32} : ∀ n, cntS f n ≤ n
  | 0 => Nat.le_refl _
  | n + 1 => by have := cntS_le (f := f) n; rw [cntS]; split <;> omega
def bestF (B S : Nat → Int32) : Nat → Int32
  | 0 => -1
  | k + 1 => if S k = 0 then if bestF B S k = -1 then nI k else if B (tcl (bestF B S k)) < B k then nI k else bestF B S k else bestF B S k
theorem bestF_ix {B S : Nat → Int32} : ∀ k, bestF B S k = -1 ∨ ∃ j, j < k ∧ bestF B S k = nI j
  | 0 => Or.inl rfl
  | k + 1 => by
    have ih := bestF_ix (B := B) (S := S) k
    rw [bestF]
    split
    · split
      · exact Or.inr ⟨k, by omega, rfl⟩
      · split
        · exact Or.inr ⟨k, by omega, rfl⟩
        · rcases ih with ih | ⟨j, hj, ih⟩
          · exact Or.inl ih
          · exact Or.inr ⟨j, by omega, ih⟩
    · rcases ih with ih | ⟨j, hj, ih⟩
      · exact Or.inl ih
      · exact Or.inr ⟨j, by omega, ih⟩
/-- the first of the greatest, of 0 .. k -/
def wsF (h : Nat → Int64) : Nat → Nat
  | 0 => 0
  | k + 1 => if h (wsF h k) < h (k + 1) then k + 1 else wsF h k
theorem wsF_le {h : Nat → Int64} : ∀ k, wsF h k ≤ k
  | 0 => Nat.le_refl _
  | k + 1 => by have := wsF_le (h := h) k; rw [wsF]; split <;> omega
def chF (c : CT) (fl : Nat) : Nat → Int64
  | 0 => 1
  | i + 1 => chF c fl i * (if fl.testBit i then (c 12 (4 * i + 2)).toInt64 else (100 - c 12 (4 * i + 2)).toInt64)
def hbF : Nat → Int64
  | 0 => 1
  | i + 1 => hbF i * 100
def hpF (c : CT) (nv nf k : Nat) : Nat → Int64
  | 0 => 0
  | fl + 1 => hpF c nv nf k fl + chF c fl nf * (c 43 (comeN nv nf k fl) - c 44 (comeN nv nf k fl)).toInt64
def hopeF (c : CT) (nv nf k : Nat) : Int64 := hpF c nv nf k (2 ^ nf)
theorem lgc_le (x y : Int64) : lg_cmp x y ≤ 0 ↔ ¬ y < x := by
  unfold lg_cmp
  by_cases h : x > y
  · rw [if_pos h]; exact ⟨fun z => absurd z (by decide), fun z => absurd h z⟩
  · rw [if_neg h]
    refine ⟨fun _ => h, fun _ => ?_⟩
    split <;> decide

theorem c_safeCodes (G : GX) {b : Nat} {c : CT} {co : Nat → Nat → Option Nat} {r : Nat → Option AE} {n : Nat} {nv nc nf nl wk : Nat} {N : Nat} (hI : IX c nv nc nf nl wk) (hN : N = tot nv nf) : MA G 3 yX1_safeCodes cX1_safeCodes 4 (some .int) 0 0 [.ref (b + 42)] (HC b c co r n) (qI fun x h1 => x = nI (cntS (c 44) N) ∧ h1 = HC b c co r n) := by
  refine MA.of (own := RX1) false [some (.ref (b + 42)), none, none, none] (by decide +kernel) rfl (fun h => by cases h) (Nat.le_of_ble_eq_true rfl) rfl (fun X => ?_)
  obtain ⟨hv, hv6, hc, hc8, hf, hf3, hl, hl8, hw, hw30, gC, gL⟩ := id hI
  have h343 := tot_343 hv6 hf3
  have loop : ∀ (k i : Nat) , i + k = N → WA X G RX1 cX1_safeCodes false (some .int) (qI fun x h1 => x = nI (cntS (c 44) N) ∧ h1 = HC b c co r n) 3 0 0 (HC b c co r n) 0 0 9 [some (.ref (b + 42)), some (.int (nI (cntS (c 44) i))), some (.int (nI N)), some (.int (nI i))] [] := by
    intro k
    induction k with
    | zero =>
      intro i  hk 
      refine A_iload_n dX1_safeCodes_9 rfl rfl ?_
      refine A_iload_n dX1_safeCodes_10 rfl rfl ?_
      refine A_icmp_ge 31 dX1_safeCodes_11 (by decide) (fun c11 => ?_) (fun c11 => ?_)
      · refine A_iload_n dX1_safeCodes_31 rfl rfl ?_
        exact A_iret dX1_safeCodes_32 ⟨by rw [show i = N by omega], rfl⟩ ⟨by decide, by decide⟩
      · exact absurd (by exact nI_le (by omega) (by omega)) c11
    | succ k ih =>
      intro i  hk 
      have hi : i < N := by omega
      refine A_iload_n dX1_safeCodes_9 rfl rfl ?_
      refine A_iload_n dX1_safeCodes_10 rfl rfl ?_
      refine A_icmp_ge 31 dX1_safeCodes_11 (by decide) (fun c11 => ?_) (fun c11 => ?_)
      · exact absurd c11 (by exact nI_ge (by omega) (by omega))
      · refine A_aload_n dX1_safeCodes_14 rfl rfl ?_
        refine A_iload_n dX1_safeCodes_15 rfl rfl ?_
        refine A_callVi dX1_safeCodes_16 m_X1_99 cb_X1_shortBy (As := [_]) rfl (HC_at (by decide)) rfl (c_shortBy G (by omega)) rfl ⟨by decide, by decide⟩ (Nat.le_of_ble_eq_true rfl) ⟨by decide, by decide⟩ (fun x16 h16 hq => ?_)
        obtain ⟨rfl, rfl⟩ := hq
        refine A_if_ne 25 dX1_safeCodes_19 (by decide) (fun c19 => ?_) (fun c19 => ?_)
        · refine A_inc 1 (lv1 := [_, _, _, _]) dX1_safeCodes_25 rfl (by decide) rfl rfl ?_
          refine A_goto 9 dX1_safeCodes_28 (by decide) ?_
          rw [nI_1 i]
          have e := ih (i + 1) (by omega)
          rw [cntS, if_neg c19] at e
          exact e
        · refine A_inc 1 (lv1 := [_, _, _, _]) dX1_safeCodes_22 rfl (by decide) rfl rfl ?_
          refine A_inc 1 (lv1 := [_, _, _, _]) dX1_safeCodes_25 rfl (by decide) rfl rfl ?_
          refine A_goto 9 dX1_safeCodes_28 (by decide) ?_
          rw [nI_1 i]
          have e := ih (i + 1) (by omega)
          rw [cntS, if_pos c19] at e
          rw [nI_1]
          exact e
  refine A_iconst (v := 0) dX1_safeCodes_0 (by decide) ?_
  refine A_istore_n (lv1 := [_, _, _, _]) dX1_safeCodes_1 rfl (Nat.le_of_ble_eq_true rfl) rfl rfl ?_
  refine A_aload_n dX1_safeCodes_2 rfl rfl ?_
  refine A_callVi dX1_safeCodes_3 m_X1_90 cb_X1_total (As := []) rfl (HC_at (by decide)) rfl (c_total G hI) rfl ⟨by decide, by decide⟩ (Nat.le_of_ble_eq_true rfl) ⟨by decide, by decide⟩ (fun x3 h3 hq => ?_)
  obtain ⟨rfl, rfl⟩ := hq
  rw [← hN]
  refine A_istore_n (lv1 := [_, _, _, _]) dX1_safeCodes_6 rfl (Nat.le_of_ble_eq_true rfl) rfl rfl ?_
  refine A_iconst (v := 0) dX1_safeCodes_7 (by decide) ?_
  refine A_istore_n (lv1 := [_, _, _, _]) dX1_safeCodes_8 rfl (Nat.le_of_ble_eq_true rfl) rfl rfl ?_
  exact loop N 0 (by omega)

theorem c_bestCode (G : GX) {b : Nat} {c : CT} {co : Nat → Nat → Option Nat} {r : Nat → Option AE} {n : Nat} {nv nc nf nl wk : Nat} {N : Nat} (hI : IX c nv nc nf nl wk) (hN : N = tot nv nf) : MA G 3 yX1_bestCode cX1_bestCode 4 (some .int) 0 0 [.ref (b + 42)] (HC b c co r n) (qI fun x h1 => x = bestF (c 43) (c 44) N ∧ h1 = HC b c co r n) := by
  refine MA.of (own := RX1) false [some (.ref (b + 42)), none, none, none] (by decide +kernel) rfl (fun h => by cases h) (Nat.le_of_ble_eq_true rfl) rfl (fun X => ?_)
  obtain ⟨hv, hv6, hc, hc8, hf, hf3, hl, hl8, hw, hw30, gC, gL⟩ := id hI
  have h343 := tot_343 hv6 hf3
  have loop : ∀ (k i : Nat) , i + k = N → WA X G RX1 cX1_bestCode false (some .int) (qI fun x h1 => x = bestF (c 43) (c 44) N ∧ h1 = HC b c co r n) 3 0 0 (HC b c co r n) 0 0 9 [some (.ref (b + 42)), some (.int (bestF (c 43) (c 44) i)), some (.int (nI N)), some (.int (nI i))] [] := by
    intro k
    induction k with
    | zero =>
      intro i  hk 
      refine A_iload_n dX1_bestCode_9 rfl rfl ?_
      refine A_iload_n dX1_bestCode_10 rfl rfl ?_
      refine A_icmp_ge 48 dX1_bestCode_11 (by decide) (fun c11 => ?_) (fun c11 => ?_)
      · refine A_iload_n dX1_bestCode_48 rfl rfl ?_
        exact A_iret dX1_bestCode_49 ⟨by rw [show i = N by omega], rfl⟩ ⟨by decide, by decide⟩
      · exact absurd (by exact nI_le (by omega) (by omega)) c11
    | succ k ih =>
      intro i  hk 
      have hi : i < N := by omega
      refine A_iload_n dX1_bestCode_9 rfl rfl ?_
      refine A_iload_n dX1_bestCode_10 rfl rfl ?_
      refine A_icmp_ge 48 dX1_bestCode_11 (by decide) (fun c11 => ?_) (fun c11 => ?_)
      · exact absurd c11 (by exact nI_ge (by omega) (by omega))
      · refine A_aload_n dX1_bestCode_14 rfl rfl ?_
        refine A_iload_n dX1_bestCode_15 rfl rfl ?_
        refine A_callVi dX1_bestCode_16 m_X1_99 cb_X1_shortBy (As := [_]) rfl (HC_at (by decide)) rfl (c_shortBy G (by omega)) rfl ⟨by decide, by decide⟩ (Nat.le_of_ble_eq_true rfl) ⟨by decide, by decide⟩ (fun x16 h16 hq => ?_)
        obtain ⟨rfl, rfl⟩ := hq
        refine A_if_ne 42 dX1_bestCode_19 (by decide) (fun c19 => ?_) (fun c19 => ?_)
        · refine A_inc 1 (lv1 := [_, _, _, _]) dX1_bestCode_42 rfl (by decide) rfl rfl ?_
          refine A_goto 9 dX1_bestCode_45 (by decide) ?_
          rw [nI_1]
          have e := ih (i + 1) (by omega)
          rw [bestF, if_neg c19] at e
          exact e
        · refine A_iload_n dX1_bestCode_22 rfl rfl ?_
          refine A_iconst (v := (-1)) dX1_bestCode_23 (by decide) ?_
          refine A_icmp_eq 40 dX1_bestCode_24 (by decide) (fun c24 => ?_) (fun c24 => ?_)
          · refine A_iload_n dX1_bestCode_40 rfl rfl ?_
            refine A_istore_n (lv1 := [_, _, _, _]) dX1_bestCode_41 rfl (Nat.le_of_ble_eq_true rfl) rfl rfl ?_
            refine A_inc 1 (lv1 := [_, _, _, _]) dX1_bestCode_42 rfl (by decide) rfl rfl ?_
            refine A_goto 9 dX1_bestCode_45 (by decide) ?_
            rw [nI_1]
            have e := ih (i + 1) (by omega)
            rw [bestF, if_pos c19, if_pos c24] at e
            exact e
          · have hj9 : ∃ j, j < i ∧ bestF (c 43) (c 44) i = nI j := (bestF_ix i).resolve_left c24
            obtain ⟨j, hj, ej⟩ := hj9
            have etc9 : tcl (bestF (c 43) (c 44) i) = j := by rw [ej, tcl, nI_clamp (by omega)]
            refine A_aload_n dX1_bestCode_27 rfl rfl ?_
            refine A_iload_n dX1_bestCode_28 rfl rfl ?_
            refine A_callVi dX1_bestCode_29 m_X1_103 cb_X1_broughtBy (As := [_]) rfl (HC_at (by decide)) rfl (c_broughtBy G (by omega)) rfl ⟨by decide, by decide⟩ (Nat.le_of_ble_eq_true rfl) ⟨by decide, by decide⟩ (fun x29 h29 hq => ?_)
            obtain ⟨rfl, rfl⟩ := hq
            refine A_aload_n dX1_bestCode_32 rfl rfl ?_
            refine A_iload_n dX1_bestCode_33 rfl rfl ?_
            refine A_eqI ej ?_
            refine A_callVi dX1_bestCode_34 m_X1_103 cb_X1_broughtBy (As := [_]) rfl (HC_at (by decide)) rfl (c_broughtBy G (k := j) (by omega)) rfl ⟨by decide, by decide⟩ (Nat.le_of_ble_eq_true rfl) ⟨by decide, by decide⟩ (fun x34 h34 hq => ?_)
            obtain ⟨rfl, rfl⟩ := hq
            refine A_icmp_le 42 dX1_bestCode_37 (by decide) (fun c37 => ?_) (fun c37 => ?_)
            · rw [← etc9] at c37
              refine A_inc 1 (lv1 := [_, _, _, _]) dX1_bestCode_42 rfl (by decide) rfl rfl ?_
              refine A_goto 9 dX1_bestCode_45 (by decide) ?_
              rw [nI_1]
              have e := ih (i + 1) (by omega)
              rw [bestF, if_pos c19, if_neg c24, if_neg (Int32.not_lt.mpr c37)] at e
              exact e
            · rw [← etc9] at c37
              refine A_iload_n dX1_bestCode_40 rfl rfl ?_
              refine A_istore_n (lv1 := [_, _, _, _]) dX1_bestCode_41 rfl (Nat.le_of_ble_eq_true rfl) rfl rfl ?_
              refine A_inc 1 (lv1 := [_, _, _, _]) dX1_bestCode_42 rfl (by decide) rfl rfl ?_
              refine A_goto 9 dX1_bestCode_45 (by decide) ?_
              rw [nI_1]
              have e := ih (i + 1) (by omega)
              rw [bestF, if_pos c19, if_neg c24, if_pos (Int32.not_le.mp c37)] at e
              exact e
  refine A_iconst (v := (-1)) dX1_bestCode_0 (by decide) ?_
  refine A_istore_n (lv1 := [_, _, _, _]) dX1_bestCode_1 rfl (Nat.le_of_ble_eq_true rfl) rfl rfl ?_
  refine A_aload_n dX1_bestCode_2 rfl rfl ?_
  refine A_callVi dX1_bestCode_3 m_X1_90 cb_X1_total (As := []) rfl (HC_at (by decide)) rfl (c_total G hI) rfl ⟨by decide, by decide⟩ (Nat.le_of_ble_eq_true rfl) ⟨by decide, by decide⟩ (fun x3 h3 hq => ?_)
  obtain ⟨rfl, rfl⟩ := hq
  rw [← hN]
  refine A_istore_n (lv1 := [_, _, _, _]) dX1_bestCode_6 rfl (Nat.le_of_ble_eq_true rfl) rfl rfl ?_
  refine A_iconst (v := 0) dX1_bestCode_7 (by decide) ?_
  refine A_istore_n (lv1 := [_, _, _, _]) dX1_bestCode_8 rfl (Nat.le_of_ble_eq_true rfl) rfl rfl ?_
  exact loop N 0 (by omega)

theorem c_chance (G : GX) {b : Nat} {c : CT} {co : Nat → Nat → Option Nat} {r : Nat → Option AE} {n : Nat} {nv nc nf nl wk : Nat} {fl : Nat} (hI : IX c nv nc nf nl wk) (hfl : fl < 8) : MA G 1 yX1_chance cX1_chance 6 (some .long) 0 0 [.ref (b + 42), .int (nI fl)] (HC b c co r n) (qL fun x h1 => x = chF c fl nf ∧ h1 = HC b c co r n) := by
  refine MA.of (own := RX1) false [some (.ref (b + 42)), some (.int (nI fl)), none, none, none, none] (by decide +kernel) rfl (fun h => by cases h) (Nat.le_of_ble_eq_true rfl) rfl (fun X => ?_)
  obtain ⟨hv, hv6, hc, hc8, hf, hf3, hl, hl8, hw, hw30, gC, gL⟩ := id hI
  have h343 := tot_343 hv6 hf3
  have loop : ∀ (k i : Nat) , i + k = nf → WA X G RX1 cX1_chance false (some .long) (qL fun x h1 => x = chF c fl nf ∧ h1 = HC b c co r n) 1 0 0 (HC b c co r n) 0 0 5 [some (.ref (b + 42)), some (.int (nI fl)), some (.long (chF c fl i)), none, some (.int (nI i)), none] [] := by
    intro k
    induction k with
    | zero =>
      intro i  hk 
      refine A_iload dX1_chance_5 rfl ?_
      refine A_aload_n dX1_chance_7 rfl rfl ?_
      refine A_get dX1_chance_8 f_X1_22 (HC_at (by decide)) rfl ?_
      refine A_get dX1_chance_11 f_X1_30 (HC_at (by decide)) rfl ?_
      refine A_get dX1_chance_14 f_X1_36 (HC_at (by decide)) rfl ?_
      refine A_icmp_ge 66 dX1_chance_17 (by decide) (fun c17 => ?_) (fun c17 => ?_)
      · refine A_lload_n dX1_chance_66 rfl rfl ?_
        exact A_lret dX1_chance_67 ⟨by rw [show i = nf by omega], rfl⟩ ⟨by decide, by decide⟩
      · exact absurd (by rw [hf]; exact nI_le (by omega) (by omega)) c17
    | succ k ih =>
      intro i  hk 
      have hi : i < nf := by omega
      refine A_iload dX1_chance_5 rfl ?_
      refine A_aload_n dX1_chance_7 rfl rfl ?_
      refine A_get dX1_chance_8 f_X1_22 (HC_at (by decide)) rfl ?_
      refine A_get dX1_chance_11 f_X1_30 (HC_at (by decide)) rfl ?_
      refine A_get dX1_chance_14 f_X1_36 (HC_at (by decide)) rfl ?_
      refine A_icmp_ge 66 dX1_chance_17 (by decide) (fun c17 => ?_) (fun c17 => ?_)
      · exact absurd c17 (by rw [hf]; exact nI_ge (by omega) (by omega))
      · refine A_aload_n dX1_chance_20 rfl rfl ?_
        refine A_get dX1_chance_21 f_X1_22 (HC_at (by decide)) rfl ?_
        refine A_get dX1_chance_24 f_X1_30 (HC_at (by decide)) rfl ?_
        refine A_iload dX1_chance_27 rfl ?_
        refine A_iconst (v := 2) dX1_chance_29 (by decide) ?_
        refine A_callVi dX1_chance_30 m_X1_55 cb_X3_at (As := [_, _]) rfl (HC_at (by decide)) rfl (c_at11 G b _ co r n 2 hf hf3 hi (by decide)) rfl ⟨by decide, by decide⟩ (Nat.le_of_ble_eq_true rfl) ⟨by decide, by decide⟩ (fun x30 h30 hq => ?_)
        obtain ⟨rfl, rfl⟩ := hq
        refine A_istore (lv1 := [_, _, _, _, _, _]) dX1_chance_33 (Nat.le_of_ble_eq_true rfl) rfl rfl ?_
        refine A_lload_n dX1_chance_35 rfl rfl ?_
        refine A_iload_n dX1_chance_36 rfl rfl ?_
        refine A_iload dX1_chance_37 rfl ?_
        refine A_ishr dX1_chance_39 ?_
        refine A_iconst (v := 1) dX1_chance_40 (by decide) ?_
        refine A_iand dX1_chance_41 ?_
        refine A_iconst (v := 1) dX1_chance_42 (by decide) ?_
        refine A_icmp_ne 52 dX1_chance_43 (by decide) (fun c43 => ?_) (fun c43 => ?_)
        · have hb : fl.testBit i = false := by cases hq : fl.testBit i; rfl; rw [sh_bit fl hfl i (by omega), hq] at c43; exact absurd rfl c43
          refine A_bipush (v := 100) dX1_chance_52 (by decide) ?_
          refine A_iload dX1_chance_54 rfl ?_
          refine A_isub dX1_chance_56 ?_
          refine A_i2l dX1_chance_57 ?_
          refine A_lmul dX1_chance_58 ?_
          refine A_lstore_n (lv1 := [_, _, _, _, _, _]) dX1_chance_59 rfl (Nat.le_of_ble_eq_true rfl) rfl rfl ?_
          refine A_inc 1 (lv1 := [_, _, _, _, _, _]) dX1_chance_60 rfl (by decide) rfl rfl ?_
          refine A_goto 5 dX1_chance_63 (by decide) ?_
          refine A_fg 5 (lv1 := [_, _, _, _, _, _]) rfl ?_
          rw [nI_1]
          have e := ih (i + 1) (by omega)
          rw [chF, if_neg (by rw [hb]; decide)] at e
          exact e
        · have hb : fl.testBit i = true := by cases hq : fl.testBit i; (rw [sh_bit fl hfl i (by omega), hq] at c43; exact absurd c43 (by decide)); rfl
          refine A_iload dX1_chance_46 rfl ?_
          refine A_i2l dX1_chance_48 ?_
          refine A_goto 58 dX1_chance_49 (by decide) ?_
          refine A_lmul dX1_chance_58 ?_
          refine A_lstore_n (lv1 := [_, _, _, _, _, _]) dX1_chance_59 rfl (Nat.le_of_ble_eq_true rfl) rfl rfl ?_
          refine A_inc 1 (lv1 := [_, _, _, _, _, _]) dX1_chance_60 rfl (by decide) rfl rfl ?_
          refine A_goto 5 dX1_chance_63 (by decide) ?_
          refine A_fg 5 (lv1 := [_, _, _, _, _, _]) rfl ?_
          rw [nI_1]
          have e := ih (i + 1) (by omega)
          rw [chF, if_pos hb] at e
          exact e
  refine A_lconst (v := 1) dX1_chance_0 (by decide) ?_
  refine A_lstore_n (lv1 := [_, _, _, _, _, _]) dX1_chance_1 rfl (Nat.le_of_ble_eq_true rfl) rfl rfl ?_
  refine A_iconst (v := 0) dX1_chance_2 (by decide) ?_
  refine A_istore (lv1 := [_, _, _, _, _, _]) dX1_chance_3 (Nat.le_of_ble_eq_true rfl) rfl rfl ?_
  exact loop nf 0 (by omega)

theorem c_hopeBelow (G : GX) {b : Nat} {c : CT} {co : Nat → Nat → Option Nat} {r : Nat → Option AE} {n : Nat} {nv nc nf nl wk : Nat} (hI : IX c nv nc nf nl wk) : MA G 0 yX1_hopeBelow cX1_hopeBelow 4 (some .long) 0 0 [.ref (b + 42)] (HC b c co r n) (qL fun x h1 => x = hbF nf ∧ h1 = HC b c co r n) := by
  refine MA.of (own := RX1) false [some (.ref (b + 42)), none, none, none] (by decide +kernel) rfl (fun h => by cases h) (Nat.le_of_ble_eq_true rfl) rfl (fun X => ?_)
  obtain ⟨hv, hv6, hc, hc8, hf, hf3, hl, hl8, hw, hw30, gC, gL⟩ := id hI
  have h343 := tot_343 hv6 hf3
  have loop : ∀ (k i : Nat) , i + k = nf → WA X G RX1 cX1_hopeBelow false (some .long) (qL fun x h1 => x = hbF nf ∧ h1 = HC b c co r n) 0 0 0 (HC b c co r n) 0 0 4 [some (.ref (b + 42)), some (.long (hbF i)), none, some (.int (nI i))] [] := by
    intro k
    induction k with
    | zero =>
      intro i  hk 
      refine A_iload_n dX1_hopeBelow_4 rfl rfl ?_
      refine A_aload_n dX1_hopeBelow_5 rfl rfl ?_
      refine A_get dX1_hopeBelow_6 f_X1_22 (HC_at (by decide)) rfl ?_
      refine A_get dX1_hopeBelow_9 f_X1_30 (HC_at (by decide)) rfl ?_
      refine A_get dX1_hopeBelow_12 f_X1_36 (HC_at (by decide)) rfl ?_
      refine A_icmp_ge 30 dX1_hopeBelow_15 (by decide) (fun c15 => ?_) (fun c15 => ?_)
      · refine A_lload_n dX1_hopeBelow_30 rfl rfl ?_
        exact A_lret dX1_hopeBelow_31 ⟨by rw [show i = nf by omega], rfl⟩ ⟨by decide, by decide⟩
      · exact absurd (by rw [hf]; exact nI_le (by omega) (by omega)) c15
    | succ k ih =>
      intro i  hk 
      have hi : i < nf := by omega
      refine A_iload_n dX1_hopeBelow_4 rfl rfl ?_
      refine A_aload_n dX1_hopeBelow_5 rfl rfl ?_
      refine A_get dX1_hopeBelow_6 f_X1_22 (HC_at (by decide)) rfl ?_
      refine A_get dX1_hopeBelow_9 f_X1_30 (HC_at (by decide)) rfl ?_
      refine A_get dX1_hopeBelow_12 f_X1_36 (HC_at (by decide)) rfl ?_
      refine A_icmp_ge 30 dX1_hopeBelow_15 (by decide) (fun c15 => ?_) (fun c15 => ?_)
      · exact absurd c15 (by rw [hf]; exact nI_ge (by omega) (by omega))
      · refine A_lload_n dX1_hopeBelow_18 rfl rfl ?_
        refine A_ldc2 dX1_hopeBelow_19 w_833 ?_
        refine A_lmul dX1_hopeBelow_22 ?_
        refine A_lstore_n (lv1 := [_, _, _, _]) dX1_hopeBelow_23 rfl (Nat.le_of_ble_eq_true rfl) rfl rfl ?_
        refine A_inc 1 (lv1 := [_, _, _, _]) dX1_hopeBelow_24 rfl (by decide) rfl rfl ?_
        refine A_goto 4 dX1_hopeBelow_27 (by decide) ?_
        rw [nI_1]
        exact ih (i + 1) (by omega)
  refine A_lconst (v := 1) dX1_hopeBelow_0 (by decide) ?_
  refine A_lstore_n (lv1 := [_, _, _, _]) dX1_hopeBelow_1 rfl (Nat.le_of_ble_eq_true rfl) rfl rfl ?_
  refine A_iconst (v := 0) dX1_hopeBelow_2 (by decide) ?_
  refine A_istore_n (lv1 := [_, _, _, _]) dX1_hopeBelow_3 rfl (Nat.le_of_ble_eq_true rfl) rfl rfl ?_
  exact loop nf 0 (by omega)

theorem c_hopeAbove (G : GX) {b : Nat} {c : CT} {co : Nat → Nat → Option Nat} {r : Nat → Option AE} {n : Nat} {nv nc nf nl wk : Nat} {kk : Nat} (hI : IX c nv nc nf nl wk) (hk9 : kk < 343) : MA G 4 yX1_hopeAbove cX1_hopeAbove 7 (some .long) 0 0 [.ref (b + 42), .int (nI kk)] (HC b c co r n) (qL fun x h1 => x = hopeF c nv nf kk ∧ h1 = HC b c co r n) := by
  refine MA.of (own := RX1) false [some (.ref (b + 42)), some (.int (nI kk)), none, none, none, none, none] (by decide +kernel) rfl (fun h => by cases h) (Nat.le_of_ble_eq_true rfl) rfl (fun X => ?_)
  obtain ⟨hv, hv6, hc, hc8, hf, hf3, hl, hl8, hw, hw30, gC, gL⟩ := id hI
  have h343 := tot_343 hv6 hf3
  have h8 : 2 ^ nf ≤ 8 := Nat.le_trans (Nat.pow_le_pow_right (by decide) hf3) (by decide)
  have hcm : ∀ fl, comeN nv nf kk fl < 343 := fun fl => Nat.lt_of_lt_of_le comeN_lt h343
  have loop : ∀ (k i : Nat) , i + k = 2 ^ nf → WA X G RX1 cX1_hopeAbove false (some .long) (qL fun x h1 => x = hopeF c nv nf kk ∧ h1 = HC b c co r n) 4 0 0 (HC b c co r n) 0 0 19 [some (.ref (b + 42)), some (.int (nI kk)), some (.long (hpF c nv nf kk i)), none, some (.int (nI (2 ^ nf))), some (.int (nI i)), none] [] := by
    intro k
    induction k with
    | zero =>
      intro i  hk 
      refine A_iload dX1_hopeAbove_19 rfl ?_
      refine A_iload dX1_hopeAbove_21 rfl ?_
      refine A_icmp_ge 65 dX1_hopeAbove_23 (by decide) (fun c23 => ?_) (fun c23 => ?_)
      · refine A_lload_n dX1_hopeAbove_65 rfl rfl ?_
        exact A_lret dX1_hopeAbove_66 ⟨by rw [show i = 2 ^ nf by omega]; rfl, rfl⟩ ⟨by decide, by decide⟩
      · exact absurd (by exact nI_le (by omega) (by omega)) c23
    | succ k ih =>
      intro i  hk 
      have hi : i < 2 ^ nf := by omega
      refine A_iload dX1_hopeAbove_19 rfl ?_
      refine A_iload dX1_hopeAbove_21 rfl ?_
      refine A_icmp_ge 65 dX1_hopeAbove_23 (by decide) (fun c23 => ?_) (fun c23 => ?_)
      · exact absurd c23 (by exact nI_ge (by omega) (by omega))
      · refine A_aload_n dX1_hopeAbove_26 rfl rfl ?_
        refine A_iload_n dX1_hopeAbove_27 rfl rfl ?_
        refine A_iload dX1_hopeAbove_28 rfl ?_
        refine A_callVi dX1_hopeAbove_30 m_X1_96 cb_X1_onlyComing (As := [_, _]) rfl (HC_at (by decide)) rfl (c_onlyComing G hI hk9 (by omega)) rfl ⟨by decide, by decide⟩ (Nat.le_of_ble_eq_true rfl) ⟨by decide, by decide⟩ (fun x30 h30 hq => ?_)
        obtain ⟨rfl, rfl⟩ := hq
        refine A_istore (lv1 := [_, _, _, _, _, _, _]) dX1_hopeAbove_33 (Nat.le_of_ble_eq_true rfl) rfl rfl ?_
        refine A_lload_n dX1_hopeAbove_35 rfl rfl ?_
        refine A_aload_n dX1_hopeAbove_36 rfl rfl ?_
        refine A_iload dX1_hopeAbove_37 rfl ?_
        refine A_callVl dX1_hopeAbove_39 m_X1_110 cb_X1_chance (As := [_]) rfl (HC_at (by decide)) rfl (c_chance G hI (by omega)) rfl ⟨by decide, by decide⟩ (Nat.le_of_ble_eq_true rfl) ⟨by decide, by decide⟩ (fun x39 h39 hq => ?_)
        obtain ⟨rfl, rfl⟩ := hq
        refine A_aload_n dX1_hopeAbove_42 rfl rfl ?_
        refine A_iload dX1_hopeAbove_43 rfl ?_
        refine A_callVi dX1_hopeAbove_45 m_X1_103 cb_X1_broughtBy (As := [_]) rfl (HC_at (by decide)) rfl (c_broughtBy G (hcm i)) rfl ⟨by decide, by decide⟩ (Nat.le_of_ble_eq_true rfl) ⟨by decide, by decide⟩ (fun x45 h45 hq => ?_)
        obtain ⟨rfl, rfl⟩ := hq
        refine A_aload_n dX1_hopeAbove_48 rfl rfl ?_
        refine A_iload dX1_hopeAbove_49 rfl ?_
        refine A_callVi dX1_hopeAbove_51 m_X1_99 cb_X1_shortBy (As := [_]) rfl (HC_at (by decide)) rfl (c_shortBy G (hcm i)) rfl ⟨by decide, by decide⟩ (Nat.le_of_ble_eq_true rfl) ⟨by decide, by decide⟩ (fun x51 h51 hq => ?_)
        obtain ⟨rfl, rfl⟩ := hq
        refine A_isub dX1_hopeAbove_54 ?_
        refine A_i2l dX1_hopeAbove_55 ?_
        refine A_lmul dX1_hopeAbove_56 ?_
        refine A_ladd dX1_hopeAbove_57 ?_
        refine A_lstore_n (lv1 := [_, _, _, _, _, _, _]) dX1_hopeAbove_58 rfl (Nat.le_of_ble_eq_true rfl) rfl rfl ?_
        refine A_inc 1 (lv1 := [_, _, _, _, _, _, _]) dX1_hopeAbove_59 rfl (by decide) rfl rfl ?_
        refine A_goto 19 dX1_hopeAbove_62 (by decide) ?_
        refine A_fg 6 (lv1 := [_, _, _, _, _, _, _]) rfl ?_
        rw [nI_1]
        exact ih (i + 1) (by omega)
  refine A_lconst (v := 0) dX1_hopeAbove_0 (by decide) ?_
  refine A_lstore_n (lv1 := [_, _, _, _, _, _, _]) dX1_hopeAbove_1 rfl (Nat.le_of_ble_eq_true rfl) rfl rfl ?_
  refine A_iconst (v := 1) dX1_hopeAbove_2 (by decide) ?_
  refine A_aload_n dX1_hopeAbove_3 rfl rfl ?_
  refine A_get dX1_hopeAbove_4 f_X1_22 (HC_at (by decide)) rfl ?_
  refine A_get dX1_hopeAbove_7 f_X1_30 (HC_at (by decide)) rfl ?_
  refine A_get dX1_hopeAbove_10 f_X1_36 (HC_at (by decide)) rfl ?_
  refine A_ishl dX1_hopeAbove_13 ?_
  rw [hf, pow_sh nf (by omega)]
  refine A_istore (lv1 := [_, _, _, _, _, _, _]) dX1_hopeAbove_14 (Nat.le_of_ble_eq_true rfl) rfl rfl ?_
  refine A_iconst (v := 0) dX1_hopeAbove_16 (by decide) ?_
  refine A_istore (lv1 := [_, _, _, _, _, _, _]) dX1_hopeAbove_17 (Nat.le_of_ble_eq_true rfl) rfl rfl ?_
  exact loop (2 ^ nf) 0 (by omega)

theorem c_wiseCode (G : GX) {b : Nat} {c : CT} {co : Nat → Nat → Option Nat} {r : Nat → Option AE} {n : Nat} {nv nc nf nl wk : Nat} {N : Nat} (hI : IX c nv nc nf nl wk) (hN : N = tot nv nf) : MA G 5 yX1_wiseCode cX1_wiseCode 8 (some .int) 0 0 [.ref (b + 42)] (HC b c co r n) (qI fun x h1 => x = nI (wsF (fun k => hopeF c nv nf k) (N - 1)) ∧ h1 = HC b c co r n) := by
  refine MA.of (own := RX1) false [some (.ref (b + 42)), none, none, none, none, none, none, none] (by decide +kernel) rfl (fun h => by cases h) (Nat.le_of_ble_eq_true rfl) rfl (fun X => ?_)
  obtain ⟨hv, hv6, hc, hc8, hf, hf3, hl, hl8, hw, hw30, gC, gL⟩ := id hI
  have h343 := tot_343 hv6 hf3
  have hpos : 0 < N := by rw [hN]; exact tot_pos
  have loop : ∀ (k i : Nat) , i + k = N - 1 → WA X G RX1 cX1_wiseCode false (some .int) (qI fun x h1 => x = nI (wsF (fun k => hopeF c nv nf k) (N - 1)) ∧ h1 = HC b c co r n) 5 0 0 (HC b c co r n) 0 0 17 [some (.ref (b + 42)), some (.int (nI (wsF (fun k => hopeF c nv nf k) i))), some (.long (hopeF c nv nf (wsF (fun k => hopeF c nv nf k) i))), none, some (.int (nI N)), some (.int (nI (i + 1))), none, none] [] := by
    intro k
    induction k with
    | zero =>
      intro i  hk 
      refine A_iload dX1_wiseCode_17 rfl ?_
      refine A_iload dX1_wiseCode_19 rfl ?_
      refine A_icmp_ge 51 dX1_wiseCode_21 (by decide) (fun c21 => ?_) (fun c21 => ?_)
      · refine A_iload_n dX1_wiseCode_51 rfl rfl ?_
        exact A_iret dX1_wiseCode_52 ⟨by rw [show i = N - 1 by omega], rfl⟩ ⟨by decide, by decide⟩
      · exact absurd (nI_le (by omega) (by omega)) c21
    | succ k ih =>
      intro i  hk 
      have hi : i < N - 1 := by omega
      refine A_iload dX1_wiseCode_17 rfl ?_
      refine A_iload dX1_wiseCode_19 rfl ?_
      refine A_icmp_ge 51 dX1_wiseCode_21 (by decide) (fun c21 => ?_) (fun c21 => ?_)
      · exact absurd c21 (nI_ge (by omega) (by omega))
      · refine A_aload_n dX1_wiseCode_24 rfl rfl ?_
        refine A_iload dX1_wiseCode_25 rfl ?_
        refine A_callVl dX1_wiseCode_27 m_X1_106 cb_X1_hopeAbove (As := [_]) rfl (HC_at (by decide)) rfl (c_hopeAbove G hI (by omega)) rfl ⟨by decide, by decide⟩ (Nat.le_of_ble_eq_true rfl) ⟨by decide, by decide⟩ (fun x27 h27 hq => ?_)
        obtain ⟨rfl, rfl⟩ := hq
        refine A_lstore (lv1 := [_, _, _, _, _, _, _, _]) dX1_wiseCode_30 (Nat.le_of_ble_eq_true rfl) rfl rfl ?_
        refine A_lload dX1_wiseCode_32 rfl ?_
        refine A_lload_n dX1_wiseCode_34 rfl rfl ?_
        refine A_lcmp dX1_wiseCode_35 ?_
        refine A_if_le 45 dX1_wiseCode_36 (by decide) (fun c36 => ?_) (fun c36 => ?_)
        · refine A_inc 1 (lv1 := [_, _, _, _, _, _, _, _]) dX1_wiseCode_45 rfl (by decide) rfl rfl ?_
          refine A_goto 17 dX1_wiseCode_48 (by decide) ?_
          refine A_fg 6 (lv1 := [_, _, _, _, _, _, _, _]) rfl ?_
          rw [nI_1]
          have e := ih (i + 1) (by omega)
          rw [wsF, if_neg ((lgc_le _ _).mp c36)] at e
          exact e
        · refine A_lload dX1_wiseCode_39 rfl ?_
          refine A_lstore_n (lv1 := [_, _, _, _, _, _, _, _]) dX1_wiseCode_41 rfl (Nat.le_of_ble_eq_true rfl) rfl rfl ?_
          refine A_iload dX1_wiseCode_42 rfl ?_
          refine A_istore_n (lv1 := [_, _, _, _, _, _, _, _]) dX1_wiseCode_44 rfl (Nat.le_of_ble_eq_true rfl) rfl rfl ?_
          refine A_inc 1 (lv1 := [_, _, _, _, _, _, _, _]) dX1_wiseCode_45 rfl (by decide) rfl rfl ?_
          refine A_goto 17 dX1_wiseCode_48 (by decide) ?_
          refine A_fg 6 (lv1 := [_, _, _, _, _, _, _, _]) rfl ?_
          rw [nI_1]
          have e := ih (i + 1) (by omega)
          rw [wsF, if_pos (Decidable.of_not_not (fun z => c36 ((lgc_le _ _).mpr z)))] at e
          exact e
  refine A_iconst (v := 0) dX1_wiseCode_0 (by decide) ?_
  refine A_istore_n (lv1 := [_, _, _, _, _, _, _, _]) dX1_wiseCode_1 rfl (Nat.le_of_ble_eq_true rfl) rfl rfl ?_
  refine A_aload_n dX1_wiseCode_2 rfl rfl ?_
  refine A_iconst (v := 0) dX1_wiseCode_3 (by decide) ?_
  refine A_callVl dX1_wiseCode_4 m_X1_106 cb_X1_hopeAbove (As := [_]) rfl (HC_at (by decide)) rfl (c_hopeAbove G hI (kk := 0) (by decide)) rfl ⟨by decide, by decide⟩ (Nat.le_of_ble_eq_true rfl) ⟨by decide, by decide⟩ (fun x4 h4 hq => ?_)
  obtain ⟨rfl, rfl⟩ := hq
  refine A_lstore_n (lv1 := [_, _, _, _, _, _, _, _]) dX1_wiseCode_7 rfl (Nat.le_of_ble_eq_true rfl) rfl rfl ?_
  refine A_aload_n dX1_wiseCode_8 rfl rfl ?_
  refine A_callVi dX1_wiseCode_9 m_X1_90 cb_X1_total (As := []) rfl (HC_at (by decide)) rfl (c_total G hI) rfl ⟨by decide, by decide⟩ (Nat.le_of_ble_eq_true rfl) ⟨by decide, by decide⟩ (fun x9 h9 hq => ?_)
  obtain ⟨rfl, rfl⟩ := hq
  rw [← hN]
  refine A_istore (lv1 := [_, _, _, _, _, _, _, _]) dX1_wiseCode_12 (Nat.le_of_ble_eq_true rfl) rfl rfl ?_
  refine A_iconst (v := 1) dX1_wiseCode_14 (by decide) ?_
  refine A_istore (lv1 := [_, _, _, _, _, _, _, _]) dX1_wiseCode_15 (Nat.le_of_ble_eq_true rfl) rfl rfl ?_
  exact loop (N - 1) 0 (by omega)

def forgetF (c : CT) : CT := st1 c 45 (fun _ => 0)
theorem c_forget (G : GX) {b : Nat} {c : CT} {co : Nat → Nat → Option Nat} {r : Nat → Option AE} {n : Nat} : MA G 0 yX1_forget cX1_forget 2 none 0 0 [.ref (b + 42)] (HC b c co r n) (qV fun h1 => h1 = HC b (forgetF c) co r n) := by
  refine MA.of (own := RX1) false [some (.ref (b + 42)), none] (by decide +kernel) rfl (fun h => by cases h) (Nat.le_of_ble_eq_true rfl) rfl (fun X => ?_)
  have loop : ∀ (k i : Nat) (g : Nat → Int32), i + k = 343 → (∀ j, j < i → g j = 0) → WA X G RX1 cX1_forget false none (qV fun h1 => h1 = HC b (forgetF c) co r n) 0 0 0 (HC b (st1 c 45 g) co r n) 0 0 2 [some (.ref (b + 42)), some (.int (nI i))] [] := by
    intro k
    induction k with
    | zero =>
      intro i g hk hg
      refine A_iload_n dX1_forget_2 rfl rfl ?_
      refine A_sipush (v := 343) dX1_forget_3 (by decide) ?_
      refine A_icmp_ge 22 dX1_forget_6 (by decide) (fun c6 => ?_) (fun c6 => ?_)
      · refine WA_rowZ (k := 45) (fun _ => 0) (by decide) (fun _ => rfl) (fun j hj => by rw [st1_eq]; exact hg j (by omega)) ?_
        rw [st1_st1]
        exact A_vret dX1_forget_22 rfl ⟨by decide, by decide⟩
      · exact absurd (nI_le (a := 343) (by omega) (by omega)) c6
    | succ k ih =>
      intro i g hk hg
      have hi : i < 343 := by omega
      refine A_iload_n dX1_forget_2 rfl rfl ?_
      refine A_sipush (v := 343) dX1_forget_3 (by decide) ?_
      refine A_icmp_ge 22 dX1_forget_6 (by decide) (fun c6 => ?_) (fun c6 => ?_)
      · exact absurd c6 (nI_ge (b := 343) (by omega) (by decide))
      · refine A_aload_n dX1_forget_9 rfl rfl ?_
        refine A_get dX1_forget_10 f_X1_18 (HC_at (by decide)) rfl ?_
        refine A_iload_n dX1_forget_13 rfl rfl ?_
        refine A_iconst (v := 0) dX1_forget_14 (by decide) ?_
        refine A_zastCN dX1_forget_15 (by decide) (fun _ => rfl) (by omega) (by decide) ?_
        refine A_inc 1 (lv1 := [_, _]) dX1_forget_16 rfl (by decide) rfl rfl ?_
        refine A_goto 2 dX1_forget_19 (by decide) ?_
        rw [nI_1]
        refine WA_h (congrArg (fun z => HC b z co r n) (show _ = st1 c 45 (upd g i 0) from by funext l; by_cases h : l = 45 <;> simp [put, st1, h]; rfl)) (ih (i + 1) _ (by omega) (fun j hj => ?_))
        by_cases e : j = i
        · rw [e, pk_us]
        · rw [pk_un e]; exact hg j (by omega)
  refine A_iconst (v := 0) dX1_forget_0 (by decide) ?_
  refine A_istore_n (lv1 := [_, _]) dX1_forget_1 rfl (Nat.le_of_ble_eq_true rfl) rfl rfl ?_
  have e := loop 343 0 (c 45) (by omega) (fun j hj => absurd hj (Nat.not_lt_zero j))
  refine WA_h (congrArg (fun z => HC b z co r n) (show _ = st1 c 45 (c 45) from by funext l; by_cases h : l = 45 <;> simp [st1, h])) e
