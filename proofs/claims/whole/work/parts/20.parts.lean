/-! PLAINS, SLOTS, the TAPE: their own methods -/
theorem A_cat (d : Nat) (h : 1 ≤ d) : 11 ≤ 64 * d := by omega
theorem HP_ext {b : Nat} {P Q : Nat → Nat → Int32} {co : Nat → Nat → Int64} {r : Nat → Option AE} {n : Nat} (h : ∀ k, k < 10 → mkP b k (P k) (co k) = mkP b k (Q k) (co k)) : HP b P co r n = HP b Q co r n := by
  refine Prod.ext ?_ rfl
  funext a
  simp only [HP]
  by_cases ha : b ≤ a ∧ a < b + 10
  · rw [if_pos ha, if_pos ha, h (a - b) (by omega)]
  · rw [if_neg ha, if_neg ha]
theorem ob_ne_aI {c n : Nat} {fs : List Value} {f : Nat → Int32} : ob c fs ≠ aI n f := by intro h; cases h
theorem mn_of {x y : Int32} (h : y ≤ x) : mn x y = y := by
  unfold mn
  split
  · rfl
  · next z => exact Int32.le_antisymm (Int32.not_lt.mp z) h
/-- the counts of a PLAIN's rows are within their bounds -/
def PN (Q : Nat → Nat → Int32) (k : Nat) : Prop := Q (k + 1) 2 ≤ 6 ∧ Q (k + 3) 2 ≤ 8 ∧ Q (k + 5) 2 ≤ 3 ∧ Q (k + 7) 2 ≤ 8
theorem c_Rcopy (G : GX) {h : AH} {a q a2 q2 len : Nat} {mx w n1 mx2 w2 n2 : Int32} {f g : Nat → Int32} (ha : h.1 a = some (ob 3 [.int mx, .int w, .ref q, .int n1])) (hq : h.1 q = some (aI len f)) (ha2 : h.1 a2 = some (ob 3 [.int mx2, .int w2, .ref q2, .int n2])) (hq2 : h.1 q2 = some (aI len g)) (ne : a2 ≠ a) (hlen : len < 2 ^ 31) (hn : n2 ≤ mx) : MA G 1 yX3_copy cX3_copy 2 none 0 0 [.ref a, .ref a2] h (qV fun h1 => h1 = upH (upH h a (ob 3 [.int mx, .int w, .ref q, .int n2])) q (aI len g)) := by
  refine MA.of (own := RX3) false [some (.ref a), some (.ref a2)] (by decide +kernel) rfl (fun h => by cases h) (Nat.le_of_ble_eq_true rfl) rfl (fun X => ?_)
  have nq : q ≠ a := fun e => by rw [e, ha] at hq; cases hq
  have nq2 : q2 ≠ a := fun e => by rw [e, ha] at hq2; cases hq2
  have na2 : a2 ≠ a := ne
  refine A_aload_n dX3_copy_0 rfl rfl ?_
  refine A_aload_n dX3_copy_1 rfl rfl ?_
  refine A_get dX3_copy_2 f_X3_7 ha rfl ?_
  refine A_aload_n dX3_copy_5 rfl rfl ?_
  refine A_get dX3_copy_6 f_X3_20 ha2 rfl ?_
  refine A_min dX3_copy_9 w_560 (by decide) (Nat.le_of_ble_eq_true rfl) ⟨by decide, by decide⟩ ?_
  refine A_eqI (show _ = n2 from mn_of hn) ?_
  refine A_put dX3_copy_12 p_X3_20 ha (Nat.le_of_ble_eq_true rfl) rfl rfl ?_
  have ha := up_eq (h := h) (a := a) (e := ob 3 ([Value.int mx, .int w, .ref q, .int n1].set 3 (.int n2)))
  have hq := (up_ne (h := h) (e := ob 3 ([Value.int mx, .int w, .ref q, .int n1].set 3 (.int n2))) nq).trans hq
  have hq2 := (up_ne (h := h) (e := ob 3 ([Value.int mx, .int w, .ref q, .int n1].set 3 (.int n2))) nq2).trans hq2
  have ha2 := (up_ne (h := h) (e := ob 3 ([Value.int mx, .int w, .ref q, .int n1].set 3 (.int n2))) na2).trans ha2
  refine A_aload_n dX3_copy_15 rfl rfl ?_
  refine A_get dX3_copy_16 f_X3_16 ha2 rfl ?_
  refine A_iconst (v := 0) dX3_copy_19 (by decide) ?_
  refine A_aload_n dX3_copy_20 rfl rfl ?_
  refine A_get dX3_copy_21 f_X3_16 ha rfl ?_
  refine A_iconst (v := 0) dX3_copy_24 (by decide) ?_
  refine A_aload_n dX3_copy_25 rfl rfl ?_
  refine A_get dX3_copy_26 f_X3_16 ha rfl ?_
  refine A_alenI (v := nI _) dX3_copy_29 hq rfl ?_
  refine A_aload_n dX3_copy_30 rfl rfl ?_
  refine A_get dX3_copy_31 f_X3_16 ha2 rfl ?_
  refine A_alenI (v := nI _) dX3_copy_34 hq2 rfl ?_
  refine A_min dX3_copy_35 w_560 (by decide) (Nat.le_of_ble_eq_true rfl) ⟨by decide, by decide⟩ ?_
  rw [show (if nI len < nI len then nI len else nI len) = nI len by split <;> rfl]
  refine A_copyI dX3_copy_38 w_561 hq2 hq (by decide) (by decide) (nI_pos (by omega)) (by rw [nI_clamp (by omega)]; show 0 + len ≤ len; omega) (by rw [nI_clamp (by omega)]; show 0 + len ≤ len; omega) (by decide) (Nat.le_of_ble_eq_true rfl) ?_
  refine WA_aI (a := q) (k := 0) (n := len) (g := g) up_eq (fun i hi => ?_) (WA_h upH_upH ?_)
  · rw [nI_clamp (by omega)]
    show va_cpy g f 0 0 len i = g i
    rw [pk_cpy_in (Nat.zero_le _) (by omega), Nat.sub_zero, Nat.zero_add]
  exact A_vret dX3_copy_41 rfl ⟨by decide, by decide⟩

theorem c_Pcopy (G : GX) {p q : Nat} {P1 Q : Nat → Nat → Int32} {co : Nat → Nat → Int64} {r : Nat → Option AE} {n : Nat} (hq : ∀ k, k < 10 → r (q + k) = some (mkP q k (Q k) (co k))) (hdis : q + 10 ≤ p ∨ p + 10 ≤ q) (hQ : PN Q 0) : MA G 2 yX2_copy cX2_copy 2 none 0 0 [.ref p, .ref q] (HP p P1 co r n) (qV fun h1 => h1 = HP p Q co r n) := by
  refine MA.of (own := RX2) false [some (.ref p), some (.ref q)] (by decide +kernel) rfl (fun h => by cases h) (Nat.le_of_ble_eq_true rfl) rfl (fun X => ?_)
  have src : ∀ (P : Nat → Nat → Int32) (k : Nat), k < 10 → (HP p P co r n).1 (q + k) = some (mkP q k (Q k) (co k)) := fun P k hk => (HP_out (by omega)).trans (hq k hk)
  have s0 := fun P => src P 0 (by decide)
  have s1 := fun P => src P 1 (by decide)
  have s2 := fun P => src P 2 (by decide)
  have s3 := fun P => src P 3 (by decide)
  have s4 := fun P => src P 4 (by decide)
  have s5 := fun P => src P 5 (by decide)
  have s6 := fun P => src P 6 (by decide)
  have s7 := fun P => src P 7 (by decide)
  have s8 := fun P => src P 8 (by decide)
  have s9 := fun P => src P 9 (by decide)
  refine A_aload_n dX2_copy_0 rfl rfl ?_
  refine A_get dX2_copy_1 f_X2_14 HP_at0 rfl ?_
  refine A_aload_n dX2_copy_4 rfl rfl ?_
  refine A_get dX2_copy_5 f_X2_14 (s0 _) rfl ?_
  refine A_callVv dX2_copy_8 m_X2_55 cb_X3_copy (As := [_]) rfl (HP_at (by decide)) rfl (c_Rcopy G (HP_at (k := 1) (by decide)) (HP_at (k := 2) (by decide)) (s1 _) (s2 _) (by omega) (by decide) (hQ.1)) rfl ⟨by decide, by decide⟩ (Nat.le_of_ble_eq_true rfl) ⟨by decide, by decide⟩ (fun h8 hq => ?_)
  obtain rfl := hq
  refine WA_h ((congrArg (fun z => upH z _ _) (HP_up (k := 1) (g := upd (P1 1) 2 (Q 1 2)) (by decide) rfl)).trans (HP_up (k := 2) (by decide) rfl)) ?_
  generalize e1 : st1 (st1 P1 1 _) 2 _ = P3
  refine A_aload_n dX2_copy_11 rfl rfl ?_
  refine A_get dX2_copy_12 f_X2_20 HP_at0 rfl ?_
  refine A_aload_n dX2_copy_15 rfl rfl ?_
  refine A_get dX2_copy_16 f_X2_20 (s0 _) rfl ?_
  refine A_callVv dX2_copy_19 m_X2_55 cb_X3_copy (As := [_]) rfl (HP_at (by decide)) rfl (c_Rcopy G (HP_at (k := 3) (by decide)) (HP_at (k := 4) (by decide)) (s3 _) (s4 _) (by omega) (by decide) (hQ.2.1)) rfl ⟨by decide, by decide⟩ (Nat.le_of_ble_eq_true rfl) ⟨by decide, by decide⟩ (fun h19 hq => ?_)
  obtain rfl := hq
  refine WA_h ((congrArg (fun z => upH z _ _) (HP_up (k := 3) (g := upd (P3 3) 2 (Q 3 2)) (by decide) rfl)).trans (HP_up (k := 4) (by decide) rfl)) ?_
  generalize e3 : st1 (st1 P3 3 _) 4 _ = P5
  refine A_aload_n dX2_copy_22 rfl rfl ?_
  refine A_get dX2_copy_23 f_X2_23 HP_at0 rfl ?_
  refine A_aload_n dX2_copy_26 rfl rfl ?_
  refine A_get dX2_copy_27 f_X2_23 (s0 _) rfl ?_
  refine A_callVv dX2_copy_30 m_X2_55 cb_X3_copy (As := [_]) rfl (HP_at (by decide)) rfl (c_Rcopy G (HP_at (k := 5) (by decide)) (HP_at (k := 6) (by decide)) (s5 _) (s6 _) (by omega) (by decide) (hQ.2.2.1)) rfl ⟨by decide, by decide⟩ (Nat.le_of_ble_eq_true rfl) ⟨by decide, by decide⟩ (fun h30 hq => ?_)
  obtain rfl := hq
  refine WA_h ((congrArg (fun z => upH z _ _) (HP_up (k := 5) (g := upd (P5 5) 2 (Q 5 2)) (by decide) rfl)).trans (HP_up (k := 6) (by decide) rfl)) ?_
  generalize e5 : st1 (st1 P5 5 _) 6 _ = P7
  refine A_aload_n dX2_copy_33 rfl rfl ?_
  refine A_get dX2_copy_34 f_X2_26 HP_at0 rfl ?_
  refine A_aload_n dX2_copy_37 rfl rfl ?_
  refine A_get dX2_copy_38 f_X2_26 (s0 _) rfl ?_
  refine A_callVv dX2_copy_41 m_X2_55 cb_X3_copy (As := [_]) rfl (HP_at (by decide)) rfl (c_Rcopy G (HP_at (k := 7) (by decide)) (HP_at (k := 8) (by decide)) (s7 _) (s8 _) (by omega) (by decide) (hQ.2.2.2)) rfl ⟨by decide, by decide⟩ (Nat.le_of_ble_eq_true rfl) ⟨by decide, by decide⟩ (fun h41 hq => ?_)
  obtain rfl := hq
  refine WA_h ((congrArg (fun z => upH z _ _) (HP_up (k := 7) (g := upd (P7 7) 2 (Q 7 2)) (by decide) rfl)).trans (HP_up (k := 8) (by decide) rfl)) ?_
  generalize e7 : st1 (st1 P7 7 _) 8 _ = P9
  refine A_aload_n dX2_copy_44 rfl rfl ?_
  refine A_get dX2_copy_45 f_X2_29 (s0 _) rfl ?_
  refine A_iconst (v := 0) dX2_copy_48 (by decide) ?_
  refine A_aload_n dX2_copy_49 rfl rfl ?_
  refine A_get dX2_copy_50 f_X2_29 HP_at0 rfl ?_
  refine A_iconst (v := 0) dX2_copy_53 (by decide) ?_
  refine A_bipush (v := 30) dX2_copy_54 (by decide) ?_
  refine A_copyI dX2_copy_56 w_564 (s9 _) (HP_at (k := 9) (by decide)) (by decide) (by decide) (by decide) (by decide) (by decide) (by decide) (Nat.le_of_ble_eq_true rfl) ?_
  refine WA_h (HP_up (k := 9) (by decide) rfl) ?_
  refine WA_aI (a := p + 9) (k := 0) (n := 30) (g := Q 9) (HP_at (k := 9) (by decide)) (fun i hi => ?_) (WA_h (HP_up (k := 9) (by decide) rfl) ?_)
  · rw [st1_eq]
    show va_cpy (Q 9) (P9 9) 0 0 30 i = Q 9 i
    rw [pk_cpy_in (Nat.zero_le _) (by omega), Nat.sub_zero, Nat.zero_add]
  rw [st1_st1]
  generalize e10 : st1 P9 9 _ = P10
  refine A_aload_n dX2_copy_59 rfl rfl ?_
  refine A_aload_n dX2_copy_60 rfl rfl ?_
  refine A_get dX2_copy_61 f_X2_43 (s0 _) rfl ?_
  refine A_putP0 dX2_copy_64 p_X2_43 rfl (Nat.le_of_ble_eq_true rfl) rfl ?_
  generalize f5 : put P10 0 5 _ = P11
  refine A_aload_n dX2_copy_67 rfl rfl ?_
  refine A_aload_n dX2_copy_68 rfl rfl ?_
  refine A_get dX2_copy_69 f_X2_46 (s0 _) rfl ?_
  refine A_putP0 dX2_copy_72 p_X2_46 rfl (Nat.le_of_ble_eq_true rfl) rfl ?_
  generalize f6 : put P11 0 6 _ = P12
  refine A_aload_n dX2_copy_75 rfl rfl ?_
  refine A_aload_n dX2_copy_76 rfl rfl ?_
  refine A_get dX2_copy_77 f_X2_49 (s0 _) rfl ?_
  refine A_putP0 dX2_copy_80 p_X2_49 rfl (Nat.le_of_ble_eq_true rfl) rfl ?_
  generalize f7 : put P12 0 7 _ = P13
  refine A_aload_n dX2_copy_83 rfl rfl ?_
  refine A_aload_n dX2_copy_84 rfl rfl ?_
  refine A_get dX2_copy_85 f_X2_52 (s0 _) rfl ?_
  refine A_putP0 dX2_copy_88 p_X2_52 rfl (Nat.le_of_ble_eq_true rfl) rfl ?_
  generalize f8 : put P13 0 8 _ = P14
  exact A_vret dX2_copy_91 (by rw [← f8, ← f7, ← f6, ← f5, ← e10, ← e7, ← e5, ← e3, ← e1]; exact (HP_ext (fun k hk => by match k, hk with | 0, _ => rfl | 1, _ => rfl | 2, _ => rfl | 3, _ => rfl | 4, _ => rfl | 5, _ => rfl | 6, _ => rfl | 7, _ => rfl | 8, _ => rfl | 9, _ => rfl))) ⟨by decide, by decide⟩
