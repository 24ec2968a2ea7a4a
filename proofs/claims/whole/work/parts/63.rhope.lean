/-! THE REFERENCE: HOPE, WISE -/
theorem tkc_cd {nv : Nat} {g : Nat → Nat} : ∀ (n : Nat), (∀ i, i < n → g i ≤ nv) → ∀ i, i < n → cdF nv g n / (nv + 1) ^ (n - 1 - i) % (nv + 1) = g i
  | 0, _, i, hi => absurd hi (by omega)
  | n + 1, h, i, hi => by
    by_cases e : i = n
    · subst e
      rw [show i + 1 - 1 - i = 0 by omega, Nat.pow_zero, Nat.div_one, cdF, Nat.mul_comm, Nat.mul_add_mod]
      exact Nat.mod_eq_of_lt (by have := h i hi; omega)
    · have ih := tkc_cd n (fun j hj => h j (by omega)) i (by omega)
      have hn := h n (by omega)
      rw [show n + 1 - 1 - i = (n - 1 - i) + 1 by omega, Nat.pow_succ, Nat.mul_comm ((nv + 1) ^ (n - 1 - i)), ← Nat.div_div_eq_div_mul, cdF, Nat.mul_comm (cdF nv g n), Nat.mul_add_div (by omega), Nat.div_eq_of_lt (show g n < nv + 1 by omega), Nat.add_zero]
      exact ih
theorem tkc_come {nv nf k fl i : Nat} (hi : i < nf) : tkc nv nf (comeN nv nf k fl) i = if fl.testBit i then tkc nv nf k i else 0 := tkc_cd nf (fun j _ => by
  split
  · exact tkc_le
  · omega) i hi
theorem tkc_code {nv nf i : Nat} {c : CT} (hK : KX c nv nf) (hi : i < nf) : tkc nv nf (codeN c nv nf) i = tkn c i := tkc_cd nf (fun j hj => (hK j hj).2) i hi
/-- the reference has the TAKERS of a code -/
def CodeM (nv nf k : Nat) (m : CT) : Prop := ∀ i, i < nf → m 1 (157 + i) = nI (tkc nv nf k i) - 1
theorem CodeM.TM {nv nf k : Nat} {m : CT} (h : CodeM nv nf k m) (hv : nv ≤ 6) : TM m nv nf := by
  intro i hi z
  rw [h i hi] at z ⊢
  have h1 := tkc_le (nv := nv) (nf := nf) (k := k) (f := i)
  have hp : 0 < tkc nv nf k i := by
    refine Nat.pos_of_ne_zero (fun h0 => ?_)
    rw [h0] at z
    exact z (by decide)
  rw [nI_sub1 hp]
  exact vp_in_nI (by omega) (by omega)
theorem BL.code {nv nc nf nl wk : Nat} {c m : CT} (h : BL nv nc nf nl wk c m) : CodeM nv nf (codeN c nv nf) m := by
  intro i hi
  rw [tkc_code h.kx hi, ← (h.kx i hi).1, ← h.tk i hi, Int32.add_sub_cancel]
theorem tk_code {m : CT} {nv nf k : Nat} : CodeM nv nf k (st1 m 1 (tkW m nv nf k)) := fun _ hi => tk_tn hi
theorem way_sim {nv nc nf nl wk k fl : Nat} {c m m' : CT} (h : BL nv nc nf nl wk c m) (hO : OT nf m m') (hC : CodeM nv nf k m') : SimY nv nc nf nl fl wk (runF (leadF c (comeN nv nf k fl))) (runM fl m') ∧ DY nv nc nf nl wk wk (runF (leadF c (comeN nv nf k fl))) := by
  refine lead_sim h hO (fun i hi => ?_)
  rw [leadT_x h.ix, if_pos hi, tkc_come hi, tnM]
  by_cases z : fl.testBit i = true
  · rw [if_pos z, if_pos z, hC i hi]
  · rw [if_neg z, if_neg z]; rfl
theorem OT.im {m m' : CT} {nv nc nf nl wk : Nat} (h : OT nf m m') (hI : IM m nv nc nf nl wk) : IM m' nv nc nf nl wk := by
  obtain ⟨hv, hv6, hc, hc8, hf, hf3, hl, hl8, hw, hw30, gC, gL⟩ := hI
  unfold IM
  have e := h.1
  refine ⟨(e _ (by decide)).trans hv, hv6, (e _ (by decide)).trans hc, hc8, (e _ (by decide)).trans hf, hf3, (e _ (by decide)).trans hl, hl8, (e _ (by decide)).trans hw, hw30, fun i hi => ?_, fun i hi => ?_⟩
  · rw [e _ (by omega)]; exact gC i hi
  · rw [e _ (by omega), e _ (by omega)]; exact gL i hi
/-- what some YEARS of the reference leave as it was -/
def sameR (m m1 : CT) : Prop := (∀ l, l ≠ 0 → l < 7 ∨ 12 ≤ l → m1 l = m l) ∧ ∀ j, j < 20 ∨ 25 ≤ j → m1 0 j = m 0 j
theorem sameR.rf {m : CT} : sameR m m := ⟨fun _ _ _ => rfl, fun _ _ => rfl⟩
theorem sameR.tr {a b c : CT} (h : sameR a b) (h2 : sameR b c) : sameR a c := ⟨fun l x y => (h2.1 l x y).trans (h.1 l x y), fun j x => (h2.2 j x).trans (h.2 j x)⟩
theorem runM_R {fl : Nat} {m : CT} : sameR m (runM fl m) := by
  have s : sameM (begM fl m) (runM fl m) := forR_s (fun _ _ => weekM_s)
  refine ⟨fun l x y => (s.1 l x y).trans ?_, fun j x => (s.2 j (by omega)).trans ?_⟩
  · unfold begM
    rw [put_ne x, put_ne x, put_ne x, put_ne x, st1_ne (by omega), st1_ne (by omega), st1_ne (by omega), st1_ne (by omega), put_ne x]
  · unfold begM
    rw [put_no (by omega), put_no (by omega), put_no (by omega), put_no (by omega), st1_ne (by decide), st1_ne (by decide), st1_ne (by decide), st1_ne (by decide), put_no (by omega)]
theorem sameR.k {m m1 : CT} (h : sameR m m1) : kM m m1 := ⟨fun l x y => h.1 l x (by omega), fun j x => h.2 j (by omega)⟩
theorem sameR.w {m m1 : CT} (h : sameR m m1) : m1 1 = m 1 := h.1 1 (by decide) (by decide)
theorem sameR.O {nf : Nat} {m m1 m2 : CT} (h : OT nf m m1) (h2 : sameR m1 m2) : OT nf m m2 := ⟨fun j hj => by rw [h2.w]; exact h.1 j hj, (h2.2 25 (by decide)).trans h.2⟩
theorem sameR.E {m m1 m2 : CT} (h : EM m m1) (h2 : sameR m1 m2) : EM m m2 := ⟨fun j hj => by rw [h2.w]; exact h.1 j hj, fun j hj => by rw [h2.1 12 (by decide) (by decide)]; exact h.2.1 j hj, fun l hl => (h2.1 l (by omega) (by omega)).trans (h.2.2.1 l hl), fun j hj => (h2.2 j (by omega)).trans (h.2.2.2 j hj)⟩
theorem sameR.C {nv nf k : Nat} {m1 m2 : CT} (h : CodeM nv nf k m1) (h2 : sameR m1 m2) : CodeM nv nf k m2 := fun i hi => by rw [h2.w]; exact h i hi
theorem k_hopeBelow (G : GX) {b : Nat} {m : CT} {ml : Nat → Nat → Int64} {r : Nat → Option AE} {n : Nat} {nv nc nf nl wk : Nat} (hI : IM m nv nc nf nl wk) : MA G 0 yX10_hopeBelow cX10_hopeBelow 4 (some .long) 0 0 [.ref b] (HM b m ml r n) (qL fun x9 h1 => x9 = hbF nf ∧ h1 = HM b m ml r n) := by
  refine MA.of (own := RX10) false [some (.ref b), none, none, none] (by decide +kernel) rfl (fun h => by cases h) (Nat.le_of_ble_eq_true rfl) rfl (fun X => ?_)
  obtain ⟨hv, hv6, hc, hc8, hf, hf3, hl, hl8, hw, hw30, gC, gL⟩ := id hI
  have loop : ∀ (k i : Nat) , i + k = nf → WA X G RX10 cX10_hopeBelow false (some .long) (qL fun x9 h1 => x9 = hbF nf ∧ h1 = HM b m ml r n) 0 0 0 (HM b m ml r n) 0 0 4 [some (.ref b), some (.long (hbF i)), none, some (.int (nI i))] [] := by
    intro k
    induction k with
    | zero =>
      intro i  hk 
      refine A_iload_n dX10_hopeBelow_4 rfl rfl ?_
      refine A_aload_n dX10_hopeBelow_5 rfl rfl ?_
      refine A_get dX10_hopeBelow_6 f_X10_9 HM_at0 rfl ?_
      refine A_iconst (v := 2) dX10_hopeBelow_9 (by decide) ?_
      refine A_ialdK (i := 2) dX10_hopeBelow_10 (HM_at (by decide)) rfl (by omega) (by decide) ?_
      refine A_icmp_ge 26 dX10_hopeBelow_11 (by decide) (fun c11 => ?_) (fun c11 => ?_)
      · refine A_lload_n dX10_hopeBelow_26 rfl rfl ?_
        exact A_lret dX10_hopeBelow_27 ⟨by rw [show nf = i by omega], rfl⟩ ⟨by decide, by decide⟩
      · exact absurd (by rw [hf]; exact nI_le (by omega) (by omega)) c11
    | succ k ih =>
      intro i  hk 
      have hi : i < nf := by omega
      refine A_iload_n dX10_hopeBelow_4 rfl rfl ?_
      refine A_aload_n dX10_hopeBelow_5 rfl rfl ?_
      refine A_get dX10_hopeBelow_6 f_X10_9 HM_at0 rfl ?_
      refine A_iconst (v := 2) dX10_hopeBelow_9 (by decide) ?_
      refine A_ialdK (i := 2) dX10_hopeBelow_10 (HM_at (by decide)) rfl (by omega) (by decide) ?_
      refine A_icmp_ge 26 dX10_hopeBelow_11 (by decide) (fun c11 => ?_) (fun c11 => ?_)
      · exact absurd c11 (by rw [hf]; exact nI_ge (by omega) (by omega))
      · refine A_lload_n dX10_hopeBelow_14 rfl rfl ?_
        refine A_ldc2 dX10_hopeBelow_15 w_1602 ?_
        refine A_lmul dX10_hopeBelow_18 ?_
        refine A_lstore_n (lv1 := [_, _, _, _]) dX10_hopeBelow_19 rfl (Nat.le_of_ble_eq_true rfl) rfl rfl ?_
        refine A_inc 1 (lv1 := [_, _, _, _]) dX10_hopeBelow_20 rfl (by decide) rfl rfl ?_
        refine A_goto 4 dX10_hopeBelow_23 (by decide) ?_
        rw [nI_1]
        exact ih (i + 1) (by omega)
  refine A_lconst (v := 1) dX10_hopeBelow_0 (by decide) ?_
  refine A_lstore_n (lv1 := [_, _, _, _]) dX10_hopeBelow_1 rfl (Nat.le_of_ble_eq_true rfl) rfl rfl ?_
  refine A_iconst (v := 0) dX10_hopeBelow_2 (by decide) ?_
  refine A_istore_n (lv1 := [_, _, _, _]) dX10_hopeBelow_3 rfl (Nat.le_of_ble_eq_true rfl) rfl rfl ?_
  exact loop nf 0 (by omega)

theorem hope_odds (G : GX) (X : XC) {b : Nat} {c m m0 : CT} {ml : Nat → Nat → Int64} {r : Nat → Option AE} {n : Nat} {nv nc nf nl wk kk : Nat} {u1 u2 : Nat} (hu : u1 = 0 ∧ u2 = 0) (h : BL nv nc nf nl wk c m) (hO : OT nf m m0) (hC : CodeM nv nf kk m0) {m1 : CT} (hR : sameR m0 m1) {fl : Nat} (hfl : fl < 8) {s9 : Int64} (nxt : WA X G RX10 cX10_hopeAbove false (some .long) (qL fun x9 h1 => x9 = hopeG c nv nf kk ∧ ∃ m1, h1 = HM b m1 ml r n ∧ sameR m0 m1) 4 0 0 (HM b m1 ml r n) u1 u2 76 [some (.ref b), some (.long (s9)), none, some (.int (nI fl)), some (.long (chF c fl nf)), none, some (.int (nI nf))] []) : ∀ k i : Nat, i + k = nf → WA X G RX10 cX10_hopeAbove false (some .long) (qL fun x9 h1 => x9 = hopeG c nv nf kk ∧ ∃ m1, h1 = HM b m1 ml r n ∧ sameR m0 m1) 4 0 0 (HM b m1 ml r n) u1 u2 22 [some (.ref b), some (.long (s9)), none, some (.int (nI fl)), some (.long (chF c fl i)), none, some (.int (nI i))] [] := by
  obtain ⟨rfl, rfl⟩ := hu
  have hI := (sameR.O hO hR).im h.im
  obtain ⟨hv, hv6, hc, hc8, hf, hf3, hl, hl8, hw, hw30, gC, gL⟩ := id hI
  intro k
  induction k with
  | zero =>
    intro i hk
    have e9 : i = nf := by omega
    subst e9
    refine A_iload dX10_hopeAbove_22 rfl ?_
    refine A_aload_n dX10_hopeAbove_24 rfl rfl ?_
    refine A_get dX10_hopeAbove_25 f_X10_9 HM_at0 rfl ?_
    refine A_iconst (v := 2) dX10_hopeAbove_28 (by decide) ?_
    refine A_ialdK (i := 2) dX10_hopeAbove_29 (HM_at (by decide)) rfl (by omega) (by decide) ?_
    refine A_icmp_ge 76 dX10_hopeAbove_30 (by decide) (fun c30 => ?_) (fun c30 => ?_)
    · exact nxt
    · exact absurd (by rw [hf]; exact nI_le (by omega) (by omega)) c30
  | succ k ih =>
    intro i hk
    have hi : i < nf := by omega
    refine A_iload dX10_hopeAbove_22 rfl ?_
    refine A_aload_n dX10_hopeAbove_24 rfl rfl ?_
    refine A_get dX10_hopeAbove_25 f_X10_9 HM_at0 rfl ?_
    refine A_iconst (v := 2) dX10_hopeAbove_28 (by decide) ?_
    refine A_ialdK (i := 2) dX10_hopeAbove_29 (HM_at (by decide)) rfl (by omega) (by decide) ?_
    refine A_icmp_ge 76 dX10_hopeAbove_30 (by decide) (fun c30 => ?_) (fun c30 => ?_)
    · exact absurd c30 (by rw [hf]; exact nI_ge (by omega) (by omega))
    · refine A_lload dX10_hopeAbove_33 rfl ?_
      refine A_iload_n dX10_hopeAbove_35 rfl rfl ?_
      refine A_iload dX10_hopeAbove_36 rfl ?_
      refine A_ishr dX10_hopeAbove_38 ?_
      refine A_iconst (v := 1) dX10_hopeAbove_39 (by decide) ?_
      refine A_iand dX10_hopeAbove_40 ?_
      refine A_eqI (y := nI (if fl.testBit i then 1 else 0)) (sh_bit fl hfl i (by omega)) ?_
      refine A_iconst (v := 1) dX10_hopeAbove_41 (by decide) ?_
      refine A_icmp_ne 56 dX10_hopeAbove_42 (by decide) (fun c42 => ?_) (fun c42 => ?_)
      · have hb9 : ¬ fl.testBit i = true := fun z => by rw [if_pos z] at c42; exact c42 rfl
        refine A_bipush (v := 100) dX10_hopeAbove_56 (by decide) ?_
        refine A_aload_n dX10_hopeAbove_58 rfl rfl ?_
        refine A_iload dX10_hopeAbove_59 rfl ?_
        refine A_iconst (v := 2) dX10_hopeAbove_61 (by decide) ?_
        refine A_callVi dX10_hopeAbove_62 m_X10_252 cb_X10_ofFlood (As := [_, _]) rfl HM_at0 rfl (k_ofFlood G 2 (by omega) (by decide)) rfl ⟨by decide, by decide⟩ (Nat.le_of_ble_eq_true rfl) ⟨by decide, by decide⟩ (fun x62 h62 hq => ?_)
        obtain ⟨rfl, rfl⟩ := hq
        refine A_eqI (y := c 12 (4 * i + 2)) (by rw [hR.w, hO.1 _ (by omega)]; exact (h.sp.2.2.1 i (by omega) 2 (by decide)).symm) ?_
        refine A_isub dX10_hopeAbove_65 ?_
        refine A_i2l dX10_hopeAbove_66 ?_
        refine A_lmul dX10_hopeAbove_67 ?_
        refine A_eqL (y := chF c fl (i + 1)) (by rw [chF, if_neg hb9]) ?_
        refine A_lstore (lv1 := [_, _, _, _, _, _, _]) dX10_hopeAbove_68 (Nat.le_of_ble_eq_true rfl) rfl rfl ?_
        refine A_inc 1 (lv1 := [_, _, _, _, _, _, _]) dX10_hopeAbove_70 rfl (by decide) rfl rfl ?_
        refine A_goto 22 dX10_hopeAbove_73 (by decide) ?_
        rw [nI_1]
        exact ih (i + 1) (by omega)
      · have hb9 : fl.testBit i = true := by by_cases z : fl.testBit i = true; exact z; rw [if_neg z] at c42; exact absurd c42 (by decide)
        refine A_aload_n dX10_hopeAbove_45 rfl rfl ?_
        refine A_iload dX10_hopeAbove_46 rfl ?_
        refine A_iconst (v := 2) dX10_hopeAbove_48 (by decide) ?_
        refine A_callVi dX10_hopeAbove_49 m_X10_252 cb_X10_ofFlood (As := [_, _]) rfl HM_at0 rfl (k_ofFlood G 2 (by omega) (by decide)) rfl ⟨by decide, by decide⟩ (Nat.le_of_ble_eq_true rfl) ⟨by decide, by decide⟩ (fun x49 h49 hq => ?_)
        obtain ⟨rfl, rfl⟩ := hq
        refine A_eqI (y := c 12 (4 * i + 2)) (by rw [hR.w, hO.1 _ (by omega)]; exact (h.sp.2.2.1 i (by omega) 2 (by decide)).symm) ?_
        refine A_i2l dX10_hopeAbove_52 ?_
        refine A_goto 67 dX10_hopeAbove_53 (by decide) ?_
        refine A_lmul dX10_hopeAbove_67 ?_
        refine A_eqL (y := chF c fl (i + 1)) (by rw [chF, if_pos hb9]) ?_
        refine A_lstore (lv1 := [_, _, _, _, _, _, _]) dX10_hopeAbove_68 (Nat.le_of_ble_eq_true rfl) rfl rfl ?_
        refine A_inc 1 (lv1 := [_, _, _, _, _, _, _]) dX10_hopeAbove_70 rfl (by decide) rfl rfl ?_
        refine A_goto 22 dX10_hopeAbove_73 (by decide) ?_
        rw [nI_1]
        exact ih (i + 1) (by omega)

theorem pow_8 {nf : Nat} (h : nf ≤ 3) : 2 ^ nf ≤ 8 := Nat.pow_le_pow_right (by decide) h
theorem hope_ways (G : GX) (X : XC) {b : Nat} {c m m0 : CT} {ml : Nat → Nat → Int64} {r : Nat → Option AE} {n : Nat} {nv nc nf nl wk kk : Nat} {u1 u2 : Nat} (hu : u1 = 0 ∧ u2 = 0) (h : BL nv nc nf nl wk c m) (hO : OT nf m m0) (hC : CodeM nv nf kk m0) : ∀ (k i : Nat) (m1 : CT), i + k = 2 ^ nf → sameR m0 m1 → WA X G RX10 cX10_hopeAbove false (some .long) (qL fun x9 h1 => x9 = hopeG c nv nf kk ∧ ∃ m1, h1 = HM b m1 ml r n ∧ sameR m0 m1) 4 0 0 (HM b m1 ml r n) u1 u2 4 [some (.ref b), some (.long (hpG (BR c) (SH c) c nv nf kk i)), none, some (.int (nI i)), none, none, none] [] := by
  obtain ⟨rfl, rfl⟩ := hu
  have hp8 := pow_8 h.nb.2.2.1
  intro k
  induction k with
  | zero =>
    intro i m1 hk hR
    have hI := (sameR.O hO hR).im h.im
    obtain ⟨hv, hv6, hc, hc8, hf, hf3, hl, hl8, hw, hw30, gC, gL⟩ := id hI
    have hT := (sameR.C hC hR).TM hv6
    have e9 : i = 2 ^ nf := by omega
    subst e9
    refine A_iload_n dX10_hopeAbove_4 rfl rfl ?_
    refine A_iconst (v := 1) dX10_hopeAbove_5 (by decide) ?_
    refine A_aload_n dX10_hopeAbove_6 rfl rfl ?_
    refine A_get dX10_hopeAbove_7 f_X10_9 HM_at0 rfl ?_
    refine A_iconst (v := 2) dX10_hopeAbove_10 (by decide) ?_
    refine A_ialdK (i := 2) dX10_hopeAbove_11 (HM_at (by decide)) rfl (by omega) (by decide) ?_
    rw [hf]
    refine A_ishl dX10_hopeAbove_12 ?_
    refine A_eqI (pow_sh nf (by omega)) ?_
    refine A_icmp_ge 113 dX10_hopeAbove_13 (by decide) (fun c13 => ?_) (fun c13 => ?_)
    · refine A_lload_n dX10_hopeAbove_113 rfl rfl ?_
      exact A_lret dX10_hopeAbove_114 ⟨rfl, m1, rfl, hR⟩ ⟨by decide, by decide⟩
    · exact absurd (nI_le (Nat.le_refl _) (by omega)) c13
  | succ k ih =>
    intro i m1 hk hR
    have hI := (sameR.O hO hR).im h.im
    obtain ⟨hv, hv6, hc, hc8, hf, hf3, hl, hl8, hw, hw30, gC, gL⟩ := id hI
    have hT := (sameR.C hC hR).TM hv6
    have hi : i < 2 ^ nf := by omega
    refine A_iload_n dX10_hopeAbove_4 rfl rfl ?_
    refine A_iconst (v := 1) dX10_hopeAbove_5 (by decide) ?_
    refine A_aload_n dX10_hopeAbove_6 rfl rfl ?_
    refine A_get dX10_hopeAbove_7 f_X10_9 HM_at0 rfl ?_
    refine A_iconst (v := 2) dX10_hopeAbove_10 (by decide) ?_
    refine A_ialdK (i := 2) dX10_hopeAbove_11 (HM_at (by decide)) rfl (by omega) (by decide) ?_
    rw [hf]
    refine A_ishl dX10_hopeAbove_12 ?_
    refine A_eqI (pow_sh nf (by omega)) ?_
    refine A_icmp_ge 113 dX10_hopeAbove_13 (by decide) (fun c13 => ?_) (fun c13 => ?_)
    · exact absurd c13 (nI_ge (by omega) (by omega))
    · refine A_lconst (v := 1) dX10_hopeAbove_16 (by decide) ?_
      refine A_lstore (lv1 := [_, _, _, _, _, _, _]) dX10_hopeAbove_17 (Nat.le_of_ble_eq_true rfl) rfl rfl ?_
      refine A_iconst (v := 0) dX10_hopeAbove_19 (by decide) ?_
      refine A_istore (lv1 := [_, _, _, _, _, _, _]) dX10_hopeAbove_20 (Nat.le_of_ble_eq_true rfl) rfl rfl ?_
      refine hope_odds G X ⟨rfl, rfl⟩ h hO hC hR (fl := i) (by omega) ?_ nf 0 (by omega)
      refine A_lload dX10_hopeAbove_76 rfl ?_
      refine A_lconst (v := 0) dX10_hopeAbove_78 (by decide) ?_
      refine A_lcmp dX10_hopeAbove_79 ?_
      refine A_if_ne 86 dX10_hopeAbove_80 (by decide) (fun c80 => ?_) (fun c80 => ?_)
      · have hz9 : ¬ chF c i nf = 0 := fun z => c80 ((lgc_eq _ _).mpr z)
        refine A_aload_n dX10_hopeAbove_86 rfl rfl ?_
        refine A_iload_n dX10_hopeAbove_87 rfl rfl ?_
        refine A_callVv dX10_hopeAbove_88 m_X10_294 cb_X10_runs (As := [_]) rfl HM_at0 rfl (k_runs G hI hT (by omega)) rfl ⟨by decide, by decide⟩ (Nat.le_of_ble_eq_true rfl) ⟨by decide, by decide⟩ (fun h88 hq => ?_)
        obtain rfl := hq
        obtain ⟨S, D⟩ := way_sim (k := kk) (fl := i) h (sameR.O hO hR) (sameR.C hC hR)
        have hI2 := hI.to (runM_R (fl := i) (m := m1)).w
        have hR2 := hR.tr (runM_R (fl := i) (m := m1))
        have e1 := br_sim ⟨S, D⟩ h.nb
        have e2 := sh_sim ⟨S, D⟩ h.nb
        obtain ⟨y, ey⟩ : ∃ y, runM i m1 = y := ⟨_, rfl⟩
        rw [ey] at S hI2 hR2 e1 e2 ⊢
        refine A_lload_n dX10_hopeAbove_91 rfl rfl ?_
        refine A_lload dX10_hopeAbove_92 rfl ?_
        refine A_aload_n dX10_hopeAbove_94 rfl rfl ?_
        refine A_callVi dX10_hopeAbove_95 m_X10_327 cb_X10_brought (As := []) rfl HM_at0 rfl (k_brought G hI2) rfl ⟨by decide, by decide⟩ (Nat.le_of_ble_eq_true rfl) ⟨by decide, by decide⟩ (fun x95 h95 hq => ?_)
        obtain ⟨rfl, rfl⟩ := hq
        refine A_eqI (y := BR c (comeN nv nf kk i)) e1 ?_
        refine A_aload_n dX10_hopeAbove_98 rfl rfl ?_
        refine A_callVi dX10_hopeAbove_99 m_X10_345 cb_X10_shortOfAll (As := []) rfl HM_at0 rfl (k_shortOfAll G hI2) rfl ⟨by decide, by decide⟩ (Nat.le_of_ble_eq_true rfl) ⟨by decide, by decide⟩ (fun x99 h99 hq => ?_)
        obtain ⟨rfl, rfl⟩ := hq
        refine A_eqI (y := SH c (comeN nv nf kk i)) e2 ?_
        refine A_isub dX10_hopeAbove_102 ?_
        refine A_i2l dX10_hopeAbove_103 ?_
        refine A_lmul dX10_hopeAbove_104 ?_
        refine A_ladd dX10_hopeAbove_105 ?_
        refine A_eqL (y := hpG (BR c) (SH c) c nv nf kk (i + 1)) rfl ?_
        refine A_lstore_n (lv1 := [_, _, _, _, _, _, _]) dX10_hopeAbove_106 rfl (Nat.le_of_ble_eq_true rfl) rfl rfl ?_
        refine A_inc 1 (lv1 := [_, _, _, _, _, _, _]) dX10_hopeAbove_107 rfl (by decide) rfl rfl ?_
        refine A_goto 4 dX10_hopeAbove_110 (by decide) ?_
        refine A_fg 4 (lv1 := [_, _, _, _, _, _, _]) rfl ?_
        refine A_fg 6 (lv1 := [_, _, _, _, _, _, _]) rfl ?_
        rw [nI_1]
        exact ih (i + 1) y (by omega) hR2
      · have hz9 : chF c i nf = 0 := (lgc_eq _ _).mp c80
        refine A_goto 107 dX10_hopeAbove_83 (by decide) ?_
        refine A_inc 1 (lv1 := [_, _, _, _, _, _, _]) dX10_hopeAbove_107 rfl (by decide) rfl rfl ?_
        refine A_goto 4 dX10_hopeAbove_110 (by decide) ?_
        refine A_fg 4 (lv1 := [_, _, _, _, _, _, _]) rfl ?_
        refine A_fg 6 (lv1 := [_, _, _, _, _, _, _]) rfl ?_
        rw [nI_1]
        rw [show hpG (BR c) (SH c) c nv nf kk i = hpG (BR c) (SH c) c nv nf kk (i + 1) by rw [hpG, hz9, Int64.zero_mul, Int64.add_zero]]
        exact ih (i + 1) m1 (by omega) hR

theorem k_hopeAbove (G : GX) {b : Nat} {c m m0 : CT} {ml : Nat → Nat → Int64} {r : Nat → Option AE} {n : Nat} {nv nc nf nl wk kk : Nat} (h : BL nv nc nf nl wk c m) (hO : OT nf m m0) (hC : CodeM nv nf kk m0) : MA G 4 yX10_hopeAbove cX10_hopeAbove 7 (some .long) 0 0 [.ref b] (HM b m0 ml r n) (qL fun x9 h1 => x9 = hopeG c nv nf kk ∧ ∃ m1, h1 = HM b m1 ml r n ∧ sameR m0 m1) := by
  refine MA.of (own := RX10) false [some (.ref b), none, none, none, none, none, none] (by decide +kernel) rfl (fun h => by cases h) (Nat.le_of_ble_eq_true rfl) rfl (fun X => ?_)
  refine A_lconst (v := 0) dX10_hopeAbove_0 (by decide) ?_
  refine A_lstore_n (lv1 := [_, _, _, _, _, _, _]) dX10_hopeAbove_1 rfl (Nat.le_of_ble_eq_true rfl) rfl rfl ?_
  refine A_iconst (v := 0) dX10_hopeAbove_2 (by decide) ?_
  refine A_istore_n (lv1 := [_, _, _, _, _, _, _]) dX10_hopeAbove_3 rfl (Nat.le_of_ble_eq_true rfl) rfl rfl ?_
  exact hope_ways G X ⟨rfl, rfl⟩ h hO hC (2 ^ nf) 0 m0 (by omega) sameR.rf

theorem add64 {x y : Int64} (h1 : -9223372036854775808 ≤ x.toInt + y.toInt) (h2 : x.toInt + y.toInt ≤ 9223372036854775807) : (x + y).toInt = x.toInt + y.toInt := by
  rw [Int64.toInt_add]; exact Int.bmod_eq_of_le (by omega) (by omega)
theorem mul64 {x y : Int64} (h1 : -9223372036854775808 ≤ x.toInt * y.toInt) (h2 : x.toInt * y.toInt ≤ 9223372036854775807) : (x * y).toInt = x.toInt * y.toInt := by
  rw [Int64.toInt_mul]; exact Int.bmod_eq_of_le (by omega) (by omega)
theorem ch_b {c : CT} {nf fl : Nat} (ho : ∀ i, i < nf → 0 ≤ (c 12 (4 * i + 2)).toInt ∧ (c 12 (4 * i + 2)).toInt ≤ 100) : ∀ i, i ≤ nf → i ≤ 3 → 0 ≤ (chF c fl i).toInt ∧ (chF c fl i).toInt ≤ 100 ^ i
  | 0, _, _ => by rw [chF]; decide
  | i + 1, h, h3 => by
    obtain ⟨h1, h2⟩ := ch_b ho i (by omega) (by omega)
    have h4 := ho i (by omega)
    have e : 0 ≤ (if fl.testBit i = true then (c 12 (4 * i + 2)).toInt64 else (100 - c 12 (4 * i + 2)).toInt64).toInt ∧ (if fl.testBit i = true then (c 12 (4 * i + 2)).toInt64 else (100 - c 12 (4 * i + 2)).toInt64).toInt ≤ 100 := by
      split
      · rw [Int32.toInt_toInt64]; exact h4
      · have e100 : (100 : Int32).toInt = 100 := rfl
        rw [Int32.toInt_toInt64, subT (by omega) (by omega), e100]; omega
    rw [chF]
    generalize (if fl.testBit i = true then (c 12 (4 * i + 2)).toInt64 else (100 - c 12 (4 * i + 2)).toInt64) = q at e ⊢
    have hp : (100 : Int) ^ i ≤ 10000 := by
      have : i = 0 ∨ i = 1 ∨ i = 2 := by omega
      rcases this with e | e | e <;> subst e <;> decide
    have m0 : 0 ≤ (chF c fl i).toInt * q.toInt := Int.mul_nonneg h1 e.1
    have m1 : (chF c fl i).toInt * q.toInt ≤ 100 ^ i * 100 := Int.mul_le_mul h2 e.2 e.1 (by omega)
    rw [mul64 (by omega) (by omega), Int.pow_succ]
    exact ⟨m0, m1⟩
theorem i32_b (x : Int32) : -2147483648 ≤ x.toInt ∧ x.toInt ≤ 2147483647 := ⟨Int32.le_toInt x, Int32.toInt_le x⟩
theorem hp_b {c : CT} {nv nf k : Nat} (B S : Nat → Int32) (hf : nf ≤ 3) (ho : ∀ i, i < nf → 0 ≤ (c 12 (4 * i + 2)).toInt ∧ (c 12 (4 * i + 2)).toInt ≤ 100) : ∀ j : Nat, j ≤ 8 → -(j * 2147483648000000 : Int) ≤ (hpG B S c nv nf k j).toInt ∧ (hpG B S c nv nf k j).toInt ≤ j * 2147483648000000
  | 0, _ => by rw [hpG]; decide
  | j + 1, h => by
    obtain ⟨h1, h2⟩ := hp_b (k := k) (nv := nv) B S hf ho j (by omega)
    obtain ⟨c0, c1⟩ := ch_b (fl := j) ho nf (Nat.le_refl _) hf
    have hp : (100 : Int) ^ nf ≤ 1000000 := by
      have : nf = 0 ∨ nf = 1 ∨ nf = 2 ∨ nf = 3 := by omega
      rcases this with e | e | e | e <;> subst e <;> decide
    have d := i32_b (B (comeN nv nf k j) - S (comeN nv nf k j))
    rw [hpG]
    generalize (B (comeN nv nf k j) - S (comeN nv nf k j)) = q at d ⊢
    have e64 : q.toInt64.toInt = q.toInt := Int32.toInt_toInt64 q
    have m1 : (chF c j nf).toInt * q.toInt ≤ 1000000 * 2147483648 := by
      rcases Int.le_total 0 q.toInt with z | z
      · exact Int.mul_le_mul (by omega) (by omega) z (by decide)
      · have := Int.mul_nonpos_of_nonneg_of_nonpos c0 z; omega
    have m2 : -(1000000 * 2147483648) ≤ (chF c j nf).toInt * q.toInt := by
      rcases Int.le_total 0 q.toInt with z | z
      · have := Int.mul_nonneg c0 z; omega
      · have : (chF c j nf).toInt * (-q.toInt) ≤ 1000000 * 2147483648 := Int.mul_le_mul (by omega) (by omega) (by omega) (by decide)
        rw [Int.mul_neg] at this; omega
    have em : (chF c j nf * q.toInt64).toInt = (chF c j nf).toInt * q.toInt := by rw [mul64 (by rw [e64]; omega) (by rw [e64]; omega), e64]
    rw [add64 (by rw [em]; omega) (by rw [em]; omega), em]
    omega
theorem hope_b {nv nc nf nl wk k : Nat} {c m : CT} (h : BL nv nc nf nl wk c m) : -17179869184000000 ≤ (hopeG c nv nf k).toInt ∧ (hopeG c nv nf k).toInt ≤ 17179869184000000 := by
  have hp := pow_8 h.nb.2.2.1
  have := hp_b (nv := nv) (k := k) (BR c) (SH c) h.nb.2.2.1 (fun i hi => (h.pr.2.2.1 i hi).2) (2 ^ nf) hp
  unfold hopeG
  omega
theorem hb_N : ∀ k, k ≤ 3 → ∃ q, hbF k = lN q ∧ 0 < q ∧ q ≤ 1000000
  | 0, _ => ⟨1, rfl, by decide, by decide⟩
  | 1, _ => ⟨100, by decide, by decide, by decide⟩
  | 2, _ => ⟨10000, by decide, by decide, by decide⟩
  | 3, _ => ⟨1000000, by decide, by decide, by decide⟩
  | k + 4, h => absurd h (by omega)
/-- how long the greatest common divisor takes at most -/
def QG (k x y : Nat) : Prop := if k % 2 = 0 then y < 2 ^ (k / 2) else x < 2 ^ ((k + 1) / 2) ∧ y < x
theorem QG_0 {x y : Nat} (h : QG 0 x y) : y = 0 := by
  rw [QG, if_pos rfl] at h
  simpa using h
theorem QG_s {k x y : Nat} (h : QG (k + 1) x y) (hy : 0 < y) : QG k y (x % y) := by
  unfold QG at *
  have hm := Nat.mod_lt x hy
  by_cases e : k % 2 = 0
  · rw [if_pos e]
    rw [if_neg (by omega)] at h
    obtain ⟨h1, h2⟩ := h
    rw [show (k + 1 + 1) / 2 = k / 2 + 1 by omega, Nat.pow_succ] at h1
    have h3 := Nat.div_add_mod x y
    have h4 : 1 ≤ x / y := Nat.div_pos (by omega) hy
    have h5 : y * 1 ≤ y * (x / y) := Nat.mul_le_mul_left y h4
    omega
  · rw [if_neg e]
    rw [if_pos (by omega)] at h
    exact ⟨h, hm⟩
theorem part_loop (G : GX) (X : XC) {h : AH} {a bb : Int64} {t : Int32} {u1 u2 : Nat} (hu : u1 = 0 ∧ u2 = 0) {g : Int64} (hg : ¬ g < 1) (hans : comD (if 0 < a then a else -a) bb = g) : ∀ (k x y : Nat), x < 2 ^ 63 → y < 2 ^ 63 → QG k x y → gcdF k (lN x) (lN y) = g → WA X G RX10 cX10_part false (some .long) (qL fun x9 h1 => x9 = fracF a bb t ∧ h1 = h) 1 0 0 h u1 u2 9 [some (.long a), none, some (.long bb), none, some (.int t), some (.long (lN x)), none, some (.long (lN y)), none, none, none] [] := by
  obtain ⟨rfl, rfl⟩ := hu
  have hg0 : ¬ g = 0 := fun z => hg (by rw [z]; decide)
  intro k
  induction k with
  | zero =>
    intro x y hx hy hQ hG
    have e0 := QG_0 hQ
    subst e0
    have eg : lN x = g := hG
    refine A_lload dX10_part_9 rfl ?_
    refine A_lconst (v := 0) dX10_part_11 (by decide) ?_
    refine A_lcmp dX10_part_12 ?_
    refine A_if_eq 34 dX10_part_13 (by decide) (fun c13 => ?_) (fun c13 => ?_)
    · rw [eg]
      refine A_iload dX10_part_34 rfl ?_
      refine A_if_ne 43 dX10_part_36 (by decide) (fun c36 => ?_) (fun c36 => ?_)
      · refine A_lload_n dX10_part_43 rfl rfl ?_
        refine A_lload dX10_part_44 rfl ?_
        refine A_ldiv dX10_part_46 hg0 ?_
        exact A_lret dX10_part_47 ⟨by rw [fracF, hans, if_neg c36], rfl⟩ ⟨by decide, by decide⟩
      · refine A_lload_n dX10_part_39 rfl rfl ?_
        refine A_goto 44 dX10_part_40 (by decide) ?_
        refine A_lload dX10_part_44 rfl ?_
        refine A_ldiv dX10_part_46 hg0 ?_
        exact A_lret dX10_part_47 ⟨by rw [fracF, hans, if_pos c36], rfl⟩ ⟨by decide, by decide⟩
    · exact absurd ((lgc_eq _ _).mpr rfl) c13
  | succ k ih =>
    intro x y hx hy hQ hG
    rw [gcdF] at hG
    by_cases e0 : y = 0
    · subst e0
      rw [if_pos (show lN 0 = 0 from rfl)] at hG
      refine A_lload dX10_part_9 rfl ?_
      refine A_lconst (v := 0) dX10_part_11 (by decide) ?_
      refine A_lcmp dX10_part_12 ?_
      refine A_if_eq 34 dX10_part_13 (by decide) (fun c13 => ?_) (fun c13 => ?_)
      · rw [hG]
        refine A_iload dX10_part_34 rfl ?_
        refine A_if_ne 43 dX10_part_36 (by decide) (fun c36 => ?_) (fun c36 => ?_)
        · refine A_lload_n dX10_part_43 rfl rfl ?_
          refine A_lload dX10_part_44 rfl ?_
          refine A_ldiv dX10_part_46 hg0 ?_
          exact A_lret dX10_part_47 ⟨by rw [fracF, hans, if_neg c36], rfl⟩ ⟨by decide, by decide⟩
        · refine A_lload_n dX10_part_39 rfl rfl ?_
          refine A_goto 44 dX10_part_40 (by decide) ?_
          refine A_lload dX10_part_44 rfl ?_
          refine A_ldiv dX10_part_46 hg0 ?_
          exact A_lret dX10_part_47 ⟨by rw [fracF, hans, if_pos c36], rfl⟩ ⟨by decide, by decide⟩
      · exact absurd ((lgc_eq _ _).mpr rfl) c13
    · have n0 : ¬ lN y = 0 := fun z => e0 ((pk_lEQ (b := 0) (by omega) (by decide)).mp z)
      rw [if_neg n0, pk_lRem hx (by omega) hy] at hG
      have hml : x % y < 2 ^ 63 := Nat.lt_of_le_of_lt (Nat.mod_le _ _) hx
      refine A_lload dX10_part_9 rfl ?_
      refine A_lconst (v := 0) dX10_part_11 (by decide) ?_
      refine A_lcmp dX10_part_12 ?_
      refine A_if_eq 34 dX10_part_13 (by decide) (fun c13 => ?_) (fun c13 => ?_)
      · exact absurd ((lgc_eq _ _).mp c13) n0
      · refine A_lload dX10_part_16 rfl ?_
        refine A_lload dX10_part_18 rfl ?_
        refine A_lrem dX10_part_20 n0 ?_
        refine A_eqL (pk_lRem hx (by omega) hy) ?_
        refine A_lstore (lv1 := [_, _, _, _, _, _, _, _, _, _, _]) dX10_part_21 (Nat.le_of_ble_eq_true rfl) rfl rfl ?_
        refine A_lload dX10_part_23 rfl ?_
        refine A_lstore (lv1 := [_, _, _, _, _, _, _, _, _, _, _]) dX10_part_25 (Nat.le_of_ble_eq_true rfl) rfl rfl ?_
        refine A_lload dX10_part_27 rfl ?_
        refine A_lstore (lv1 := [_, _, _, _, _, _, _, _, _, _, _]) dX10_part_29 (Nat.le_of_ble_eq_true rfl) rfl rfl ?_
        refine A_goto 9 dX10_part_31 (by decide) ?_
        refine A_fg 9 (lv1 := [_, _, _, _, _, _, _, _, _, _, _]) rfl ?_
        exact ih y (x % y) hy hml (QG_s hQ (by omega)) hG

theorem gcd_p : ∀ (k x y : Nat), x < 2 ^ 63 → y < 2 ^ 63 → 0 < x ∨ (0 < y ∧ 0 < k) → ¬ gcdF k (lN x) (lN y) < 1
  | 0, x, y, hx, hy, h => by
    intro z
    have := (pk_lLT (b := 1) hx (by decide)).mp z
    omega
  | k + 1, x, y, hx, hy, h => by
    rw [gcdF]
    by_cases e : y = 0
    · subst e
      rw [if_pos (show lN 0 = 0 from rfl)]
      intro z
      have := (pk_lLT (b := 1) hx (by decide)).mp z
      omega
    · have n0 : ¬ lN y = 0 := fun z => e ((pk_lEQ (b := 0) (by omega) (by decide)).mp z)
      rw [if_neg n0, pk_lRem hx (by omega) hy]
      have hml : x % y < 2 ^ 63 := Nat.lt_of_le_of_lt (Nat.mod_le _ _) hx
      exact gcd_p k y (x % y) hy hml (Or.inl (by omega))
theorem abs_N {a : Int64} (h : -17179869184000000 ≤ a.toInt ∧ a.toInt ≤ 17179869184000000) : ∃ x, (if 0 < a then a else -a) = lN x ∧ x < 2 ^ 63 := by
  have h0 : (0 : Int64).toInt = 0 := rfl
  have hn : ¬ (if 0 < a then a else -a) < 0 := by
    split
    · next z => intro q; rw [Int64.lt_iff_toInt_lt] at z q; omega
    · next z =>
      intro q
      rw [Int64.lt_iff_toInt_lt] at z q
      have e : (-a).toInt = -a.toInt := by
        rw [Int64.toInt_neg]; exact Int.bmod_eq_of_le (by omega) (by omega)
      omega
  obtain ⟨k, hk, e⟩ := pk_lOf hn
  exact ⟨k, e, hk⟩
theorem k_part (G : GX) {h : AH} {a bb : Int64} {t : Int32} {q : Nat} (ha : -17179869184000000 ≤ a.toInt ∧ a.toInt ≤ 17179869184000000) (hb : bb = lN q) (hq0 : 0 < q) (hq1 : q ≤ 1000000) : MA G 1 yX10_part cX10_part 11 (some .long) 0 0 [.long a, .long bb, .int t] h (qL fun x9 h1 => x9 = fracF a bb t ∧ h1 = h) := by
  refine MA.of (own := RX10) false [some (.long a), none, some (.long bb), none, some (.int t), none, none, none, none, none, none] (by decide +kernel) rfl (fun h => by cases h) (Nat.le_of_ble_eq_true rfl) rfl (fun X => ?_)
  refine A_lload_n dX10_part_0 rfl rfl ?_
  refine A_absL dX10_part_1 w_1606 (by decide) (Nat.le_of_ble_eq_true rfl) ⟨by decide, by decide⟩ ?_
  refine A_lstore (lv1 := [_, _, _, _, _, _, _, _, _, _, _]) dX10_part_4 (Nat.le_of_ble_eq_true rfl) rfl rfl ?_
  refine A_lload_n dX10_part_6 rfl rfl ?_
  refine A_lstore (lv1 := [_, _, _, _, _, _, _, _, _, _, _]) dX10_part_7 (Nat.le_of_ble_eq_true rfl) rfl rfl ?_
  obtain ⟨x, ex, hx⟩ := abs_N ha
  have hgp := gcd_p 200 x q hx (by omega) (Or.inr ⟨by omega, by decide⟩)
  have eC : comD (if 0 < a then a else -a) bb = gcdF 200 (lN x) (lN q) := by rw [comD, ex, hb, if_neg hgp]
  rw [show (if 0 < a then a else -a) = lN x from ex, hb] at eC
  rw [ex, show bb = lN q from hb]
  refine part_loop G X ⟨rfl, rfl⟩ hgp ?_ 200 x q hx (by omega) ?_ rfl
  · rw [ex]; exact eC
  · rw [QG, if_pos (by decide)]
    exact Nat.lt_of_le_of_lt hq1 (by decide)
