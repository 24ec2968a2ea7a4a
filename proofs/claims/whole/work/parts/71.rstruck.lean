/-! THE REFERENCE: struck, pays, law -/
theorem ptD_out {d : Nat → Int32} {nv : Nat} {law : Int32} {v j : Nat} (hv : nv ≤ 6) (hj : j < 6 * v ∨ 6 * v + 6 ≤ j) : ∀ k wa dn p, ptD d nv law v k wa dn p j = p j
  | 0, _, _, _ => rfl
  | k + 1, wa, dn, p => by
    rw [ptD]
    rcases nextF_ix (d := d) (law := law) (done := dn) (v := v) nv with e | ⟨t, ht, e⟩
    · rw [if_pos e]
    · split
      · rfl
      · rw [ptD_out hv hj k, e, tcl_nI (by omega), pk_un (by omega)]
theorem stD_out {d w : Nat → Int32} {nv : Nat} {law : Int32} {v j : Nat} {p : Nat → Int32} (hv : nv ≤ 6) (hj : j < 6 * v ∨ 6 * v + 6 ≤ j) : stD d w nv law v p j = p j := by
  unfold stD
  split
  · have R := forR_inv (f := ppD d w nv v) (fun _ q => q j = p j) nv (fun i q hi hq => by rw [ppD, pk_un (by omega)]; exact hq) nv 0 p (by omega) rfl
    exact R
  · exact ptD_out hv hj _ _ _ _
theorem strike_vs (G : GX) (X : XC) {b : Nat} {m : CT} {ml : Nat → Nat → Int64} {r : Nat → Option AE} {n nv nc nf nl wk l : Nat} {d w T : Nat → Int32} {u1 u2 : Nat} (hu : u1 = 0 ∧ u2 = 0) (hI : IM m nv nc nf nl wk) (hd : m 13 = d) (hw : ∀ v, v < nv → m 7 v = w v) (hD : DOk d) (hl3 : l < 3) (hwb : ∀ v, v < nv → 0 ≤ (w v).toInt ∧ (w v).toInt ≤ 9999) : ∀ (k v : Nat) (p : Nat → Int32), v + k = nv → (∀ j, 6 * v ≤ j → p j = 0) → forR (stD d w nv (nI l)) v k p = T → WA X G RX10 cX10_strikes false none (qV fun h1 => h1 = HM b (st1 m 16 T) ml r n) 6 0 0 (HM b (st1 m 16 (p)) ml r n) u1 u2 27 [some (.ref b), some (.int (nI l)), some (.int (nI (v))), none, none, none, none, none] [] := by
  obtain ⟨rfl, rfl⟩ := hu
  obtain ⟨hv, hv6, hc, hc8, hf, hf3, hl, hl8, hw_, hw30, gC, gL⟩ := id hI
  have hM : ∀ p : Nat → Int32, IM (st1 m 16 p) nv nc nf nl wk := fun p => hI.to (st1_ne (by decide))
  have e13 : ∀ p : Nat → Int32, (st1 m 16 p) 13 = d := fun p => (st1_ne (by decide)).trans hd
  have e7 : ∀ p : Nat → Int32, (st1 m 16 p) 7 = m 7 := fun p => st1_ne (by decide)
  have e1_ : ∀ p : Nat → Int32, (st1 m 16 p) 1 = m 1 := fun p => st1_ne (by decide)
  intro k
  induction k with
  | zero =>
    intro v p hk hz hT
    refine A_iload_n dX10_strikes_27 rfl rfl ?_
    refine A_aload_n dX10_strikes_28 rfl rfl ?_
    refine A_callVi dX10_strikes_29 m_X10_89 cb_X10_villages (As := []) rfl HM_at0 rfl (k_villages G) rfl ⟨by decide, by decide⟩ (Nat.le_of_ble_eq_true rfl) ⟨by decide, by decide⟩ (fun x29 h29 hq => ?_)
    obtain ⟨rfl, rfl⟩ := hq
    refine A_icmp_ge 168 dX10_strikes_32 (by decide) (fun c32 => ?_) (fun c32 => ?_)
    · exact A_vret dX10_strikes_168 (by rw [← hT]; rfl) ⟨by decide, by decide⟩
    · exact absurd (by rw [e1_, hv]; exact nI_le (by omega) (by omega)) c32
  | succ k ih =>
    intro v p hk hz hT
    have hv9 : v < nv := by omega
    refine A_iload_n dX10_strikes_27 rfl rfl ?_
    refine A_aload_n dX10_strikes_28 rfl rfl ?_
    refine A_callVi dX10_strikes_29 m_X10_89 cb_X10_villages (As := []) rfl HM_at0 rfl (k_villages G) rfl ⟨by decide, by decide⟩ (Nat.le_of_ble_eq_true rfl) ⟨by decide, by decide⟩ (fun x29 h29 hq => ?_)
    obtain ⟨rfl, rfl⟩ := hq
    refine A_icmp_ge 168 dX10_strikes_32 (by decide) (fun c32 => ?_) (fun c32 => ?_)
    · exact absurd c32 (by rw [e1_, hv]; exact nI_ge (by omega) (by omega))
    · refine A_aload_n dX10_strikes_35 rfl rfl ?_
      refine A_iload_n dX10_strikes_36 rfl rfl ?_
      refine A_callVi dX10_strikes_37 m_X10_427 cb_X10_allDebts (As := [_]) rfl HM_at0 rfl (k_allDebts G (hM _) hv9) rfl ⟨by decide, by decide⟩ (Nat.le_of_ble_eq_true rfl) ⟨by decide, by decide⟩ (fun x37 h37 hq => ?_)
      obtain ⟨rfl, rfl⟩ := hq
      rw [e13]
      refine A_istore_n (lv1 := [_, _, _, _, _, _, _, _]) dX10_strikes_40 rfl (Nat.le_of_ble_eq_true rfl) rfl rfl ?_
      refine A_aload_n dX10_strikes_41 rfl rfl ?_
      refine A_get dX10_strikes_42 f_X10_34 HM_at0 rfl ?_
      refine A_iload_n dX10_strikes_45 rfl rfl ?_
      refine A_ialdK (i := v) dX10_strikes_46 (HM_at (by decide)) rfl (by omega) (by decide) ?_
      refine A_eqI (y := w v) (by rw [e7]; exact hw v hv9) ?_
      refine A_istore (lv1 := [_, _, _, _, _, _, _, _]) dX10_strikes_47 (Nat.le_of_ble_eq_true rfl) rfl rfl ?_
      refine A_iconst (v := 0) dX10_strikes_49 (by decide) ?_
      refine A_istore (lv1 := [_, _, _, _, _, _, _, _]) dX10_strikes_50 (Nat.le_of_ble_eq_true rfl) rfl rfl ?_
      refine A_aload_n dX10_strikes_52 rfl rfl ?_
      refine A_iload_n dX10_strikes_53 rfl rfl ?_
      refine A_iload_n dX10_strikes_54 rfl rfl ?_
      refine A_iconst (v := 0) dX10_strikes_55 (by decide) ?_
      refine A_callVi dX10_strikes_56 m_X10_430 cb_X10_nextPaid (As := [_, _, _]) rfl HM_at0 rfl (k_nextPaid G (hM _) hv9 (by rw [e13]; exact hD)) rfl ⟨by decide, by decide⟩ (Nat.le_of_ble_eq_true rfl) ⟨by decide, by decide⟩ (fun x56 h56 hq => ?_)
      obtain ⟨rfl, rfl⟩ := hq
      rw [e13]
      refine A_istore (lv1 := [_, _, _, _, _, _, _, _]) dX10_strikes_59 (Nat.le_of_ble_eq_true rfl) rfl rfl ?_
      have nx : ∀ (all rest seen : Int32), WA X G RX10 cX10_strikes false none (qV fun h1 => h1 = HM b (st1 m 16 T) ml r n) 6 0 0 (HM b (st1 m 16 (stD d w nv (nI l) v p)) ml r n) 0 0 162 [some (.ref b), some (.int (nI l)), some (.int (nI v)), some (.int all), some (.int rest), some (.int seen), some (.int (-1)), none] [] := by
        intro all rest seen
        refine A_inc 1 (lv1 := [_, _, _, _, _, _, _, _]) dX10_strikes_162 rfl (by decide) rfl rfl ?_
        refine A_goto 27 dX10_strikes_165 (by decide) ?_
        refine A_fg 3 (lv1 := [_, _, _, _, _, _, _, _]) rfl ?_
        refine A_fg 4 (lv1 := [_, _, _, _, _, _, _, _]) rfl ?_
        refine A_fg 5 (lv1 := [_, _, _, _, _, _, _, _]) rfl ?_
        refine A_fg 6 (lv1 := [_, _, _, _, _, _, _, _]) rfl ?_
        rw [nI_1]
        exact ih (v + 1) _ (by omega) (fun j hj => by rw [stD_out hv6 (by omega)]; exact hz j (by omega)) hT
      by_cases e2 : l = 2
      · refine strike_pp G X ⟨rfl, rfl⟩ hI hd hw hD hl3 hv9 e2 (hwb v hv9) (fun rest seen => nx _ rest seen) nv 0 (w v) p (by omega) (fun _ => ?_) (fun t _ _ => hz _ (by omega)) ?_
        · rw [aDF, T0]; omega
        · subst e2; rw [stD, if_pos (show nI 2 = 2 from rfl)]
      · have nl2 : ¬ nI l = 2 := fun z => e2 ((nI_eq (b := 2) (by omega) (by decide)).mp z)
        refine strike_pt G X ⟨rfl, rfl⟩ hI hd hw hD hl3 hv9 e2 (fun rest seen => nx _ rest seen) nv 0 (w v) p (by decide) (by rw [cU_0]; exact Nat.le_refl _) ?_
        rw [stD, if_neg nl2]; rfl

theorem strike_z (G : GX) (X : XC) {b : Nat} {m : CT} {ml : Nat → Nat → Int64} {r : Nat → Option AE} {n nv nc nf nl wk l : Nat} {d w T : Nat → Int32} {u1 u2 : Nat} (hu : u1 = 0 ∧ u2 = 0) (hI : IM m nv nc nf nl wk) (hd : m 13 = d) (hw : ∀ v, v < nv → m 7 v = w v) (hD : DOk d) (hl3 : l < 3) (hwb : ∀ v, v < nv → 0 ≤ (w v).toInt ∧ (w v).toInt ≤ 9999) (hT : forR (stD d w nv (nI l)) 0 nv (fun _ => 0) = T) : ∀ (k i : Nat) (g : Nat → Int32), i + k = 36 → (∀ j, j < i → g j = 0) → WA X G RX10 cX10_strikes false none (qV fun h1 => h1 = HM b (st1 m 16 T) ml r n) 6 0 0 (HM b (st1 m 16 (g)) ml r n) u1 u2 6 [some (.ref b), some (.int (nI l)), some (.int (nI (i))), none, none, none, none, none] [] := by
  obtain ⟨rfl, rfl⟩ := hu
  intro k
  induction k with
  | zero =>
    intro i g hk hg
    have e9 : i = 36 := by omega
    subst e9
    refine A_iload_n dX10_strikes_6 rfl rfl ?_
    refine A_bipush (v := 36) dX10_strikes_7 (by decide) ?_
    refine A_icmp_ge 25 dX10_strikes_9 (by decide) (fun c9 => ?_) (fun c9 => ?_)
    · refine A_iconst (v := 0) dX10_strikes_25 (by decide) ?_
      refine A_istore_n (lv1 := [_, _, _, _, _, _, _, _]) dX10_strikes_26 rfl (Nat.le_of_ble_eq_true rfl) rfl rfl ?_
      refine WA_rowM (k := 16) (fun _ => 0) (by decide) (fun _ => rfl) (fun i hi => by rw [st1_eq]; exact hg i hi) ?_
      rw [st1_st1]
      exact strike_vs G X ⟨rfl, rfl⟩ hI hd hw hD hl3 hwb nv 0 _ (by omega) (fun j _ => rfl) hT
    · exact absurd (by decide) c9
  | succ k ih =>
    intro i g hk hg
    refine A_iload_n dX10_strikes_6 rfl rfl ?_
    refine A_bipush (v := 36) dX10_strikes_7 (by decide) ?_
    refine A_icmp_ge 25 dX10_strikes_9 (by decide) (fun c9 => ?_) (fun c9 => ?_)
    · exact absurd c9 (nI_ge (b := 36) (by omega) (by decide))
    · refine A_aload_n dX10_strikes_12 rfl rfl ?_
      refine A_get dX10_strikes_13 f_X10_64 HM_at0 rfl ?_
      refine A_iload_n dX10_strikes_16 rfl rfl ?_
      refine A_iconst (v := 0) dX10_strikes_17 (by decide) ?_
      refine A_iastMK (i := i) dX10_strikes_18 (by decide) (fun _ => rfl) rfl (by omega) (by decide) ?_
      refine A_inc 1 (lv1 := [_, _, _, _, _, _, _, _]) dX10_strikes_19 rfl (by decide) rfl rfl ?_
      refine A_goto 6 dX10_strikes_22 (by decide) ?_
      rw [nI_1, st1M]
      exact ih (i + 1) _ (by omega) (fun j hj => by by_cases e : j = i; (subst e; rw [pk_us]); (rw [pk_un e]; exact hg j (by omega)))

theorem k_strikes (G : GX) {b : Nat} {c m : CT} {ml : Nat → Nat → Int64} {r : Nat → Option AE} {n : Nat} {nv nc nf nl wk : Nat} {l : Nat} (h : BL nv nc nf nl wk c m) (hl3_ : l < 3) : MA G 6 yX10_strikes cX10_strikes 8 none 0 0 [.ref b, .int (nI l)] (HM b m ml r n) (qV fun h1 => h1 = HM b (st1 (st1 (runM 7 m) 13 (dRow c)) 16 (stRow c nv (nI l))) ml r n) := by
  refine MA.of (own := RX10) false [some (.ref b), some (.int (nI l)), none, none, none, none, none, none] (by decide +kernel) rfl (fun h => by cases h) (Nat.le_of_ble_eq_true rfl) rfl (fun X => ?_)
  have hX := h.ix
  obtain ⟨xv, xv6, xc, xc8, xf, xf3, xl, xl8, xw, xw30, xC, xL⟩ := id hX
  have hI := h.im
  obtain ⟨hv, hv6, hc, hc8, hf, hf3, hl, hl8, hw, hw30, gC, gL⟩ := id hI
  have hT := h.tm
  obtain ⟨S, D⟩ := yr_sim h
  refine A_aload_n dX10_strikes_0 rfl rfl ?_
  refine A_callVv dX10_strikes_1 m_X10_409 cb_X10_fillDebts (As := []) rfl HM_at0 rfl (k_fillDebts G h) rfl ⟨by decide, by decide⟩ (Nat.le_of_ble_eq_true rfl) ⟨by decide, by decide⟩ (fun h1 hq => ?_)
  obtain rfl := hq
  refine A_iconst (v := 0) dX10_strikes_4 (by decide) ?_
  refine A_istore_n (lv1 := [_, _, _, _, _, _, _, _]) dX10_strikes_5 rfl (Nat.le_of_ble_eq_true rfl) rfl rfl ?_
  refine WA_h (congrArg (fun z => HM b z ml r n) (show _ = st1 (st1 (runM 7 m) 13 (dRow c)) 16 ((st1 (runM 7 m) 13 (dRow c)) 16) from st1_self.symm)) ?_
  exact strike_z G X ⟨rfl, rfl⟩ (hI.to ((st1_ne (by decide)).trans runM_R.w)) st1_eq (fun v hv => by rw [st1_ne (by decide)]; exact (S.d1 v hv).symm) (dRow_ok h) hl3_ (fun v hv => by
    have h1 := D.2.1 v hv
    have h2 := (D.1.2.2.1 v hv).1
    omega) rfl 36 0 _ (by omega) (fun j hj => absurd hj (by omega))

def duM (d : Nat → Int32) (v : Nat) : Nat → Int32
  | 0 => 0
  | f + 1 => duM d v f + d (6 * f + v)
def ruM (p d : Nat → Int32) (nv : Nat) : Nat → Int32
  | 0 => 0
  | v + 1 => ruM p d nv v ||| (if 2 * duM p v nv < duM d v nv then (1 <<< (nI v &&& 31)) else 0)
theorem duM_e {d : Nat → Int32} {v : Nat} : ∀ f, duM d v f = dueF d v f
  | 0 => rfl
  | f + 1 => by rw [duM, dueF, duM_e f, Nat.mul_comm]
theorem ruM_e {c : CT} {nv : Nat} : ∀ v, ruM (c 52) (c 48) nv v = ruF c nv v
  | 0 => rfl
  | v + 1 => by
    rw [ruM, ruF, ruM_e v, duM_e, duM_e]
    split
    · rfl
    · exact or_0 _
theorem or_b6 : ∀ i, i < 6 → ∀ x, x < 2 ^ i → (nI x ||| ((1 : Int32) <<< (nI i &&& 31))) = nI (x + 2 ^ i) := by decide +kernel
theorem ruM_N {p d : Nat → Int32} {nv : Nat} : ∀ v, v ≤ 6 → ∃ s, s < 2 ^ v ∧ ruM p d nv v = nI s
  | 0, _ => ⟨0, by decide, rfl⟩
  | v + 1, h => by
    obtain ⟨s, h1, h2⟩ := ruM_N (p := p) (d := d) (nv := nv) v (by omega)
    rw [ruM, h2, Nat.pow_succ]
    split
    · exact ⟨s + 2 ^ v, by omega, or_b6 v (by omega) s h1⟩
    · exact ⟨s, by omega, or_0 _⟩
theorem k_ruined (G : GX) {b : Nat} {m : CT} {ml : Nat → Nat → Int64} {r : Nat → Option AE} {n : Nat} {nv nc nf nl wk : Nat} (hI : IM m nv nc nf nl wk) : MA G 1 yX10_ruined cX10_ruined 6 (some .int) 0 0 [.ref b] (HM b m ml r n) (qI fun x9 h1 => x9 = ruM (m 16) (m 13) nv nv ∧ h1 = HM b m ml r n) := by
  refine MA.of (own := RX10) false [some (.ref b), none, none, none, none, none] (by decide +kernel) rfl (fun h => by cases h) (Nat.le_of_ble_eq_true rfl) rfl (fun X => ?_)
  obtain ⟨hv, hv6, hc, hc8, hf, hf3, hl, hl8, hw, hw30, gC, gL⟩ := id hI
  have inner : ∀ (v : Nat) (hv9 : v < nv) (nx : WA X G RX10 cX10_ruined false (some .int) (qI fun x9 h1 => x9 = ruM (m 16) (m 13) nv nv ∧ h1 = HM b m ml r n) 1 0 0 (HM b m ml r n) 0 0 62 [some (.ref b), some (.int (ruM (m 16) (m 13) nv v)), some (.int (nI v)), some (.int (duM (m 13) v nv)), some (.int (duM (m 16) v nv)), some (.int (nI nv))] []) (k i : Nat), i + k = nv → WA X G RX10 cX10_ruined false (some .int) (qI fun x9 h1 => x9 = ruM (m 16) (m 13) nv nv ∧ h1 = HM b m ml r n) 1 0 0 (HM b m ml r n) 0 0 20 [some (.ref b), some (.int (ruM (m 16) (m 13) nv v)), some (.int (nI v)), some (.int (duM (m 13) v i)), some (.int (duM (m 16) v i)), some (.int (nI i))] [] := by
    intro v hv9 nx k
    induction k with
    | zero =>
      intro i hk
      have e9 : i = nv := by omega
      subst e9
      refine A_iload dX10_ruined_20 rfl ?_
      refine A_aload_n dX10_ruined_22 rfl rfl ?_
      refine A_callVi dX10_ruined_23 m_X10_89 cb_X10_villages (As := []) rfl HM_at0 rfl (k_villages G) rfl ⟨by decide, by decide⟩ (Nat.le_of_ble_eq_true rfl) ⟨by decide, by decide⟩ (fun x23 h23 hq => ?_)
      obtain ⟨rfl, rfl⟩ := hq
      refine A_icmp_ge 62 dX10_ruined_26 (by decide) (fun c26 => ?_) (fun c26 => ?_)
      · exact nx
      · exact absurd (by rw [hv]; exact nI_le (Nat.le_refl _) (by omega)) c26
    | succ k ih =>
      intro i hk
      refine A_iload dX10_ruined_20 rfl ?_
      refine A_aload_n dX10_ruined_22 rfl rfl ?_
      refine A_callVi dX10_ruined_23 m_X10_89 cb_X10_villages (As := []) rfl HM_at0 rfl (k_villages G) rfl ⟨by decide, by decide⟩ (Nat.le_of_ble_eq_true rfl) ⟨by decide, by decide⟩ (fun x23 h23 hq => ?_)
      obtain ⟨rfl, rfl⟩ := hq
      refine A_icmp_ge 62 dX10_ruined_26 (by decide) (fun c26 => ?_) (fun c26 => ?_)
      · exact absurd c26 (by rw [hv]; exact nI_ge (by omega) (by omega))
      · refine A_iload_n dX10_ruined_29 rfl rfl ?_
        refine A_aload_n dX10_ruined_30 rfl rfl ?_
        refine A_iload dX10_ruined_31 rfl ?_
        refine A_iload_n dX10_ruined_33 rfl rfl ?_
        refine A_callVi dX10_ruined_34 m_X10_400 cb_X10_debt (As := [_, _]) rfl HM_at0 rfl (k_debt G (by omega) (by omega)) rfl ⟨by decide, by decide⟩ (Nat.le_of_ble_eq_true rfl) ⟨by decide, by decide⟩ (fun x34 h34 hq => ?_)
        obtain ⟨rfl, rfl⟩ := hq
        refine A_iadd dX10_ruined_37 ?_
        refine A_istore_n (lv1 := [_, _, _, _, _, _]) dX10_ruined_38 rfl (Nat.le_of_ble_eq_true rfl) rfl rfl ?_
        refine A_iload dX10_ruined_39 rfl ?_
        refine A_aload_n dX10_ruined_41 rfl rfl ?_
        refine A_get dX10_ruined_42 f_X10_64 HM_at0 rfl ?_
        refine A_bipush (v := 6) dX10_ruined_45 (by decide) ?_
        refine A_iload dX10_ruined_47 rfl ?_
        refine A_imul dX10_ruined_49 ?_
        refine A_iload_n dX10_ruined_50 rfl rfl ?_
        refine A_iadd dX10_ruined_51 ?_
        refine A_ialdK (i := ((6 * i) + v)) dX10_ruined_52 (HM_at (by decide)) (ixA (ixU rfl rfl) rfl) (by omega) (by decide) ?_
        refine A_iadd dX10_ruined_53 ?_
        refine A_istore (lv1 := [_, _, _, _, _, _]) dX10_ruined_54 (Nat.le_of_ble_eq_true rfl) rfl rfl ?_
        refine A_inc 1 (lv1 := [_, _, _, _, _, _]) dX10_ruined_56 rfl (by decide) rfl rfl ?_
        refine A_goto 20 dX10_ruined_59 (by decide) ?_
        rw [nI_1]
        exact ih (i + 1) (by omega)
  have outer : ∀ (k v : Nat), v + k = nv → WA X G RX10 cX10_ruined false (some .int) (qI fun x9 h1 => x9 = ruM (m 16) (m 13) nv nv ∧ h1 = HM b m ml r n) 1 0 0 (HM b m ml r n) 0 0 4 [some (.ref b), some (.int (ruM (m 16) (m 13) nv v)), some (.int (nI v)), none, none, none] [] := by
    intro k
    induction k with
    | zero =>
      intro v hk
      refine A_iload_n dX10_ruined_4 rfl rfl ?_
      refine A_aload_n dX10_ruined_5 rfl rfl ?_
      refine A_callVi dX10_ruined_6 m_X10_89 cb_X10_villages (As := []) rfl HM_at0 rfl (k_villages G) rfl ⟨by decide, by decide⟩ (Nat.le_of_ble_eq_true rfl) ⟨by decide, by decide⟩ (fun x6 h6 hq => ?_)
      obtain ⟨rfl, rfl⟩ := hq
      refine A_icmp_ge 86 dX10_ruined_9 (by decide) (fun c9 => ?_) (fun c9 => ?_)
      · refine A_iload_n dX10_ruined_86 rfl rfl ?_
        exact A_iret dX10_ruined_87 ⟨by rw [show v = nv by omega], rfl⟩ ⟨by decide, by decide⟩
      · exact absurd (by rw [hv]; exact nI_le (by omega) (by omega)) c9
    | succ k ih =>
      intro v hk
      refine A_iload_n dX10_ruined_4 rfl rfl ?_
      refine A_aload_n dX10_ruined_5 rfl rfl ?_
      refine A_callVi dX10_ruined_6 m_X10_89 cb_X10_villages (As := []) rfl HM_at0 rfl (k_villages G) rfl ⟨by decide, by decide⟩ (Nat.le_of_ble_eq_true rfl) ⟨by decide, by decide⟩ (fun x6 h6 hq => ?_)
      obtain ⟨rfl, rfl⟩ := hq
      refine A_icmp_ge 86 dX10_ruined_9 (by decide) (fun c9 => ?_) (fun c9 => ?_)
      · exact absurd c9 (by rw [hv]; exact nI_ge (by omega) (by omega))
      · refine A_iconst (v := 0) dX10_ruined_12 (by decide) ?_
        refine A_istore_n (lv1 := [_, _, _, _, _, _]) dX10_ruined_13 rfl (Nat.le_of_ble_eq_true rfl) rfl rfl ?_
        refine A_iconst (v := 0) dX10_ruined_14 (by decide) ?_
        refine A_istore (lv1 := [_, _, _, _, _, _]) dX10_ruined_15 (Nat.le_of_ble_eq_true rfl) rfl rfl ?_
        refine A_iconst (v := 0) dX10_ruined_17 (by decide) ?_
        refine A_istore (lv1 := [_, _, _, _, _, _]) dX10_ruined_18 (Nat.le_of_ble_eq_true rfl) rfl rfl ?_
        refine inner v (by omega) ?_ nv 0 (by omega)
        refine A_iload_n dX10_ruined_62 rfl rfl ?_
        refine A_iconst (v := 2) dX10_ruined_63 (by decide) ?_
        refine A_iload dX10_ruined_64 rfl ?_
        refine A_imul dX10_ruined_66 ?_
        refine A_iload_n dX10_ruined_67 rfl rfl ?_
        refine A_icmp_ge 77 dX10_ruined_68 (by decide) (fun c68 => ?_) (fun c68 => ?_)
        · refine A_iconst (v := 0) dX10_ruined_77 (by decide) ?_
          refine A_ior dX10_ruined_78 ?_
          refine A_eqI (y := ruM (m 16) (m 13) nv (v + 1)) (by rw [ruM, if_neg (Int32.not_lt.mpr c68)]) ?_
          refine A_istore_n (lv1 := [_, _, _, _, _, _]) dX10_ruined_79 rfl (Nat.le_of_ble_eq_true rfl) rfl rfl ?_
          refine A_inc 1 (lv1 := [_, _, _, _, _, _]) dX10_ruined_80 rfl (by decide) rfl rfl ?_
          refine A_goto 4 dX10_ruined_83 (by decide) ?_
          refine A_fg 3 (lv1 := [_, _, _, _, _, _]) rfl ?_
          refine A_fg 4 (lv1 := [_, _, _, _, _, _]) rfl ?_
          refine A_fg 5 (lv1 := [_, _, _, _, _, _]) rfl ?_
          rw [nI_1]
          exact ih (v + 1) (by omega)
        · refine A_iconst (v := 1) dX10_ruined_71 (by decide) ?_
          refine A_iload_n dX10_ruined_72 rfl rfl ?_
          refine A_ishl dX10_ruined_73 ?_
          refine A_goto 78 dX10_ruined_74 (by decide) ?_
          refine A_ior dX10_ruined_78 ?_
          refine A_eqI (y := ruM (m 16) (m 13) nv (v + 1)) (by rw [ruM, if_pos (Int32.not_le.mp c68)]) ?_
          refine A_istore_n (lv1 := [_, _, _, _, _, _]) dX10_ruined_79 rfl (Nat.le_of_ble_eq_true rfl) rfl rfl ?_
          refine A_inc 1 (lv1 := [_, _, _, _, _, _]) dX10_ruined_80 rfl (by decide) rfl rfl ?_
          refine A_goto 4 dX10_ruined_83 (by decide) ?_
          refine A_fg 3 (lv1 := [_, _, _, _, _, _]) rfl ?_
          refine A_fg 4 (lv1 := [_, _, _, _, _, _]) rfl ?_
          refine A_fg 5 (lv1 := [_, _, _, _, _, _]) rfl ?_
          rw [nI_1]
          exact ih (v + 1) (by omega)
  refine A_iconst (v := 0) dX10_ruined_0 (by decide) ?_
  refine A_istore_n (lv1 := [_, _, _, _, _, _]) dX10_ruined_1 rfl (Nat.le_of_ble_eq_true rfl) rfl rfl ?_
  refine A_iconst (v := 0) dX10_ruined_2 (by decide) ?_
  refine A_istore_n (lv1 := [_, _, _, _, _, _]) dX10_ruined_3 rfl (Nat.le_of_ble_eq_true rfl) rfl rfl ?_
  exact outer nv 0 (by omega)

def bF (s : Nat) : Nat → Nat
  | 0 => 0
  | k + 1 => bF s k + (if s.testBit k then 1 else 0)
theorem bF_e : ∀ s, s < 64 → bitC (nI s) = nI (bF s 6) := by decide +kernel
theorem bF_le {s : Nat} : ∀ k, bF s k ≤ k
  | 0 => Nat.le_refl _
  | k + 1 => by have := bF_le (s := s) k; rw [bF]; split <;> omega
theorem k_bits (G : GX) {h : AH} {s : Nat} (hs : s < 64) : MA G 0 yX10_bits cX10_bits 3 (some .int) 0 0 [.int (nI s)] h (qI fun x9 h1 => x9 = nI (bF s 6) ∧ h1 = h) := by
  refine MA.of (own := RX10) false [some (.int (nI s)), none, none] (by decide +kernel) rfl (fun h => by cases h) (Nat.le_of_ble_eq_true rfl) rfl (fun X => ?_)
  have loop : ∀ (k i : Nat) , i + k = 6 → WA X G RX10 cX10_bits false (some .int) (qI fun x9 h1 => x9 = nI (bF s 6) ∧ h1 = h) 0 0 0 (h) 0 0 4 [some (.int (nI s)), some (.int (nI (bF s i))), some (.int (nI i))] [] := by
    intro k
    induction k with
    | zero =>
      intro i  hk 
      refine A_iload_n dX10_bits_4 rfl rfl ?_
      refine A_bipush (v := 6) dX10_bits_5 (by decide) ?_
      refine A_icmp_ge 24 dX10_bits_7 (by decide) (fun c7 => ?_) (fun c7 => ?_)
      · refine A_iload_n dX10_bits_24 rfl rfl ?_
        exact A_iret dX10_bits_25 ⟨by rw [show i = 6 by omega], rfl⟩ ⟨by decide, by decide⟩
      · exact absurd (nI_le (a := 6) (b := i) (by omega) (by omega)) c7
    | succ k ih =>
      intro i  hk 
      have hi : i < 6 := by omega
      refine A_iload_n dX10_bits_4 rfl rfl ?_
      refine A_bipush (v := 6) dX10_bits_5 (by decide) ?_
      refine A_icmp_ge 24 dX10_bits_7 (by decide) (fun c7 => ?_) (fun c7 => ?_)
      · exact absurd c7 (nI_ge (b := 6) (by omega) (by decide))
      · refine A_iload_n dX10_bits_10 rfl rfl ?_
        refine A_iload_n dX10_bits_11 rfl rfl ?_
        refine A_iload_n dX10_bits_12 rfl rfl ?_
        refine A_ishr dX10_bits_13 ?_
        refine A_iconst (v := 1) dX10_bits_14 (by decide) ?_
        refine A_iand dX10_bits_15 ?_
        refine A_eqI (sh6 s hs i (by omega)) ?_
        refine A_iadd dX10_bits_16 ?_
        refine A_eqI (y := nI (bF s (i + 1))) (by rw [nI_add, bF]) ?_
        refine A_istore_n (lv1 := [_, _, _]) dX10_bits_17 rfl (Nat.le_of_ble_eq_true rfl) rfl rfl ?_
        refine A_inc 1 (lv1 := [_, _, _]) dX10_bits_18 rfl (by decide) rfl rfl ?_
        refine A_goto 4 dX10_bits_21 (by decide) ?_
        rw [nI_1]
        exact ih (i + 1) (by omega)
  refine A_iconst (v := 0) dX10_bits_0 (by decide) ?_
  refine A_istore_n (lv1 := [_, _, _]) dX10_bits_1 rfl (Nat.le_of_ble_eq_true rfl) rfl rfl ?_
  refine A_iconst (v := 0) dX10_bits_2 (by decide) ?_
  refine A_istore_n (lv1 := [_, _, _]) dX10_bits_3 rfl (Nat.le_of_ble_eq_true rfl) rfl rfl ?_
  exact loop 6 0 (by omega)

theorem sameD16 {m : CT} {g f : Nat → Int32} : kM m (st1 (st1 (runM 7 m) 13 g) 16 f) := sameD13.tr ⟨fun l x y => st1_ne (by omega), fun j _ => by rw [st1_ne (by decide)]⟩
theorem st_16 {m : CT} {g f : Nat → Int32} : (st1 (st1 m 13 g) 16 f) 16 = f ∧ (st1 (st1 m 13 g) 16 f) 13 = g ∧ (st1 (st1 m 13 g) 16 f) 1 = m 1 := ⟨st1_eq, by rw [st1_ne (by decide), st1_eq], by rw [st1_ne (by decide), st1_ne (by decide)]⟩
theorem ru_sim {nv nc nf nl wk : Nat} {c : CT} {law : Int32} (hI : IX c nv nc nf nl wk) (v : Nat) : ruM (stRow c nv law) (dRow c) nv v = ruF (strikeF law (dbF c)) nv v := by
  rw [← ruM_e, stRow_e hI, strikeF_s 48 (by decide), dRow_e]

theorem k_struck (G : GX) {b : Nat} {c m : CT} {ml : Nat → Nat → Int64} {r : Nat → Option AE} {n : Nat} {nv nc nf nl wk : Nat} {law t : Int32} (h : BL nv nc nf nl wk c m) : MA G 7 yX10_struck cX10_struck 5 (some .int) 0 0 [.ref b, .int law, .int t] (HM b m ml r n) (qI fun x9 h1 => x9 = struckA c nv law t ∧ ∃ m1 ml1, h1 = HM b m1 ml1 r n ∧ KM m ml m1 ml1) := by
  refine MA.of (own := RX10) false [some (.ref b), some (.int law), some (.int t), none, none] (by decide +kernel) rfl (fun h => by cases h) (Nat.le_of_ble_eq_true rfl) rfl (fun X => ?_)
  have hX := h.ix
  obtain ⟨xv, xv6, xc, xc8, xf, xf3, xl, xl8, xw, xw30, xC, xL⟩ := id hX
  have hI := h.im
  obtain ⟨hv, hv6, hc, hc8, hf, hf3, hl, hl8, hw, hw30, gC, gL⟩ := id hI
  have hT := h.tm
  refine A_aload_n dX10_struck_0 rfl rfl ?_
  refine A_callVi dX10_struck_1 m_X10_322 cb_X10_isPlain (As := []) rfl HM_at0 rfl (k_isPlain G) rfl ⟨by decide, by decide⟩ (Nat.le_of_ble_eq_true rfl) ⟨by decide, by decide⟩ (fun x1 h1 hq => ?_)
  obtain ⟨rfl, rfl⟩ := hq
  refine A_eqI (pl_i h) ?_
  refine A_if_eq 29 dX10_struck_4 (by decide) (fun c4 => ?_) (fun c4 => ?_)
  · refine A_bipush (v := (-2)) dX10_struck_29 (by decide) ?_
    exact A_iret dX10_struck_31 ⟨by rw [struckA, if_neg (fun z => (fun z => by rw [if_pos z] at c4; exact absurd c4 (by decide)) z.1)], ⟨_, _, rfl, KM.rf⟩⟩ ⟨by decide, by decide⟩
  · refine A_iload_n dX10_struck_7 rfl rfl ?_
    refine A_i2l dX10_struck_8 ?_
    refine A_lconst (v := 0) dX10_struck_9 (by decide) ?_
    refine A_ldc2 dX10_struck_10 w_1291 ?_
    refine A_callSi dX10_struck_13 m_X10_85 cb_X10_in (As := [_, _, _]) rfl (k_in G) rfl ⟨by decide, by decide⟩ (Nat.le_of_ble_eq_true rfl) ⟨by decide, by decide⟩ (fun x13 h13 hq => ?_)
    obtain ⟨rfl, rfl⟩ := hq
    refine A_eqI (inL_n 2 (by decide) (by decide)) ?_
    refine A_if_eq 29 dX10_struck_16 (by decide) (fun c16 => ?_) (fun c16 => ?_)
    · refine A_bipush (v := (-2)) dX10_struck_29 (by decide) ?_
      exact A_iret dX10_struck_31 ⟨by rw [struckA, if_neg (fun z => z.2.1 c16)], ⟨_, _, rfl, KM.rf⟩⟩ ⟨by decide, by decide⟩
    · refine A_iload_n dX10_struck_19 rfl rfl ?_
      refine A_i2l dX10_struck_20 ?_
      refine A_lconst (v := 0) dX10_struck_21 (by decide) ?_
      refine A_lconst (v := 1) dX10_struck_22 (by decide) ?_
      refine A_callSi dX10_struck_23 m_X10_85 cb_X10_in (As := [_, _, _]) rfl (k_in G) rfl ⟨by decide, by decide⟩ (Nat.le_of_ble_eq_true rfl) ⟨by decide, by decide⟩ (fun x23 h23 hq => ?_)
      obtain ⟨rfl, rfl⟩ := hq
      refine A_eqI (inL_n 1 (by decide) (by decide)) ?_
      refine A_if_ne 32 dX10_struck_26 (by decide) (fun c26 => ?_) (fun c26 => ?_)
      · have hp : 0 < c 6 5 := (by by_cases z : 0 < c 6 5; exact z; exact absurd (if_neg z) c4)
        have h01 := t01 c26
        have eA : struckA c nv law t = if t = 0 then sumI (strikeF law (dbF c) 52) 36 else ruF (strikeF law (dbF c)) nv nv := if_pos ⟨hp, c16, h01⟩
        obtain ⟨l, hl3_, rfl⟩ := inI_of rfl c16 (by decide)
        rw [eA]
        refine A_aload_n dX10_struck_32 rfl rfl ?_
        refine A_iload_n dX10_struck_33 rfl rfl ?_
        refine A_callVv dX10_struck_34 m_X10_434 cb_X10_strikes (As := [_]) rfl HM_at0 rfl (k_strikes G h (by omega)) rfl ⟨by decide, by decide⟩ (Nat.le_of_ble_eq_true rfl) ⟨by decide, by decide⟩ (fun h34 hq => ?_)
        obtain rfl := hq
        refine A_iload_n dX10_struck_37 rfl rfl ?_
        refine A_iconst (v := 1) dX10_struck_38 (by decide) ?_
        refine A_icmp_ne 47 dX10_struck_39 (by decide) (fun c39 => ?_) (fun c39 => ?_)
        · refine A_iconst (v := 0) dX10_struck_47 (by decide) ?_
          refine A_istore_n (lv1 := [_, _, _, _, _]) dX10_struck_48 rfl (Nat.le_of_ble_eq_true rfl) rfl rfl ?_
          refine A_iconst (v := 0) dX10_struck_49 (by decide) ?_
          refine A_istore (lv1 := [_, _, _, _, _]) dX10_struck_50 (Nat.le_of_ble_eq_true rfl) rfl rfl ?_
          have e0 : t = 0 := h01.resolve_right c39
          rw [if_pos e0, stRow_e hX]
          have loop : ∀ (k i : Nat) , i + k = 36 → WA X G RX10 cX10_struck false (some .int) (qI fun x9 h1 => x9 = sumI (stRow c nv (nI l)) 36 ∧ ∃ m1 ml1, h1 = HM b m1 ml1 r n ∧ KM m ml m1 ml1) 7 0 0 (HM b (st1 (st1 (runM 7 m) 13 (dRow c)) 16 (stRow c nv (nI l))) ml r n) 0 0 52 [some (.ref b), some (.int (nI l)), some (.int t), some (.int (sumI (stRow c nv (nI l)) i)), some (.int (nI i))] [] := by
            intro k
            induction k with
            | zero =>
              intro i  hk 
              refine A_iload dX10_struck_52 rfl ?_
              refine A_bipush (v := 36) dX10_struck_54 (by decide) ?_
              refine A_icmp_ge 75 dX10_struck_56 (by decide) (fun c56 => ?_) (fun c56 => ?_)
              · refine A_iload_n dX10_struck_75 rfl rfl ?_
                exact A_iret dX10_struck_76 ⟨by rw [show i = 36 by omega], _, _, rfl, sameD16, rfl⟩ ⟨by decide, by decide⟩
              · exact absurd (nI_le (a := 36) (b := i) (by omega) (by omega)) c56
            | succ k ih =>
              intro i  hk 
              have hi : i < 36 := by omega
              refine A_iload dX10_struck_52 rfl ?_
              refine A_bipush (v := 36) dX10_struck_54 (by decide) ?_
              refine A_icmp_ge 75 dX10_struck_56 (by decide) (fun c56 => ?_) (fun c56 => ?_)
              · exact absurd c56 (nI_ge (b := 36) (by omega) (by decide))
              · refine A_iload_n dX10_struck_59 rfl rfl ?_
                refine A_aload_n dX10_struck_60 rfl rfl ?_
                refine A_get dX10_struck_61 f_X10_64 HM_at0 rfl ?_
                refine A_iload dX10_struck_64 rfl ?_
                refine A_ialdK (i := i) dX10_struck_66 (HM_at (by decide)) rfl (by omega) (by decide) ?_
                rw [st_16.1]
                refine A_iadd dX10_struck_67 ?_
                refine A_istore_n (lv1 := [_, _, _, _, _]) dX10_struck_68 rfl (Nat.le_of_ble_eq_true rfl) rfl rfl ?_
                refine A_inc 1 (lv1 := [_, _, _, _, _]) dX10_struck_69 rfl (by decide) rfl rfl ?_
                refine A_goto 52 dX10_struck_72 (by decide) ?_
                rw [nI_1]
                exact ih (i + 1) (by omega)
          exact loop 36 0 (by omega)
        · refine A_aload_n dX10_struck_42 rfl rfl ?_
          refine A_callVi dX10_struck_43 m_X10_437 cb_X10_ruined (As := []) rfl HM_at0 rfl (k_ruined G (hI.to (st_16.2.2.trans runM_R.w))) rfl ⟨by decide, by decide⟩ (Nat.le_of_ble_eq_true rfl) ⟨by decide, by decide⟩ (fun x43 h43 hq => ?_)
          obtain ⟨rfl, rfl⟩ := hq
          rw [st_16.1, st_16.2.1]
          exact A_iret dX10_struck_46 ⟨by rw [if_neg (fun z => by rw [z] at c39; exact absurd c39 (by decide)), ru_sim hX], _, _, rfl, sameD16, rfl⟩ ⟨by decide, by decide⟩
      · refine A_bipush (v := (-2)) dX10_struck_29 (by decide) ?_
        exact A_iret dX10_struck_31 ⟨by rw [struckA, if_neg (fun z => t01_n c26 z.2.2)], ⟨_, _, rfl, KM.rf⟩⟩ ⟨by decide, by decide⟩

theorem k_pays (G : GX) {b : Nat} {c m : CT} {ml : Nat → Nat → Int64} {r : Nat → Option AE} {n : Nat} {nv nc nf nl wk : Nat} {law v t : Int32} (h : BL nv nc nf nl wk c m) : MA G 7 yX10_pays cX10_pays 4 (some .int) 0 0 [.ref b, .int law, .int v, .int t] (HM b m ml r n) (qI fun x9 h1 => x9 = paysA c law v t ∧ ∃ m1 ml1, h1 = HM b m1 ml1 r n ∧ KM m ml m1 ml1) := by
  refine MA.of (own := RX10) false [some (.ref b), some (.int law), some (.int v), some (.int t)] (by decide +kernel) rfl (fun h => by cases h) (Nat.le_of_ble_eq_true rfl) rfl (fun X => ?_)
  have hX := h.ix
  obtain ⟨xv, xv6, xc, xc8, xf, xf3, xl, xl8, xw, xw30, xC, xL⟩ := id hX
  have hI := h.im
  obtain ⟨hv, hv6, hc, hc8, hf, hf3, hl, hl8, hw, hw30, gC, gL⟩ := id hI
  have hT := h.tm
  refine A_iload_n dX10_pays_0 rfl rfl ?_
  refine A_i2l dX10_pays_1 ?_
  refine A_lconst (v := 0) dX10_pays_2 (by decide) ?_
  refine A_ldc2 dX10_pays_3 w_1291 ?_
  refine A_callSi dX10_pays_6 m_X10_85 cb_X10_in (As := [_, _, _]) rfl (k_in G) rfl ⟨by decide, by decide⟩ (Nat.le_of_ble_eq_true rfl) ⟨by decide, by decide⟩ (fun x6 h6 hq => ?_)
  obtain ⟨rfl, rfl⟩ := hq
  refine A_eqI (inL_n 2 (by decide) (by decide)) ?_
  refine A_if_eq 21 dX10_pays_9 (by decide) (fun c9 => ?_) (fun c9 => ?_)
  · refine A_bipush (v := (-2)) dX10_pays_21 (by decide) ?_
    exact A_iret dX10_pays_23 ⟨by rw [paysA, pair_e xv]; exact (if_pos (Or.inl c9)).symm, ⟨_, _, rfl, KM.rf⟩⟩ ⟨by decide, by decide⟩
  · refine A_aload_n dX10_pays_12 rfl rfl ?_
    refine A_iload_n dX10_pays_13 rfl rfl ?_
    refine A_iload_n dX10_pays_14 rfl rfl ?_
    refine A_callVi dX10_pays_15 m_X10_421 cb_X10_areTwo (As := [_, _]) rfl HM_at0 rfl (k_areTwo G hv (by omega)) rfl ⟨by decide, by decide⟩ (Nat.le_of_ble_eq_true rfl) ⟨by decide, by decide⟩ (fun x15 h15 hq => ?_)
    obtain ⟨rfl, rfl⟩ := hq
    refine A_if_ne 24 dX10_pays_18 (by decide) (fun c18 => ?_) (fun c18 => ?_)
    · have eA : paysA c law v t = strikeF law (dbF c) 52 (pr v t) := by rw [paysA, pair_e xv]; exact if_neg (fun z => z.elim c9 (fun z => c18 z))
      obtain ⟨l, hl3_, rfl⟩ := inI_of rfl c9 (by decide)
      obtain ⟨j, k, hj, hk, hjk, rfl, rfl⟩ := pair_of hv6 c18
      refine A_aload_n dX10_pays_24 rfl rfl ?_
      refine A_iload_n dX10_pays_25 rfl rfl ?_
      refine A_callVv dX10_pays_26 m_X10_434 cb_X10_strikes (As := [_]) rfl HM_at0 rfl (k_strikes G h (by omega)) rfl ⟨by decide, by decide⟩ (Nat.le_of_ble_eq_true rfl) ⟨by decide, by decide⟩ (fun h26 hq => ?_)
      obtain rfl := hq
      refine A_aload_n dX10_pays_29 rfl rfl ?_
      refine A_get dX10_pays_30 f_X10_64 HM_at0 rfl ?_
      refine A_bipush (v := 6) dX10_pays_33 (by decide) ?_
      refine A_iload_n dX10_pays_35 rfl rfl ?_
      refine A_imul dX10_pays_36 ?_
      refine A_iload_n dX10_pays_37 rfl rfl ?_
      refine A_iadd dX10_pays_38 ?_
      refine A_ialdK (i := ((6 * j) + k)) dX10_pays_39 (HM_at (by decide)) (ixA (ixU rfl rfl) rfl) (by omega) (by decide) ?_
      rw [st_16.1]
      exact A_iret dX10_pays_40 ⟨by rw [eA, pr_N (by omega) (by omega), stRow_e hX], _, _, rfl, sameD16, rfl⟩ ⟨by decide, by decide⟩
    · refine A_bipush (v := (-2)) dX10_pays_21 (by decide) ?_
      exact A_iret dX10_pays_23 ⟨by rw [paysA, pair_e xv]; exact (if_pos (Or.inr c18)).symm, ⟨_, _, rfl, KM.rf⟩⟩ ⟨by decide, by decide⟩

theorem law_bits {nv nc nf nl wk : Nat} {c : CT} {law : Int32} (hI : IX c nv nc nf nl wk) : ∃ s, s < 64 ∧ ruM (stRow c nv law) (dRow c) nv nv = nI s ∧ bitC (ruF (strikeF law (dbF c)) nv nv) = nI (bF s 6) := by
  have h6 := hI.2.1
  obtain ⟨s, hs, e⟩ := ruM_N (p := stRow c nv law) (d := dRow c) (nv := nv) nv h6
  have h64 : (2 : Nat) ^ nv ≤ 2 ^ 6 := Nat.pow_le_pow_right (by decide) h6
  have h7 : (2 : Nat) ^ 6 = 64 := by decide
  exact ⟨s, by omega, e, by rw [← ru_sim hI, e]; exact bF_e s (by omega)⟩
theorem law_loop (G : GX) (X : XC) {b : Nat} {c m : CT} {ml : Nat → Nat → Int64} {r : Nat → Option AE} {n : Nat} {nv nc nf nl wk : Nat} {u1 u2 : Nat} (hu : u1 = 0 ∧ u2 = 0) (h : BL nv nc nf nl wk c m) : ∀ (k i : Nat) (m' : CT) (bst : Int32), i + k = 3 → kM m m' → (i = 0 ∧ bst = -1 ∨ bst = (lawR (dbF c) nv i).1 ∧ 0 < i) → WA X G RX10 cX10_law false (some .int) (qI fun x9 h1 => x9 = (lawR (dbF c) nv 3).1 ∧ ∃ m1 ml1, h1 = HM b m1 ml1 r n ∧ KM m ml m1 ml1) 7 0 0 (HM b m' ml r n) u1 u2 17 [some (.ref b), some (.int (bst)), some (.int ((lawR (dbF c) nv i).2)), some (.int (nI (i)))] [] := by
  obtain ⟨rfl, rfl⟩ := hu
  have hX := h.ix
  intro k
  induction k with
  | zero =>
    intro i m' bst hk hK hb
    have e9 : i = 3 := by omega
    subst e9
    refine A_iload_n dX10_law_17 rfl rfl ?_
    refine A_iconst (v := 3) dX10_law_18 (by decide) ?_
    refine A_icmp_ge 57 dX10_law_19 (by decide) (fun c19 => ?_) (fun c19 => ?_)
    · refine A_iload_n dX10_law_57 rfl rfl ?_
      exact A_iret dX10_law_58 ⟨by rcases hb with z | z; exact absurd z.1 (by decide); exact z.1, _, _, rfl, hK, rfl⟩ ⟨by decide, by decide⟩
    · exact absurd (by decide) c19
  | succ k ih =>
    intro i m' bst hk hK hb
    have h1 : BL nv nc nf nl wk c m' := h.to (fun _ _ => rfl) hK
    obtain ⟨s, hs, e1, e2⟩ := law_bits (law := nI i) hX
    have hM2 : IM (st1 (st1 (runM 7 m') 13 (dRow c)) 16 (stRow c nv (nI i))) nv nc nf nl wk := h1.im.to (st_16.2.2.trans runM_R.w)
    have hs1 : lawR (dbF c) nv (i + 1) = if nI (bF s 6) < (lawR (dbF c) nv i).2 then (nI i, nI (bF s 6)) else lawR (dbF c) nv i := by rw [lawR, e2]
    have hle := bF_le (s := s) 6
    refine A_iload_n dX10_law_17 rfl rfl ?_
    refine A_iconst (v := 3) dX10_law_18 (by decide) ?_
    refine A_icmp_ge 57 dX10_law_19 (by decide) (fun c19 => ?_) (fun c19 => ?_)
    · exact absurd c19 (nI_ge (b := 3) (by omega) (by decide))
    · refine A_aload_n dX10_law_22 rfl rfl ?_
      refine A_iload_n dX10_law_23 rfl rfl ?_
      refine A_callVv dX10_law_24 m_X10_434 cb_X10_strikes (As := [_]) rfl HM_at0 rfl (k_strikes G h1 (by omega)) rfl ⟨by decide, by decide⟩ (Nat.le_of_ble_eq_true rfl) ⟨by decide, by decide⟩ (fun h24 hq => ?_)
      obtain rfl := hq
      refine A_aload_n dX10_law_27 rfl rfl ?_
      refine A_callVi dX10_law_28 m_X10_437 cb_X10_ruined (As := []) rfl HM_at0 rfl (k_ruined G hM2) rfl ⟨by decide, by decide⟩ (Nat.le_of_ble_eq_true rfl) ⟨by decide, by decide⟩ (fun x28 h28 hq => ?_)
      obtain ⟨rfl, rfl⟩ := hq
      refine A_eqI (y := nI s) (by rw [st_16.1, st_16.2.1]; exact e1) ?_
      refine A_callSi dX10_law_31 m_X10_440 cb_X10_bits (As := [_]) rfl (k_bits G hs) rfl ⟨by decide, by decide⟩ (Nat.le_of_ble_eq_true rfl) ⟨by decide, by decide⟩ (fun x31 h31 hq => ?_)
      obtain ⟨rfl, rfl⟩ := hq
      refine A_iload_n dX10_law_34 rfl rfl ?_
      refine A_icmp_lt 41 dX10_law_35 (by decide) (fun c35 => ?_) (fun c35 => ?_)
      · refine A_iload_n dX10_law_41 rfl rfl ?_
        refine A_istore_n (lv1 := [_, _, _, _]) dX10_law_42 rfl (Nat.le_of_ble_eq_true rfl) rfl rfl ?_
        refine A_aload_n dX10_law_43 rfl rfl ?_
        refine A_callVi dX10_law_44 m_X10_437 cb_X10_ruined (As := []) rfl HM_at0 rfl (k_ruined G hM2) rfl ⟨by decide, by decide⟩ (Nat.le_of_ble_eq_true rfl) ⟨by decide, by decide⟩ (fun x44 h44 hq => ?_)
        obtain ⟨rfl, rfl⟩ := hq
        refine A_eqI (y := nI s) (by rw [st_16.1, st_16.2.1]; exact e1) ?_
        refine A_callSi dX10_law_47 m_X10_440 cb_X10_bits (As := [_]) rfl (k_bits G hs) rfl ⟨by decide, by decide⟩ (Nat.le_of_ble_eq_true rfl) ⟨by decide, by decide⟩ (fun x47 h47 hq => ?_)
        obtain ⟨rfl, rfl⟩ := hq
        refine A_istore_n (lv1 := [_, _, _, _]) dX10_law_50 rfl (Nat.le_of_ble_eq_true rfl) rfl rfl ?_
        refine A_inc 1 (lv1 := [_, _, _, _]) dX10_law_51 rfl (by decide) rfl rfl ?_
        refine A_goto 17 dX10_law_54 (by decide) ?_
        rw [nI_1]
        rw [show nI (bF s 6) = (lawR (dbF c) nv (i + 1)).2 by rw [hs1, if_pos c35]]
        exact ih (i + 1) _ _ (by omega) (hK.tr sameD16) (Or.inr ⟨by rw [hs1, if_pos c35], by omega⟩)
      · refine A_goto 51 dX10_law_38 (by decide) ?_
        refine A_inc 1 (lv1 := [_, _, _, _]) dX10_law_51 rfl (by decide) rfl rfl ?_
        refine A_goto 17 dX10_law_54 (by decide) ?_
        rw [nI_1]
        rw [show (lawR (dbF c) nv i).2 = (lawR (dbF c) nv (i + 1)).2 by rw [hs1, if_neg c35]]
        exact ih (i + 1) _ _ (by omega) (hK.tr sameD16) (Or.inr ⟨by rcases hb with z | z; (exfalso; rw [z.1, lawR] at c35; exact c35 (nI_lt (b := 7) (by omega) (by decide))); (rw [hs1, if_neg c35]; exact z.1), by omega⟩)

theorem k_law (G : GX) {b : Nat} {c m : CT} {ml : Nat → Nat → Int64} {r : Nat → Option AE} {n : Nat} {nv nc nf nl wk : Nat} (h : BL nv nc nf nl wk c m) : MA G 7 yX10_law cX10_law 4 (some .int) 0 0 [.ref b] (HM b m ml r n) (qI fun x9 h1 => x9 = lawA c nv ∧ ∃ m1 ml1, h1 = HM b m1 ml1 r n ∧ KM m ml m1 ml1) := by
  refine MA.of (own := RX10) false [some (.ref b), none, none, none] (by decide +kernel) rfl (fun h => by cases h) (Nat.le_of_ble_eq_true rfl) rfl (fun X => ?_)
  have hX := h.ix
  obtain ⟨xv, xv6, xc, xc8, xf, xf3, xl, xl8, xw, xw30, xC, xL⟩ := id hX
  have hI := h.im
  obtain ⟨hv, hv6, hc, hc8, hf, hf3, hl, hl8, hw, hw30, gC, gL⟩ := id hI
  have hT := h.tm
  refine A_aload_n dX10_law_0 rfl rfl ?_
  refine A_callVi dX10_law_1 m_X10_322 cb_X10_isPlain (As := []) rfl HM_at0 rfl (k_isPlain G) rfl ⟨by decide, by decide⟩ (Nat.le_of_ble_eq_true rfl) ⟨by decide, by decide⟩ (fun x1 h1 hq => ?_)
  obtain ⟨rfl, rfl⟩ := hq
  refine A_eqI (pl_i h) ?_
  refine A_if_ne 10 dX10_law_4 (by decide) (fun c4 => ?_) (fun c4 => ?_)
  · refine A_iconst (v := (-1)) dX10_law_10 (by decide) ?_
    refine A_istore_n (lv1 := [_, _, _, _]) dX10_law_11 rfl (Nat.le_of_ble_eq_true rfl) rfl rfl ?_
    refine A_bipush (v := 7) dX10_law_12 (by decide) ?_
    refine A_istore_n (lv1 := [_, _, _, _]) dX10_law_14 rfl (Nat.le_of_ble_eq_true rfl) rfl rfl ?_
    refine A_iconst (v := 0) dX10_law_15 (by decide) ?_
    refine A_istore_n (lv1 := [_, _, _, _]) dX10_law_16 rfl (Nat.le_of_ble_eq_true rfl) rfl rfl ?_
    rw [lawA, if_pos (by by_cases z : 0 < c 6 5; exact z; exact absurd (if_neg z) c4)]
    exact law_loop G X ⟨rfl, rfl⟩ h 3 0 m (-1) (by omega) kM.rf (Or.inl ⟨rfl, rfl⟩)
  · refine A_bipush (v := (-2)) dX10_law_7 (by decide) ?_
    exact A_iret dX10_law_9 ⟨by rw [lawA, if_neg (fun z => by rw [if_pos z] at c4; exact absurd c4 (by decide))], ⟨_, _, rfl, KM.rf⟩⟩ ⟨by decide, by decide⟩
