/-! THE FACE: the tape, takers, more, counts -/
theorem rPut_in {W N k c : Nat} {f : Nat → Int32} {v : Int32} (hk : k < N) (hc : c < W) (hN : N ≤ 100) (hW : W ≤ 100) : rPut (nI W) (nI N) f (nI k) (nI c) v = upd f (W * k + c) v := by
  have h1 : k * W + c < 2 ^ 31 := by
    have : k * W ≤ 100 * W := Nat.mul_le_mul_right W (by omega)
    omega
  rw [rPut, if_neg (by
    rintro (z | z | z | z)
    · exact nI_pos (by omega) z
    · exact absurd z (nI_ge hk (by omega))
    · exact nI_pos (by omega) z
    · exact absurd z (nI_ge hc (by omega))), pk_mul, nI_add, nI_clamp h1, Nat.mul_comm]
theorem c_put11 (G : GX) {b : Nat} {c : CT} {co : Nat → Nat → Option Nat} {r : Nat → Option AE} {n N i : Nat} {v : Int32} (hN : c 11 2 = nI N) (hM : N ≤ 3) (hi : i < N) : MA G 0 yX3_put cX3_put 4 none 0 0 [.ref (b + 11), .int (nI i), .int 3, .int v] (HC b c co r n) (qV fun h1 => h1 = HC b (put c 12 (4 * i + 3) v) co r n) := by
  have e := c_put G (HC b c co r n) (b + 11) (b + 12) (nI 3) (nI 4) (nI N) 12 (c 12) (nI i) (nI 3) v ((HC_at (by decide)).trans (by rw [← hN]; rfl)) (HC_at (by decide)) (fun _ _ _ _ => by rw [pk_mul, nI_add]; exact vp_in_nI (by omega) (by decide))
  rw [rPut_in hi (by decide) (by omega) (by decide), HC_up (k := 12) (g := upd (c 12) (4 * i + 3) v) (e := aI 12 (upd (c 12) (4 * i + 3) v)) (by decide) rfl] at e
  exact e
def moreA (c : CT) (m : Int32) : Int32 × CT := if 0 < c 6 5 ∧ ¬ m < 0 ∧ m ≤ 100 then (c 6 7, forgetF (put c 6 7 m)) else (-2, c)
def takesA (c : CT) (f v : Int32) : Int32 × CT := if inI f (c 11 2) = 0 ∨ (¬ v = -1 ∧ inI v (c 7 2) = 0) then (-2, c) else (c 12 (4 * tcl f + 3), put c 12 (4 * tcl f + 3) v)
def villageA (c : CT) (v t : Int32) : Int32 := if inI v (c 7 2) = 0 ∨ inI t 5 = 0 then -2 else c 8 (5 * tcl v + tcl t)
def endA (c : CT) (m : Int32) : Int32 × CT := if m < 0 ∨ c 1 1 < m then (-1, c) else (m, put c 1 1 m)
def faultA (c : CT) (t : Int32) : Int32 := if t = 0 then c 3 3 else if t = 1 then c 3 4 else -1
theorem c_village (G : GX) {b : Nat} {c : CT} {co : Nat → Nat → Option Nat} {r : Nat → Option AE} {n : Nat} {nv nc nf nl wk : Nat} {v t : Int32} (hI : IX c nv nc nf nl wk) : MA G 2 yX9_village cX9_village 3 (some .int) 0 0 [.ref b, .int v, .int t] (HC b c co r n) (qI fun x h1 => x = villageA c v t ∧ h1 = HC b c co r n) := by
  refine MA.of (own := RX9) false [some (.ref b), some (.int v), some (.int t)] (by decide +kernel) rfl (fun h => by cases h) (Nat.le_of_ble_eq_true rfl) rfl (fun X => ?_)
  obtain ⟨hv, hv6, hc, hc8, hf, hf3, hl, hl8, hw, hw30, gC, gL⟩ := id hI
  refine A_aload_n dX9_village_0 rfl rfl ?_
  refine A_iload_n dX9_village_1 rfl rfl ?_
  refine A_callVi dX9_village_2 m_X9_101 cb_X9_hasVillage (As := [_]) rfl HC_at0 rfl (c_hasVillage G) rfl ⟨by decide, by decide⟩ (Nat.le_of_ble_eq_true rfl) ⟨by decide, by decide⟩ (fun x2 h2 hq => ?_)
  obtain ⟨rfl, rfl⟩ := hq
  refine A_if_eq 17 dX9_village_5 (by decide) (fun c5 => ?_) (fun c5 => ?_)
  · refine A_bipush (v := (-2)) dX9_village_17 (by decide) ?_
    exact A_iret dX9_village_19 ⟨by rw [villageA, if_pos (by first | exact Or.inl (by assumption) | exact Or.inr (if_pos (by first | exact Or.inl (by assumption) | exact Or.inr (Int32.not_lt.mp (by assumption)))))], rfl⟩ ⟨by decide, by decide⟩
  · refine A_iload_n dX9_village_8 rfl rfl ?_
    refine A_if_lt 17 dX9_village_9 (by decide) (fun c9 => ?_) (fun c9 => ?_)
    · refine A_bipush (v := (-2)) dX9_village_17 (by decide) ?_
      exact A_iret dX9_village_19 ⟨by rw [villageA, if_pos (by first | exact Or.inl (by assumption) | exact Or.inr (if_pos (by first | exact Or.inl (by assumption) | exact Or.inr (Int32.not_lt.mp (by assumption)))))], rfl⟩ ⟨by decide, by decide⟩
    · refine A_iload_n dX9_village_12 rfl rfl ?_
      refine A_iconst (v := 5) dX9_village_13 (by decide) ?_
      refine A_icmp_lt 20 dX9_village_14 (by decide) (fun c14 => ?_) (fun c14 => ?_)
      · have ct : ¬ inI t 5 = 0 := fun z => by rw [inI, if_neg (fun q => q.elim c9 (fun q => absurd c14 (Int32.not_lt.mpr q)))] at z; exact absurd z (by decide)
        obtain ⟨j, hj, rfl⟩ := inI_of hv c5 (by omega)
        obtain ⟨k, hk, rfl⟩ := inI_of (k := 5) rfl ct (by decide)
        refine A_aload_n dX9_village_20 rfl rfl ?_
        refine A_get dX9_village_21 f_X9_28 HC_at0 rfl ?_
        refine A_get dX9_village_24 f_X9_104 (HC_at (by decide)) rfl ?_
        refine A_iload_n dX9_village_27 rfl rfl ?_
        refine A_iload_n dX9_village_28 rfl rfl ?_
        refine A_callVi dX9_village_29 m_X9_108 cb_X3_at (As := [_, _]) rfl (HC_at (by decide)) rfl (c_at7 G b _ co r n k hv hv6 hj hk) rfl ⟨by decide, by decide⟩ (Nat.le_of_ble_eq_true rfl) ⟨by decide, by decide⟩ (fun x29 h29 hq => ?_)
        obtain ⟨rfl, rfl⟩ := hq
        exact A_iret dX9_village_32 ⟨by rw [villageA, if_neg (fun z => z.elim c5 ct), tcl_nI (by omega), tcl_nI (by omega)], rfl⟩ ⟨by decide, by decide⟩
      · refine A_bipush (v := (-2)) dX9_village_17 (by decide) ?_
        exact A_iret dX9_village_19 ⟨by rw [villageA, if_pos (by first | exact Or.inl (by assumption) | exact Or.inr (if_pos (by first | exact Or.inl (by assumption) | exact Or.inr (Int32.not_lt.mp (by assumption)))))], rfl⟩ ⟨by decide, by decide⟩

theorem c_takes (G : GX) {b : Nat} {c : CT} {co : Nat → Nat → Option Nat} {r : Nat → Option AE} {n : Nat} {nv nc nf nl wk : Nat} {f v : Int32} (hI : IX c nv nc nf nl wk) : MA G 2 yX9_takes cX9_takes 4 (some .int) 0 0 [.ref b, .int f, .int v] (HC b c co r n) (qI fun x h1 => x = (takesA c f v).1 ∧ h1 = HC b (takesA c f v).2 co r n) := by
  refine MA.of (own := RX9) false [some (.ref b), some (.int f), some (.int v), none] (by decide +kernel) rfl (fun h => by cases h) (Nat.le_of_ble_eq_true rfl) rfl (fun X => ?_)
  obtain ⟨hv, hv6, hc, hc8, hf, hf3, hl, hl8, hw, hw30, gC, gL⟩ := id hI
  refine A_aload_n dX9_takes_0 rfl rfl ?_
  refine A_iload_n dX9_takes_1 rfl rfl ?_
  refine A_callVi dX9_takes_2 m_X9_114 cb_X9_hasFlood (As := [_]) rfl HC_at0 rfl (c_hasFlood G) rfl ⟨by decide, by decide⟩ (Nat.le_of_ble_eq_true rfl) ⟨by decide, by decide⟩ (fun x2 h2 hq => ?_)
  obtain ⟨rfl, rfl⟩ := hq
  refine A_if_eq 21 dX9_takes_5 (by decide) (fun c5 => ?_) (fun c5 => ?_)
  · refine A_bipush (v := (-2)) dX9_takes_21 (by decide) ?_
    have e2 : takesA c f v = (-2, c) := if_pos (by first | exact Or.inl (by assumption) | exact Or.inr ⟨by assumption, by assumption⟩)
    exact A_iret dX9_takes_23 ⟨by rw [e2], by rw [e2]⟩ ⟨by decide, by decide⟩
  · refine A_iload_n dX9_takes_8 rfl rfl ?_
    refine A_iconst (v := (-1)) dX9_takes_9 (by decide) ?_
    refine A_icmp_eq 24 dX9_takes_10 (by decide) (fun c10 => ?_) (fun c10 => ?_)
    · obtain ⟨j, hj, rfl⟩ := inI_of hf c5 (by omega)
      have e2 : takesA c (nI j) v = (c 12 (4 * j + 3), put c 12 (4 * j + 3) v) := by rw [takesA, if_neg (by first | exact fun z => z.elim c5 (fun q => q.1 (by assumption)) | exact fun z => z.elim c5 (fun q => absurd q.2 (by assumption))), tcl_nI (by omega)]
      refine A_aload_n dX9_takes_24 rfl rfl ?_
      refine A_get dX9_takes_25 f_X9_28 HC_at0 rfl ?_
      refine A_get dX9_takes_28 f_X9_117 (HC_at (by decide)) rfl ?_
      refine A_iload_n dX9_takes_31 rfl rfl ?_
      refine A_iconst (v := 3) dX9_takes_32 (by decide) ?_
      refine A_callVi dX9_takes_33 m_X9_108 cb_X3_at (As := [_, _]) rfl (HC_at (by decide)) rfl (c_at11 G b c co r n 3 hf hf3 hj (by decide)) rfl ⟨by decide, by decide⟩ (Nat.le_of_ble_eq_true rfl) ⟨by decide, by decide⟩ (fun x33 h33 hq => ?_)
      obtain ⟨rfl, rfl⟩ := hq
      refine A_istore_n (lv1 := [_, _, _, _]) dX9_takes_36 rfl (Nat.le_of_ble_eq_true rfl) rfl rfl ?_
      refine A_aload_n dX9_takes_37 rfl rfl ?_
      refine A_get dX9_takes_38 f_X9_28 HC_at0 rfl ?_
      refine A_get dX9_takes_41 f_X9_117 (HC_at (by decide)) rfl ?_
      refine A_iload_n dX9_takes_44 rfl rfl ?_
      refine A_iconst (v := 3) dX9_takes_45 (by decide) ?_
      refine A_iload_n dX9_takes_46 rfl rfl ?_
      refine A_callVv dX9_takes_47 m_X9_120 cb_X3_put (As := [_, _, _]) rfl (HC_at (by decide)) rfl (c_put11 G hf hf3 hj) rfl ⟨by decide, by decide⟩ (Nat.le_of_ble_eq_true rfl) ⟨by decide, by decide⟩ (fun h47 hq => ?_)
      obtain rfl := hq
      refine A_iload_n dX9_takes_50 rfl rfl ?_
      exact A_iret dX9_takes_51 ⟨by rw [e2], by rw [e2]⟩ ⟨by decide, by decide⟩
    · refine A_aload_n dX9_takes_13 rfl rfl ?_
      refine A_iload_n dX9_takes_14 rfl rfl ?_
      refine A_callVi dX9_takes_15 m_X9_101 cb_X9_hasVillage (As := [_]) rfl HC_at0 rfl (c_hasVillage G) rfl ⟨by decide, by decide⟩ (Nat.le_of_ble_eq_true rfl) ⟨by decide, by decide⟩ (fun x15 h15 hq => ?_)
      obtain ⟨rfl, rfl⟩ := hq
      refine A_if_ne 24 dX9_takes_18 (by decide) (fun c18 => ?_) (fun c18 => ?_)
      · obtain ⟨j, hj, rfl⟩ := inI_of hf c5 (by omega)
        have e2 : takesA c (nI j) v = (c 12 (4 * j + 3), put c 12 (4 * j + 3) v) := by rw [takesA, if_neg (by first | exact fun z => z.elim c5 (fun q => q.1 (by assumption)) | exact fun z => z.elim c5 (fun q => absurd q.2 (by assumption))), tcl_nI (by omega)]
        refine A_aload_n dX9_takes_24 rfl rfl ?_
        refine A_get dX9_takes_25 f_X9_28 HC_at0 rfl ?_
        refine A_get dX9_takes_28 f_X9_117 (HC_at (by decide)) rfl ?_
        refine A_iload_n dX9_takes_31 rfl rfl ?_
        refine A_iconst (v := 3) dX9_takes_32 (by decide) ?_
        refine A_callVi dX9_takes_33 m_X9_108 cb_X3_at (As := [_, _]) rfl (HC_at (by decide)) rfl (c_at11 G b c co r n 3 hf hf3 hj (by decide)) rfl ⟨by decide, by decide⟩ (Nat.le_of_ble_eq_true rfl) ⟨by decide, by decide⟩ (fun x33 h33 hq => ?_)
        obtain ⟨rfl, rfl⟩ := hq
        refine A_istore_n (lv1 := [_, _, _, _]) dX9_takes_36 rfl (Nat.le_of_ble_eq_true rfl) rfl rfl ?_
        refine A_aload_n dX9_takes_37 rfl rfl ?_
        refine A_get dX9_takes_38 f_X9_28 HC_at0 rfl ?_
        refine A_get dX9_takes_41 f_X9_117 (HC_at (by decide)) rfl ?_
        refine A_iload_n dX9_takes_44 rfl rfl ?_
        refine A_iconst (v := 3) dX9_takes_45 (by decide) ?_
        refine A_iload_n dX9_takes_46 rfl rfl ?_
        refine A_callVv dX9_takes_47 m_X9_120 cb_X3_put (As := [_, _, _]) rfl (HC_at (by decide)) rfl (c_put11 G hf hf3 hj) rfl ⟨by decide, by decide⟩ (Nat.le_of_ble_eq_true rfl) ⟨by decide, by decide⟩ (fun h47 hq => ?_)
        obtain rfl := hq
        refine A_iload_n dX9_takes_50 rfl rfl ?_
        exact A_iret dX9_takes_51 ⟨by rw [e2], by rw [e2]⟩ ⟨by decide, by decide⟩
      · refine A_bipush (v := (-2)) dX9_takes_21 (by decide) ?_
        have e2 : takesA c f v = (-2, c) := if_pos (by first | exact Or.inl (by assumption) | exact Or.inr ⟨by assumption, by assumption⟩)
        exact A_iret dX9_takes_23 ⟨by rw [e2], by rw [e2]⟩ ⟨by decide, by decide⟩

theorem c_more (G : GX) {b : Nat} {c : CT} {co : Nat → Nat → Option Nat} {r : Nat → Option AE} {n : Nat} {m : Int32} : MA G 1 yX9_more cX9_more 3 (some .int) 0 0 [.ref b, .int m] (HC b c co r n) (qI fun x h1 => x = (moreA c m).1 ∧ h1 = HC b (moreA c m).2 co r n) := by
  refine MA.of (own := RX9) false [some (.ref b), some (.int m), none] (by decide +kernel) rfl (fun h => by cases h) (Nat.le_of_ble_eq_true rfl) rfl (fun X => ?_)
  refine A_aload_n dX9_more_0 rfl rfl ?_
  refine A_callVi dX9_more_1 m_X9_124 cb_X9_hasPlain (As := []) rfl HC_at0 rfl (c_hasPlain G) rfl ⟨by decide, by decide⟩ (Nat.le_of_ble_eq_true rfl) ⟨by decide, by decide⟩ (fun x1 h1 hq => ?_)
  obtain ⟨rfl, rfl⟩ := hq
  refine A_if_eq 17 dX9_more_4 (by decide) (fun c4 => ?_) (fun c4 => ?_)
  · refine A_bipush (v := (-2)) dX9_more_17 (by decide) ?_
    have e2 : moreA c m = (-2, c) := if_neg (by rintro ⟨hp, h1, h2⟩; first | (rw [if_pos hp] at c4; exact absurd c4 (by decide)) | exact h1 c8 | exact c14 h2)
    exact A_iret dX9_more_19 ⟨by rw [e2], by rw [e2]⟩ ⟨by decide, by decide⟩
  · refine A_iload_n dX9_more_7 rfl rfl ?_
    refine A_if_lt 17 dX9_more_8 (by decide) (fun c8 => ?_) (fun c8 => ?_)
    · refine A_bipush (v := (-2)) dX9_more_17 (by decide) ?_
      have e2 : moreA c m = (-2, c) := if_neg (by rintro ⟨hp, h1, h2⟩; first | (rw [if_pos hp] at c4; exact absurd c4 (by decide)) | exact h1 c8 | exact c14 h2)
      exact A_iret dX9_more_19 ⟨by rw [e2], by rw [e2]⟩ ⟨by decide, by decide⟩
    · refine A_iload_n dX9_more_11 rfl rfl ?_
      refine A_bipush (v := 100) dX9_more_12 (by decide) ?_
      refine A_icmp_le 20 dX9_more_14 (by decide) (fun c14 => ?_) (fun c14 => ?_)
      · have e2 : moreA c m = (c 6 7, forgetF (put c 6 7 m)) := if_pos ⟨by by_cases z : 0 < c 6 5; exact z; exact absurd (if_neg z) c4, c8, c14⟩
        refine A_aload_n dX9_more_20 rfl rfl ?_
        refine A_get dX9_more_21 f_X9_28 HC_at0 rfl ?_
        refine A_get dX9_more_24 f_X9_128 (HC_at (by decide)) rfl ?_
        refine A_istore_n (lv1 := [_, _, _]) dX9_more_27 rfl (Nat.le_of_ble_eq_true rfl) rfl rfl ?_
        refine A_aload_n dX9_more_28 rfl rfl ?_
        refine A_get dX9_more_29 f_X9_28 HC_at0 rfl ?_
        refine A_iload_n dX9_more_32 rfl rfl ?_
        refine A_putC 7 dX9_more_33 p_X9_128 (by decide) rfl (Nat.le_of_ble_eq_true rfl) rfl ?_
        refine A_aload_n dX9_more_36 rfl rfl ?_
        refine A_get dX9_more_37 f_X9_59 HC_at0 rfl ?_
        refine A_callVv dX9_more_40 m_X9_89 cb_X1_forget (As := []) rfl (HC_at (by decide)) rfl (c_forget G) rfl ⟨by decide, by decide⟩ (Nat.le_of_ble_eq_true rfl) ⟨by decide, by decide⟩ (fun h40 hq => ?_)
        obtain rfl := hq
        refine A_iload_n dX9_more_43 rfl rfl ?_
        exact A_iret dX9_more_44 ⟨by rw [e2], by rw [e2]⟩ ⟨by decide, by decide⟩
      · refine A_bipush (v := (-2)) dX9_more_17 (by decide) ?_
        have e2 : moreA c m = (-2, c) := if_neg (by rintro ⟨hp, h1, h2⟩; first | (rw [if_pos hp] at c4; exact absurd c4 (by decide)) | exact h1 c8 | exact c14 h2)
        exact A_iret dX9_more_19 ⟨by rw [e2], by rw [e2]⟩ ⟨by decide, by decide⟩

theorem c_end (G : GX) {b : Nat} {c : CT} {co : Nat → Nat → Option Nat} {r : Nat → Option AE} {n : Nat} {m : Int32} : MA G 0 yX9_end cX9_end 2 (some .int) 0 0 [.ref b, .int m] (HC b c co r n) (qI fun x h1 => x = (endA c m).1 ∧ h1 = HC b (endA c m).2 co r n) := by
  refine MA.of (own := RX9) false [some (.ref b), some (.int m)] (by decide +kernel) rfl (fun h => by cases h) (Nat.le_of_ble_eq_true rfl) rfl (fun X => ?_)
  refine A_iload_n dX9_end_0 rfl rfl ?_
  refine A_if_lt 15 dX9_end_1 (by decide) (fun c1 => ?_) (fun c1 => ?_)
  · refine A_iconst (v := (-1)) dX9_end_15 (by decide) ?_
    have e2 : endA c m = (-1, c) := if_pos (by first | exact Or.inl (by assumption) | exact Or.inr (Int32.not_le.mp (by assumption)))
    exact A_iret dX9_end_16 ⟨by rw [e2], by rw [e2]⟩ ⟨by decide, by decide⟩
  · refine A_iload_n dX9_end_4 rfl rfl ?_
    refine A_aload_n dX9_end_5 rfl rfl ?_
    refine A_get dX9_end_6 f_X9_10 HC_at0 rfl ?_
    refine A_get dX9_end_9 f_X9_78 (HC_at (by decide)) rfl ?_
    refine A_icmp_le 17 dX9_end_12 (by decide) (fun c12 => ?_) (fun c12 => ?_)
    · have e2 : endA c m = (m, put c 1 1 m) := if_neg (fun z => z.elim c1 (fun q => absurd c12 (Int32.not_le.mpr q)))
      refine A_aload_n dX9_end_17 rfl rfl ?_
      refine A_get dX9_end_18 f_X9_10 HC_at0 rfl ?_
      refine A_iload_n dX9_end_21 rfl rfl ?_
      refine A_putC 1 dX9_end_22 p_X9_78 (by decide) rfl (Nat.le_of_ble_eq_true rfl) rfl ?_
      refine A_iload_n dX9_end_25 rfl rfl ?_
      exact A_iret dX9_end_26 ⟨by rw [e2], by rw [e2]⟩ ⟨by decide, by decide⟩
    · refine A_iconst (v := (-1)) dX9_end_15 (by decide) ?_
      have e2 : endA c m = (-1, c) := if_pos (by first | exact Or.inl (by assumption) | exact Or.inr (Int32.not_le.mp (by assumption)))
      exact A_iret dX9_end_16 ⟨by rw [e2], by rw [e2]⟩ ⟨by decide, by decide⟩

theorem c_fault (G : GX) {b : Nat} {c : CT} {co : Nat → Nat → Option Nat} {r : Nat → Option AE} {n : Nat} {t : Int32} : MA G 0 yX9_fault cX9_fault 2 (some .int) 0 0 [.ref b, .int t] (HC b c co r n) (qI fun x h1 => x = faultA c t ∧ h1 = HC b c co r n) := by
  refine MA.of (own := RX9) false [some (.ref b), some (.int t)] (by decide +kernel) rfl (fun h => by cases h) (Nat.le_of_ble_eq_true rfl) rfl (fun X => ?_)
  refine A_iload_n dX9_fault_0 rfl rfl ?_
  refine A_if_ne 12 dX9_fault_1 (by decide) (fun c1 => ?_) (fun c1 => ?_)
  · refine A_iload_n dX9_fault_12 rfl rfl ?_
    refine A_iconst (v := 1) dX9_fault_13 (by decide) ?_
    refine A_icmp_ne 27 dX9_fault_14 (by decide) (fun c14 => ?_) (fun c14 => ?_)
    · refine A_iconst (v := (-1)) dX9_fault_27 (by decide) ?_
      exact A_iret dX9_fault_28 ⟨by rw [faultA, if_neg c1, if_neg c14], rfl⟩ ⟨by decide, by decide⟩
    · refine A_aload_n dX9_fault_17 rfl rfl ?_
      refine A_get dX9_fault_18 f_X9_21 HC_at0 rfl ?_
      refine A_get dX9_fault_21 f_X9_98 (HC_at (by decide)) rfl ?_
      refine A_goto 28 dX9_fault_24 (by decide) ?_
      exact A_iret dX9_fault_28 ⟨by rw [faultA, if_neg c1, if_pos c14], rfl⟩ ⟨by decide, by decide⟩
  · refine A_aload_n dX9_fault_4 rfl rfl ?_
    refine A_get dX9_fault_5 f_X9_21 HC_at0 rfl ?_
    refine A_get dX9_fault_8 f_X9_95 (HC_at (by decide)) rfl ?_
    exact A_iret dX9_fault_11 ⟨(if_pos c1).symm, rfl⟩ ⟨by decide, by decide⟩

def bsF (x s : Int32) : Int32 := vp_nar .byte (x >>> (s &&& 31)).toInt8.toInt32
def ap0 (x s : Int32) (c : CT) : CT := put c 2 (tcl (c 1 1)) (bsF x s)
def ap1 (x s : Int32) (c : CT) : CT := put (ap0 x s c) 1 1 (ap0 x s c 1 1 + 1)
theorem ap1_n {x s : Int32} {c : CT} {L : Nat} (h : c 1 1 = nI L) : ap1 x s c 1 1 = nI (L + 1) := by
  rw [ap1, put_kk, ap0, put_ne (by decide), h]
  exact nI_1 L
def appF (x : Int32) (c : CT) : CT := ap1 x 0 (ap1 x 8 (ap1 x 16 (ap1 x 24 c)))
theorem appF_n {x : Int32} {c : CT} {L : Nat} (h : c 1 1 = nI L) : appF x c 1 1 = nI (L + 4) := ap1_n (ap1_n (ap1_n (ap1_n h)))
def feedF (c : CT) (a1 a2 a3 a4 a5 : Int32) : CT := appF a5 (appF a4 (appF a3 (appF a2 (appF a1 c))))
def feedA (c : CT) (a1 a2 a3 a4 a5 : Int32) : Int32 × CT := if 1600 < c 1 1 + 20 then (-1, c) else (feedF c a1 a2 a3 a4 a5 1 1, feedF c a1 a2 a3 a4 a5)
def atF (c : CT) (i : Int32) : Int32 := if inI i (c 1 1) = 0 then -1 else c 2 (tcl i) &&& 255
theorem c_hasPlaceFor (G : GX) {b : Nat} {c : CT} {co : Nat → Nat → Option Nat} {r : Nat → Option AE} {n : Nat} {m : Int32} : MA G 0 yX6_hasPlaceFor cX6_hasPlaceFor 2 (some .boolean) 0 0 [.ref (b + 1), .int m] (HC b c co r n) (qI fun x h1 => x = (if 1600 < c 1 1 + m then 0 else 1) ∧ h1 = HC b c co r n) := by
  refine MA.of (own := RX6) false [some (.ref (b + 1)), some (.int m)] (by decide +kernel) rfl (fun h => by cases h) (Nat.le_of_ble_eq_true rfl) rfl (fun X => ?_)
  refine A_aload_n dX6_hasPlaceFor_0 rfl rfl ?_
  refine A_get dX6_hasPlaceFor_1 f_X6_15 (HC_at (by decide)) rfl ?_
  refine A_iload_n dX6_hasPlaceFor_4 rfl rfl ?_
  refine A_iadd dX6_hasPlaceFor_5 ?_
  refine A_sipush (v := 1600) dX6_hasPlaceFor_6 (by decide) ?_
  refine A_icmp_gt 16 dX6_hasPlaceFor_9 (by decide) (fun c9 => ?_) (fun c9 => ?_)
  · refine A_iconst (v := 0) dX6_hasPlaceFor_16 (by decide) ?_
    exact A_zret dX6_hasPlaceFor_17 rfl ⟨(if_pos (by assumption)).symm, rfl⟩ ⟨by decide, by decide⟩
  · refine A_iconst (v := 1) dX6_hasPlaceFor_12 (by decide) ?_
    refine A_goto 17 dX6_hasPlaceFor_13 (by decide) ?_
    exact A_zret dX6_hasPlaceFor_17 rfl ⟨(if_neg (by assumption)).symm, rfl⟩ ⟨by decide, by decide⟩

theorem c_tapeAt (G : GX) {b : Nat} {c : CT} {co : Nat → Nat → Option Nat} {r : Nat → Option AE} {n : Nat} {i : Int32} {L : Nat} (hL : c 1 1 = nI L) (hL2 : L ≤ 1600) : MA G 0 yX6_at cX6_at 2 (some .int) 0 0 [.ref (b + 1), .int i] (HC b c co r n) (qI fun x h1 => x = atF c i ∧ h1 = HC b c co r n) := by
  refine MA.of (own := RX6) false [some (.ref (b + 1)), some (.int i)] (by decide +kernel) rfl (fun h => by cases h) (Nat.le_of_ble_eq_true rfl) rfl (fun X => ?_)
  refine A_iload_n dX6_at_0 rfl rfl ?_
  refine A_if_lt 25 dX6_at_1 (by decide) (fun c1 => ?_) (fun c1 => ?_)
  · refine A_iconst (v := (-1)) dX6_at_25 (by decide) ?_
    exact A_iret dX6_at_26 ⟨by rw [atF, if_pos (show inI i (c 1 1) = 0 from if_pos (by first | exact Or.inl (by assumption) | exact Or.inr (by assumption)))], rfl⟩ ⟨by decide, by decide⟩
  · refine A_iload_n dX6_at_4 rfl rfl ?_
    refine A_aload_n dX6_at_5 rfl rfl ?_
    refine A_get dX6_at_6 f_X6_15 (HC_at (by decide)) rfl ?_
    refine A_icmp_ge 25 dX6_at_9 (by decide) (fun c9 => ?_) (fun c9 => ?_)
    · refine A_iconst (v := (-1)) dX6_at_25 (by decide) ?_
      exact A_iret dX6_at_26 ⟨by rw [atF, if_pos (show inI i (c 1 1) = 0 from if_pos (by first | exact Or.inl (by assumption) | exact Or.inr (by assumption)))], rfl⟩ ⟨by decide, by decide⟩
    · have ci : ¬ inI i (c 1 1) = 0 := fun z => by rw [inI, if_neg (fun q => q.elim c1 c9)] at z; exact absurd z (by decide)
      obtain ⟨k, hk, rfl⟩ := inI_of hL ci (by omega)
      refine A_aload_n dX6_at_12 rfl rfl ?_
      refine A_get dX6_at_13 f_X6_11 (HC_at (by decide)) rfl ?_
      refine A_iload_n dX6_at_16 rfl rfl ?_
      refine A_baldN dX6_at_17 (HC_at (by decide)) (by omega) (by decide) ?_
      refine A_sipush (v := 255) dX6_at_18 (by decide) ?_
      refine A_iand dX6_at_21 ?_
      refine A_goto 26 dX6_at_22 (by decide) ?_
      exact A_iret dX6_at_26 ⟨by rw [atF, if_neg ci, tcl_nI (by omega)], rfl⟩ ⟨by decide, by decide⟩

theorem app_step (G : GX) (X : XC) {b : Nat} {c : CT} {co : Nat → Nat → Option Nat} {r : Nat → Option AE} {n L : Nat} {Q : AH → Prop} {x s s2 : Int32} (h1 : ¬ s < 0) (hs : s + (-8) = s2) (hL : c 1 1 = nI L) (hL2 : L < 1600) (k : WA X G RX6 cX6_append false none (qV Q) 0 0 0 (HC b (ap1 x s c) co r n) 0 0 3 [some (.ref (b + 1)), some (.int x), some (.int s2)] []) : WA X G RX6 cX6_append false none (qV Q) 0 0 0 (HC b (c) co r n) 0 0 3 [some (.ref (b + 1)), some (.int x), some (.int s)] [] := by
  refine A_iload_n dX6_append_3 rfl rfl ?_
  refine A_if_lt 46 dX6_append_4 (by decide) (fun c4 => ?_) (fun c4 => ?_)
  · exact absurd c4 h1
  · refine A_aload_n dX6_append_7 rfl rfl ?_
    refine A_get dX6_append_8 f_X6_15 (HC_at (by decide)) rfl ?_
    refine A_sipush (v := 1600) dX6_append_11 (by decide) ?_
    refine A_icmp_ge 40 dX6_append_14 (by decide) (fun c14 => ?_) (fun c14 => ?_)
    · exact absurd c14 (by rw [hL]; exact nI_ge (b := 1600) hL2 (by decide))
    · refine A_aload_n dX6_append_17 rfl rfl ?_
      refine A_get dX6_append_18 f_X6_11 (HC_at (by decide)) rfl ?_
      refine A_aload_n dX6_append_21 rfl rfl ?_
      refine A_get dX6_append_22 f_X6_15 (HC_at (by decide)) rfl ?_
      refine A_iload_n dX6_append_25 rfl rfl ?_
      refine A_iload_n dX6_append_26 rfl rfl ?_
      refine A_ishr dX6_append_27 ?_
      refine A_i2b dX6_append_28 ?_
      refine A_bastC dX6_append_29 (by decide) (fun _ => rfl) (by rw [hL]; exact vp_in_nI hL2 (by decide)) ?_
      refine WA_h (congrArg (fun y => HC b y co r n) (show _ = ap0 x s c from rfl)) ?_
      refine A_aload_n dX6_append_30 rfl rfl ?_
      refine A_dup dX6_append_31 rfl ?_
      refine A_get dX6_append_32 f_X6_15 (HC_at (by decide)) rfl ?_
      refine A_iconst (v := 1) dX6_append_35 (by decide) ?_
      refine A_iadd dX6_append_36 ?_
      refine A_putC 1 dX6_append_37 p_X6_15 (by decide) rfl (Nat.le_of_ble_eq_true rfl) rfl ?_
      refine WA_h (congrArg (fun y => HC b y co r n) (show _ = ap1 x s c from rfl)) ?_
      refine A_inc (-8) (lv1 := [_, _, _]) dX6_append_40 rfl (by decide) rfl rfl ?_
      refine A_goto 3 dX6_append_43 (by decide) ?_
      rw [hs]
      exact k
theorem app_end (G : GX) (X : XC) {b : Nat} {c : CT} {co : Nat → Nat → Option Nat} {r : Nat → Option AE} {n L : Nat} {Q : AH → Prop} {x : Int32} (hQ : Q (HC b c co r n)) : WA X G RX6 cX6_append false none (qV Q) 0 0 0 (HC b (c) co r n) 0 0 3 [some (.ref (b + 1)), some (.int x), some (.int (-8))] [] := by
  refine A_iload_n dX6_append_3 rfl rfl ?_
  refine A_if_lt 46 dX6_append_4 (by decide) (fun c4 => ?_) (fun c4 => ?_)
  · exact A_vret dX6_append_46 hQ ⟨by decide, by decide⟩
  · exact absurd (by decide) c4
theorem c_append (G : GX) {b : Nat} {c : CT} {co : Nat → Nat → Option Nat} {r : Nat → Option AE} {n : Nat} {x : Int32} {L : Nat} (hL : c 1 1 = nI L) (hL2 : L + 4 ≤ 1600) : MA G 0 yX6_append cX6_append 3 none 0 0 [.ref (b + 1), .int x] (HC b c co r n) (qV fun h1 => h1 = HC b (appF x c) co r n) := by
  refine MA.of (own := RX6) false [some (.ref (b + 1)), some (.int x), none] (by decide +kernel) rfl (fun h => by cases h) (Nat.le_of_ble_eq_true rfl) rfl (fun X => ?_)
  refine A_bipush (v := 24) dX6_append_0 (by decide) ?_
  refine A_istore_n (lv1 := [_, _, _]) dX6_append_2 rfl (Nat.le_of_ble_eq_true rfl) rfl rfl ?_
  refine app_step G X (s2 := 16) (by decide) (by decide) hL (by omega) ?_
  refine app_step G X (s2 := 8) (by decide) (by decide) (ap1_n hL) (by omega) ?_
  refine app_step G X (s2 := 0) (by decide) (by decide) (ap1_n (ap1_n hL)) (by omega) ?_
  refine app_step G X (s2 := -8) (by decide) (by decide) (ap1_n (ap1_n (ap1_n hL))) (by omega) ?_
  exact app_end (L := L) G X rfl

theorem c_feed (G : GX) {b : Nat} {c : CT} {co : Nat → Nat → Option Nat} {r : Nat → Option AE} {n : Nat} {a1 a2 a3 a4 a5 : Int32} {L : Nat} (hL : c 1 1 = nI L) (hL2 : L ≤ 1600) : MA G 1 yX9_feed cX9_feed 6 (some .int) 0 0 [.ref b, .int a1, .int a2, .int a3, .int a4, .int a5] (HC b c co r n) (qI fun x h1 => x = (feedA c a1 a2 a3 a4 a5).1 ∧ h1 = HC b (feedA c a1 a2 a3 a4 a5).2 co r n) := by
  refine MA.of (own := RX9) false [some (.ref b), some (.int a1), some (.int a2), some (.int a3), some (.int a4), some (.int a5)] (by decide +kernel) rfl (fun h => by cases h) (Nat.le_of_ble_eq_true rfl) rfl (fun X => ?_)
  refine A_aload_n dX9_feed_0 rfl rfl ?_
  refine A_get dX9_feed_1 f_X9_10 HC_at0 rfl ?_
  refine A_bipush (v := 20) dX9_feed_4 (by decide) ?_
  refine A_callVi dX9_feed_6 m_X9_70 cb_X6_hasPlaceFor (As := [_]) rfl (HC_at (by decide)) rfl (c_hasPlaceFor G) rfl ⟨by decide, by decide⟩ (Nat.le_of_ble_eq_true rfl) ⟨by decide, by decide⟩ (fun x6 h6 hq => ?_)
  obtain ⟨rfl, rfl⟩ := hq
  refine A_if_ne 14 dX9_feed_9 (by decide) (fun c9 => ?_) (fun c9 => ?_)
  · have hz : ¬ 1600 < c 1 1 + 20 := fun z => c9 (if_pos z)
    have e2 : feedA c a1 a2 a3 a4 a5 = (feedF c a1 a2 a3 a4 a5 1 1, feedF c a1 a2 a3 a4 a5) := if_neg hz
    have hL3 : L + 20 ≤ 1600 := by
      refine Nat.le_of_not_lt (fun z => hz ?_)
      rw [hL, show (20 : Int32) = nI 20 from rfl, nI_add]
      exact nI_lt (a := 1600) z (by omega)
    rw [e2]
    refine A_aload_n dX9_feed_14 rfl rfl ?_
    refine A_get dX9_feed_15 f_X9_10 HC_at0 rfl ?_
    refine A_iload_n dX9_feed_18 rfl rfl ?_
    refine A_callVv dX9_feed_19 m_X9_74 cb_X6_append (As := [_]) rfl (HC_at (by decide)) rfl (c_append G hL (by omega)) rfl ⟨by decide, by decide⟩ (Nat.le_of_ble_eq_true rfl) ⟨by decide, by decide⟩ (fun h19 hq => ?_)
    obtain rfl := hq
    obtain ⟨y1, ey1⟩ : ∃ y, appF a1 c = y := ⟨_, rfl⟩
    have hn1 := appF_n (x := a1) hL
    rw [ey1] at hn1 ⊢
    refine A_aload_n dX9_feed_22 rfl rfl ?_
    refine A_get dX9_feed_23 f_X9_10 HC_at0 rfl ?_
    refine A_iload_n dX9_feed_26 rfl rfl ?_
    refine A_callVv dX9_feed_27 m_X9_74 cb_X6_append (As := [_]) rfl (HC_at (by decide)) rfl (c_append G hn1 (by omega)) rfl ⟨by decide, by decide⟩ (Nat.le_of_ble_eq_true rfl) ⟨by decide, by decide⟩ (fun h27 hq => ?_)
    obtain rfl := hq
    obtain ⟨y2, ey2⟩ : ∃ y, appF a2 y1 = y := ⟨_, rfl⟩
    have hn2 := appF_n (x := a2) hn1
    rw [ey2] at hn2 ⊢
    refine A_aload_n dX9_feed_30 rfl rfl ?_
    refine A_get dX9_feed_31 f_X9_10 HC_at0 rfl ?_
    refine A_iload_n dX9_feed_34 rfl rfl ?_
    refine A_callVv dX9_feed_35 m_X9_74 cb_X6_append (As := [_]) rfl (HC_at (by decide)) rfl (c_append G hn2 (by omega)) rfl ⟨by decide, by decide⟩ (Nat.le_of_ble_eq_true rfl) ⟨by decide, by decide⟩ (fun h35 hq => ?_)
    obtain rfl := hq
    obtain ⟨y3, ey3⟩ : ∃ y, appF a3 y2 = y := ⟨_, rfl⟩
    have hn3 := appF_n (x := a3) hn2
    rw [ey3] at hn3 ⊢
    refine A_aload_n dX9_feed_38 rfl rfl ?_
    refine A_get dX9_feed_39 f_X9_10 HC_at0 rfl ?_
    refine A_iload dX9_feed_42 rfl ?_
    refine A_callVv dX9_feed_44 m_X9_74 cb_X6_append (As := [_]) rfl (HC_at (by decide)) rfl (c_append G hn3 (by omega)) rfl ⟨by decide, by decide⟩ (Nat.le_of_ble_eq_true rfl) ⟨by decide, by decide⟩ (fun h44 hq => ?_)
    obtain rfl := hq
    obtain ⟨y4, ey4⟩ : ∃ y, appF a4 y3 = y := ⟨_, rfl⟩
    have hn4 := appF_n (x := a4) hn3
    rw [ey4] at hn4 ⊢
    refine A_aload_n dX9_feed_47 rfl rfl ?_
    refine A_get dX9_feed_48 f_X9_10 HC_at0 rfl ?_
    refine A_iload dX9_feed_51 rfl ?_
    refine A_callVv dX9_feed_53 m_X9_74 cb_X6_append (As := [_]) rfl (HC_at (by decide)) rfl (c_append G hn4 (by omega)) rfl ⟨by decide, by decide⟩ (Nat.le_of_ble_eq_true rfl) ⟨by decide, by decide⟩ (fun h53 hq => ?_)
    obtain rfl := hq
    obtain ⟨y5, ey5⟩ : ∃ y, appF a5 y4 = y := ⟨_, rfl⟩
    have hn5 := appF_n (x := a5) hn4
    rw [ey5] at hn5 ⊢
    refine A_aload_n dX9_feed_56 rfl rfl ?_
    refine A_get dX9_feed_57 f_X9_10 HC_at0 rfl ?_
    refine A_get dX9_feed_60 f_X9_78 (HC_at (by decide)) rfl ?_
    exact A_iret dX9_feed_63 ⟨by rw [feedF, ey1, ey2, ey3, ey4, ey5], by rw [feedF, ey1, ey2, ey3, ey4, ey5]⟩ ⟨by decide, by decide⟩
  · refine A_iconst (v := (-1)) dX9_feed_12 (by decide) ?_
    have e2 : feedA c a1 a2 a3 a4 a5 = (-1, c) := if_pos (by by_cases z : 1600 < c 1 1 + 20; exact z; rw [if_neg z] at c9; exact absurd c9 (by decide))
    exact A_iret dX9_feed_13 ⟨by rw [e2], by rw [e2]⟩ ⟨by decide, by decide⟩

def slF (g : Nat → Option Nat) : Nat → Nat
  | 0 => 0
  | i + 1 => if g i = none then slF g i else slF g i + 1
def countA (c : CT) (co : Nat → Nat → Option Nat) (t : Int32) : Int32 := if t = 0 then c 6 6 else if t = 1 then c 7 2 else if t = 2 then c 9 2 else if t = 3 then c 11 2 else if t = 4 then c 13 2 else if t = 5 then c 6 5 else if t = 6 then c 1 1 else if t = 7 then c 6 7 else if t = 8 then c 6 8 else if t = 9 then nI (slF (co 27) 4) else -1
theorem c_slotsWithRows (G : GX) {b : Nat} {c : CT} {co : Nat → Nat → Option Nat} {r : Nat → Option AE} {n : Nat} : MA G 0 yX9_slotsWithRows cX9_slotsWithRows 3 (some .int) 0 0 [.ref b] (HC b c co r n) (qI fun x h1 => x = nI (slF (co 27) 4) ∧ h1 = HC b c co r n) := by
  refine MA.of (own := RX9) false [some (.ref b), none, none] (by decide +kernel) rfl (fun h => by cases h) (Nat.le_of_ble_eq_true rfl) rfl (fun X => ?_)
  have loop : ∀ (k i : Nat) , i + k = 4 → WA X G RX9 cX9_slotsWithRows false (some .int) (qI fun x h1 => x = nI (slF (co 27) 4) ∧ h1 = HC b c co r n) 0 0 0 (HC b c co r n) 0 0 4 [some (.ref b), some (.int (nI (slF (co 27) i))), some (.int (nI i))] [] := by
    intro k
    induction k with
    | zero =>
      intro i  hk 
      refine A_iload_n dX9_slotsWithRows_4 rfl rfl ?_
      refine A_iconst (v := 4) dX9_slotsWithRows_5 (by decide) ?_
      refine A_icmp_ge 27 dX9_slotsWithRows_6 (by decide) (fun c6 => ?_) (fun c6 => ?_)
      · refine A_iload_n dX9_slotsWithRows_27 rfl rfl ?_
        exact A_iret dX9_slotsWithRows_28 ⟨by rw [show i = 4 by omega], rfl⟩ ⟨by decide, by decide⟩
      · exact absurd (nI_le (a := 4) (by omega) (by omega)) c6
    | succ k ih =>
      intro i  hk 
      have hi : i < 4 := by omega
      refine A_iload_n dX9_slotsWithRows_4 rfl rfl ?_
      refine A_iconst (v := 4) dX9_slotsWithRows_5 (by decide) ?_
      refine A_icmp_ge 27 dX9_slotsWithRows_6 (by decide) (fun c6 => ?_) (fun c6 => ?_)
      · exact absurd c6 (nI_ge (b := 4) (by omega) (by decide))
      · refine A_aload_n dX9_slotsWithRows_9 rfl rfl ?_
        refine A_get dX9_slotsWithRows_10 f_X9_41 HC_at0 rfl ?_
        refine A_iload_n dX9_slotsWithRows_13 rfl rfl ?_
        refine A_aald dX9_slotsWithRows_14 (HC_at (by decide)) rfl (vp_in_nI (by omega) (by decide)) ?_
        rw [nI_clamp (by omega)]
        have eS : slF (co 27) (i + 1) = if co 27 i = none then slF (co 27) i else slF (co 27) i + 1 := rfl
        rcases hs : co 27 i with _ | a
        · refine A_ifnullN 21 dX9_slotsWithRows_15 (by decide) ?_
          refine A_inc 1 (lv1 := [_, _, _]) dX9_slotsWithRows_21 rfl (by decide) rfl rfl ?_
          refine A_goto 4 dX9_slotsWithRows_24 (by decide) ?_
          rw [nI_1]
          have e := ih (i + 1) (by omega)
          rw [eS, if_pos hs] at e
          exact e
        · refine A_ifnull dX9_slotsWithRows_15 ?_
          refine A_inc 1 (lv1 := [_, _, _]) dX9_slotsWithRows_18 rfl (by decide) rfl rfl ?_
          rw [nI_1]
          refine A_inc 1 (lv1 := [_, _, _]) dX9_slotsWithRows_21 rfl (by decide) rfl rfl ?_
          refine A_goto 4 dX9_slotsWithRows_24 (by decide) ?_
          rw [nI_1]
          have e := ih (i + 1) (by omega)
          rw [eS, if_neg (by rw [hs]; exact Option.some_ne_none a)] at e
          exact e
  refine A_iconst (v := 0) dX9_slotsWithRows_0 (by decide) ?_
  refine A_istore_n (lv1 := [_, _, _]) dX9_slotsWithRows_1 rfl (Nat.le_of_ble_eq_true rfl) rfl rfl ?_
  refine A_iconst (v := 0) dX9_slotsWithRows_2 (by decide) ?_
  refine A_istore_n (lv1 := [_, _, _]) dX9_slotsWithRows_3 rfl (Nat.le_of_ble_eq_true rfl) rfl rfl ?_
  exact loop 4 0 (by omega)

theorem c_count (G : GX) {b : Nat} {c : CT} {co : Nat → Nat → Option Nat} {r : Nat → Option AE} {n : Nat} {t : Int32} : MA G 1 yX9_count cX9_count 2 (some .int) 0 0 [.ref b, .int t] (HC b c co r n) (qI fun x h1 => x = countA c co t ∧ h1 = HC b c co r n) := by
  refine MA.of (own := RX9) false [some (.ref b), some (.int t)] (by decide +kernel) rfl (fun h => by cases h) (Nat.le_of_ble_eq_true rfl) rfl (fun X => ?_)
  refine A_iload_n dX9_count_0 rfl rfl ?_
  by_cases s1_0 : t = 0
  · subst s1_0
    refine A_tableIn 56 dX9_count_1 (by decide) (by decide) rfl (by decide) ?_
    refine A_aload_n dX9_count_56 rfl rfl ?_
    refine A_get dX9_count_57 f_X9_28 HC_at0 rfl ?_
    refine A_get dX9_count_60 f_X9_131 (HC_at (by decide)) rfl ?_
    exact A_iret dX9_count_63 ⟨rfl, rfl⟩ ⟨by decide, by decide⟩
  by_cases s1_1 : t = 1
  · subst s1_1
    refine A_tableIn 64 dX9_count_1 (by decide) (by decide) rfl (by decide) ?_
    refine A_aload_n dX9_count_64 rfl rfl ?_
    refine A_get dX9_count_65 f_X9_28 HC_at0 rfl ?_
    refine A_get dX9_count_68 f_X9_104 (HC_at (by decide)) rfl ?_
    refine A_get dX9_count_71 f_X9_134 (HC_at (by decide)) rfl ?_
    exact A_iret dX9_count_74 ⟨rfl, rfl⟩ ⟨by decide, by decide⟩
  by_cases s1_2 : t = 2
  · subst s1_2
    refine A_tableIn 75 dX9_count_1 (by decide) (by decide) rfl (by decide) ?_
    refine A_aload_n dX9_count_75 rfl rfl ?_
    refine A_get dX9_count_76 f_X9_28 HC_at0 rfl ?_
    refine A_get dX9_count_79 f_X9_137 (HC_at (by decide)) rfl ?_
    refine A_get dX9_count_82 f_X9_134 (HC_at (by decide)) rfl ?_
    exact A_iret dX9_count_85 ⟨rfl, rfl⟩ ⟨by decide, by decide⟩
  by_cases s1_3 : t = 3
  · subst s1_3
    refine A_tableIn 86 dX9_count_1 (by decide) (by decide) rfl (by decide) ?_
    refine A_aload_n dX9_count_86 rfl rfl ?_
    refine A_get dX9_count_87 f_X9_28 HC_at0 rfl ?_
    refine A_get dX9_count_90 f_X9_117 (HC_at (by decide)) rfl ?_
    refine A_get dX9_count_93 f_X9_134 (HC_at (by decide)) rfl ?_
    exact A_iret dX9_count_96 ⟨rfl, rfl⟩ ⟨by decide, by decide⟩
  by_cases s1_4 : t = 4
  · subst s1_4
    refine A_tableIn 97 dX9_count_1 (by decide) (by decide) rfl (by decide) ?_
    refine A_aload_n dX9_count_97 rfl rfl ?_
    refine A_get dX9_count_98 f_X9_28 HC_at0 rfl ?_
    refine A_get dX9_count_101 f_X9_140 (HC_at (by decide)) rfl ?_
    refine A_get dX9_count_104 f_X9_134 (HC_at (by decide)) rfl ?_
    exact A_iret dX9_count_107 ⟨rfl, rfl⟩ ⟨by decide, by decide⟩
  by_cases s1_5 : t = 5
  · subst s1_5
    refine A_tableIn 108 dX9_count_1 (by decide) (by decide) rfl (by decide) ?_
    refine A_aload_n dX9_count_108 rfl rfl ?_
    refine A_get dX9_count_109 f_X9_28 HC_at0 rfl ?_
    refine A_get dX9_count_112 f_X9_92 (HC_at (by decide)) rfl ?_
    exact A_iret dX9_count_115 ⟨rfl, rfl⟩ ⟨by decide, by decide⟩
  by_cases s1_6 : t = 6
  · subst s1_6
    refine A_tableIn 116 dX9_count_1 (by decide) (by decide) rfl (by decide) ?_
    refine A_aload_n dX9_count_116 rfl rfl ?_
    refine A_get dX9_count_117 f_X9_10 HC_at0 rfl ?_
    refine A_get dX9_count_120 f_X9_78 (HC_at (by decide)) rfl ?_
    exact A_iret dX9_count_123 ⟨rfl, rfl⟩ ⟨by decide, by decide⟩
  by_cases s1_7 : t = 7
  · subst s1_7
    refine A_tableIn 124 dX9_count_1 (by decide) (by decide) rfl (by decide) ?_
    refine A_aload_n dX9_count_124 rfl rfl ?_
    refine A_get dX9_count_125 f_X9_28 HC_at0 rfl ?_
    refine A_get dX9_count_128 f_X9_128 (HC_at (by decide)) rfl ?_
    exact A_iret dX9_count_131 ⟨rfl, rfl⟩ ⟨by decide, by decide⟩
  by_cases s1_8 : t = 8
  · subst s1_8
    refine A_tableIn 132 dX9_count_1 (by decide) (by decide) rfl (by decide) ?_
    refine A_aload_n dX9_count_132 rfl rfl ?_
    refine A_get dX9_count_133 f_X9_28 HC_at0 rfl ?_
    refine A_get dX9_count_136 f_X9_143 (HC_at (by decide)) rfl ?_
    exact A_iret dX9_count_139 ⟨rfl, rfl⟩ ⟨by decide, by decide⟩
  by_cases s1_9 : t = 9
  · subst s1_9
    refine A_tableIn 140 dX9_count_1 (by decide) (by decide) rfl (by decide) ?_
    refine A_aload_n dX9_count_140 rfl rfl ?_
    refine A_callVi dX9_count_141 m_X9_146 cb_X9_slotsWithRows (As := []) rfl HC_at0 rfl (c_slotsWithRows G) rfl ⟨by decide, by decide⟩ (Nat.le_of_ble_eq_true rfl) ⟨by decide, by decide⟩ (fun x141 h141 hq => ?_)
    obtain ⟨rfl, rfl⟩ := hq
    exact A_iret dX9_count_144 ⟨rfl, rfl⟩ ⟨by decide, by decide⟩
  refine A_tableOut 145 dX9_count_1 (sw_out10 s1_0 s1_1 s1_2 s1_3 s1_4 s1_5 s1_6 s1_7 s1_8 s1_9) (by decide) ?_
  refine A_iconst (v := (-1)) dX9_count_145 (by decide) ?_
  exact A_iret dX9_count_146 ⟨by rw [countA, if_neg s1_0, if_neg s1_1, if_neg s1_2, if_neg s1_3, if_neg s1_4, if_neg s1_5, if_neg s1_6, if_neg s1_7, if_neg s1_8, if_neg s1_9], rfl⟩ ⟨by decide, by decide⟩
