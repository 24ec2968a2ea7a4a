/-! THE FACE: what names a village, a flood, a week; the YEAR by TAKERS as they are -/
theorem tcl_nI {k : Nat} (h : k < 2 ^ 31) : tcl (nI k) = k := nI_clamp h
theorem inI_of {x y : Int32} {k : Nat} (hy : y = nI k) (h : ¬ inI x y = 0) (hk : k < 2 ^ 31) : ∃ j, j < k ∧ x = nI j := by
  subst hy
  have h1 : ¬ (x < 0 ∨ nI k ≤ x) := fun z => h (if_pos z)
  have hx : vp_in x k := by
    rintro (z | z)
    · exact h1 (Or.inl z)
    · refine h1 (Or.inr ?_)
      have h3 : ¬ x < 0 := fun z => h1 (Or.inl z)
      rw [Int32.le_iff_toInt_le, nI_toInt hk]
      have h4 : x.toNatClampNeg = x.toInt.toNat := rfl
      rw [Int32.lt_iff_toInt_lt] at h3
      have h5 : (0 : Int32).toInt = 0 := rfl
      omega
  exact vp_in_of hx hk
def keepC (c c' : CT) (N : Nat) : Prop := (∀ l, l ≤ 27 → c' l = c l) ∧ CacheOk c' N
theorem keepC.rf {c : CT} {N : Nat} (h : CacheOk c N) : keepC c c N := ⟨fun _ _ => rfl, h⟩
theorem keepC.of {c c' : CT} {N : Nat} (h : CacheOk c N) (e : ∀ l, l ≤ 27 ∨ l = 43 ∨ l = 44 ∨ l = 45 → c' l = c l) : keepC c c' N := by
  refine ⟨fun l hl => e l (Or.inl hl), fun k hk z => ?_⟩
  have hE : EqP c c' := EqP.of_same (fun l hl => e l (Or.inl (by omega)))
  rw [e 45 (by decide)] at z
  rw [e 43 (by decide), e 44 (by decide), BR_c hE, SH_c hE]
  exact h k hk z
theorem keepC.KN {c c' : CT} {N : Nat} (h : KN c c' N) : keepC c c' N := ⟨fun l hl => h.1 l (Or.inl hl), h.2.1⟩
def yrF (c : CT) : CT := runF (beginF c)
theorem yrF_l {c : CT} {l : Nat} (h : l ≤ 27 ∨ 42 ≤ l) : yrF c l = c l := (runF_P (c := beginF c) l (by omega)).trans (beginF_l (by omega))
theorem keepC.yr {c : CT} {N : Nat} (h : CacheOk c N) : keepC c (yrF c) N := keepC.of h (fun l hl => yrF_l (by omega))
theorem IX.bg {c : CT} {nv nc nf nl wk : Nat} (h : IX c nv nc nf nl wk) : IX (beginF c) nv nc nf nl wk := h.to (fun l hl => beginF_l (by omega))
theorem KX.in {c : CT} {nv nf i : Nat} (h : KX c nv nf) (hi : i < nf) (hv : nv ≤ 6) (z : c 12 (4 * i + 3) ≠ -1) : vp_in (c 12 (4 * i + 3)) nv := by
  obtain ⟨e, hle⟩ := h i hi
  have e2 : c 12 (4 * i + 3) = nI (tkn c i) - 1 := by rw [← e, Int32.add_sub_cancel]
  rw [e2] at z ⊢
  have hp : 0 < tkn c i := by
    refine Nat.pos_of_ne_zero (fun h0 => ?_)
    rw [h0] at z
    exact z (by decide)
  rw [nI_sub1 hp]
  exact vp_in_nI (by omega) (by omega)
theorem TX.bg {c : CT} {nv nc nf nl wk : Nat} (h : IX c nv nc nf nl wk) (hK : KX c nv nf) : TX (beginF c) nv nf := by
  intro i hi z
  have e : beginF c 29 i = c 12 (4 * i + 3) := by rw [beginF_29, tkF, h.nvf.2.1, if_pos hi]
  rw [e] at z ⊢
  exact hK.in hi h.2.1 z

theorem sw_out2 {x : Int32} (h0 : ¬ x = 0) (h1 : ¬ x = 1) : x.toInt < 0 ∨ 1 < x.toInt := by
  have e0 : x.toInt ≠ 0 := fun e => h0 (Int32.toInt_inj.mp e)
  have e1 : x.toInt ≠ 1 := fun e => h1 (Int32.toInt_inj.mp e)
  omega
theorem sw_out3 {x : Int32} (h0 : ¬ x = 0) (h1 : ¬ x = 1) (h2 : ¬ x = 2) : x.toInt < 0 ∨ 2 < x.toInt := by
  have e0 : x.toInt ≠ 0 := fun e => h0 (Int32.toInt_inj.mp e)
  have e1 : x.toInt ≠ 1 := fun e => h1 (Int32.toInt_inj.mp e)
  have e2 : x.toInt ≠ 2 := fun e => h2 (Int32.toInt_inj.mp e)
  omega
theorem sw_out4 {x : Int32} (h0 : ¬ x = 0) (h1 : ¬ x = 1) (h2 : ¬ x = 2) (h3 : ¬ x = 3) : x.toInt < 0 ∨ 3 < x.toInt := by
  have e0 : x.toInt ≠ 0 := fun e => h0 (Int32.toInt_inj.mp e)
  have e1 : x.toInt ≠ 1 := fun e => h1 (Int32.toInt_inj.mp e)
  have e2 : x.toInt ≠ 2 := fun e => h2 (Int32.toInt_inj.mp e)
  have e3 : x.toInt ≠ 3 := fun e => h3 (Int32.toInt_inj.mp e)
  omega
theorem sw_out6 {x : Int32} (h0 : ¬ x = 0) (h1 : ¬ x = 1) (h2 : ¬ x = 2) (h3 : ¬ x = 3) (h4 : ¬ x = 4) (h5 : ¬ x = 5) : x.toInt < 0 ∨ 5 < x.toInt := by
  have e0 : x.toInt ≠ 0 := fun e => h0 (Int32.toInt_inj.mp e)
  have e1 : x.toInt ≠ 1 := fun e => h1 (Int32.toInt_inj.mp e)
  have e2 : x.toInt ≠ 2 := fun e => h2 (Int32.toInt_inj.mp e)
  have e3 : x.toInt ≠ 3 := fun e => h3 (Int32.toInt_inj.mp e)
  have e4 : x.toInt ≠ 4 := fun e => h4 (Int32.toInt_inj.mp e)
  have e5 : x.toInt ≠ 5 := fun e => h5 (Int32.toInt_inj.mp e)
  omega
theorem sw_out9 {x : Int32} (h0 : ¬ x = 0) (h1 : ¬ x = 1) (h2 : ¬ x = 2) (h3 : ¬ x = 3) (h4 : ¬ x = 4) (h5 : ¬ x = 5) (h6 : ¬ x = 6) (h7 : ¬ x = 7) (h8 : ¬ x = 8) : x.toInt < 0 ∨ 8 < x.toInt := by
  have e0 : x.toInt ≠ 0 := fun e => h0 (Int32.toInt_inj.mp e)
  have e1 : x.toInt ≠ 1 := fun e => h1 (Int32.toInt_inj.mp e)
  have e2 : x.toInt ≠ 2 := fun e => h2 (Int32.toInt_inj.mp e)
  have e3 : x.toInt ≠ 3 := fun e => h3 (Int32.toInt_inj.mp e)
  have e4 : x.toInt ≠ 4 := fun e => h4 (Int32.toInt_inj.mp e)
  have e5 : x.toInt ≠ 5 := fun e => h5 (Int32.toInt_inj.mp e)
  have e6 : x.toInt ≠ 6 := fun e => h6 (Int32.toInt_inj.mp e)
  have e7 : x.toInt ≠ 7 := fun e => h7 (Int32.toInt_inj.mp e)
  have e8 : x.toInt ≠ 8 := fun e => h8 (Int32.toInt_inj.mp e)
  omega
theorem sw_out10 {x : Int32} (h0 : ¬ x = 0) (h1 : ¬ x = 1) (h2 : ¬ x = 2) (h3 : ¬ x = 3) (h4 : ¬ x = 4) (h5 : ¬ x = 5) (h6 : ¬ x = 6) (h7 : ¬ x = 7) (h8 : ¬ x = 8) (h9 : ¬ x = 9) : x.toInt < 0 ∨ 9 < x.toInt := by
  have e0 : x.toInt ≠ 0 := fun e => h0 (Int32.toInt_inj.mp e)
  have e1 : x.toInt ≠ 1 := fun e => h1 (Int32.toInt_inj.mp e)
  have e2 : x.toInt ≠ 2 := fun e => h2 (Int32.toInt_inj.mp e)
  have e3 : x.toInt ≠ 3 := fun e => h3 (Int32.toInt_inj.mp e)
  have e4 : x.toInt ≠ 4 := fun e => h4 (Int32.toInt_inj.mp e)
  have e5 : x.toInt ≠ 5 := fun e => h5 (Int32.toInt_inj.mp e)
  have e6 : x.toInt ≠ 6 := fun e => h6 (Int32.toInt_inj.mp e)
  have e7 : x.toInt ≠ 7 := fun e => h7 (Int32.toInt_inj.mp e)
  have e8 : x.toInt ≠ 8 := fun e => h8 (Int32.toInt_inj.mp e)
  have e9 : x.toInt ≠ 9 := fun e => h9 (Int32.toInt_inj.mp e)
  omega
theorem inI_nar {x y : Int32} : narrow .boolean (.int (inI x y)) = .int (inI x y) := by
  unfold inI
  split <;> rfl
theorem c_hasVillage (G : GX) {b : Nat} {c : CT} {co : Nat → Nat → Option Nat} {r : Nat → Option AE} {n : Nat} {v : Int32} : MA G 1 yX9_hasVillage cX9_hasVillage 2 (some .boolean) 0 0 [.ref b, .int v] (HC b c co r n) (qI fun x h1 => x = inI v (c 7 2) ∧ h1 = HC b c co r n) := by
  refine MA.of (own := RX9) false [some (.ref b), some (.int v)] (by decide +kernel) rfl (fun h => by cases h) (Nat.le_of_ble_eq_true rfl) rfl (fun X => ?_)
  refine A_aload_n dX9_hasVillage_0 rfl rfl ?_
  refine A_get dX9_hasVillage_1 f_X9_28 HC_at0 rfl ?_
  refine A_get dX9_hasVillage_4 f_X9_104 (HC_at (by decide)) rfl ?_
  refine A_iload_n dX9_hasVillage_7 rfl rfl ?_
  refine A_callVi dX9_hasVillage_8 m_X9_150 cb_X3_has (As := [_]) rfl (HC_at (by decide)) rfl (c_has7 G) rfl ⟨by decide, by decide⟩ (Nat.le_of_ble_eq_true rfl) ⟨by decide, by decide⟩ (fun x8 h8 hq => ?_)
  obtain ⟨rfl, rfl⟩ := hq
  exact A_zret dX9_hasVillage_11 inI_nar ⟨rfl, rfl⟩ ⟨by decide, by decide⟩

theorem c_hasFlood (G : GX) {b : Nat} {c : CT} {co : Nat → Nat → Option Nat} {r : Nat → Option AE} {n : Nat} {v : Int32} : MA G 1 yX9_hasFlood cX9_hasFlood 2 (some .boolean) 0 0 [.ref b, .int v] (HC b c co r n) (qI fun x h1 => x = inI v (c 11 2) ∧ h1 = HC b c co r n) := by
  refine MA.of (own := RX9) false [some (.ref b), some (.int v)] (by decide +kernel) rfl (fun h => by cases h) (Nat.le_of_ble_eq_true rfl) rfl (fun X => ?_)
  refine A_aload_n dX9_hasFlood_0 rfl rfl ?_
  refine A_get dX9_hasFlood_1 f_X9_28 HC_at0 rfl ?_
  refine A_get dX9_hasFlood_4 f_X9_117 (HC_at (by decide)) rfl ?_
  refine A_iload_n dX9_hasFlood_7 rfl rfl ?_
  refine A_callVi dX9_hasFlood_8 m_X9_150 cb_X3_has (As := [_]) rfl (HC_at (by decide)) rfl (c_has11 G) rfl ⟨by decide, by decide⟩ (Nat.le_of_ble_eq_true rfl) ⟨by decide, by decide⟩ (fun x8 h8 hq => ?_)
  obtain ⟨rfl, rfl⟩ := hq
  exact A_zret dX9_hasFlood_11 inI_nar ⟨rfl, rfl⟩ ⟨by decide, by decide⟩

theorem c_hasWeek (G : GX) {b : Nat} {c : CT} {co : Nat → Nat → Option Nat} {r : Nat → Option AE} {n : Nat} {v : Int32} : MA G 0 yX9_hasWeek cX9_hasWeek 2 (some .boolean) 0 0 [.ref b, .int v] (HC b c co r n) (qI fun x h1 => x = inI v (c 6 6) ∧ h1 = HC b c co r n) := by
  refine MA.of (own := RX9) false [some (.ref b), some (.int v)] (by decide +kernel) rfl (fun h => by cases h) (Nat.le_of_ble_eq_true rfl) rfl (fun X => ?_)
  refine A_iload_n dX9_hasWeek_0 rfl rfl ?_
  refine A_if_lt 19 dX9_hasWeek_1 (by decide) (fun c1 => ?_) (fun c1 => ?_)
  · refine A_iconst (v := 0) dX9_hasWeek_19 (by decide) ?_
    exact A_zret dX9_hasWeek_20 rfl ⟨(if_pos (by first | exact Or.inl (by assumption) | exact Or.inr (by assumption))).symm, rfl⟩ ⟨by decide, by decide⟩
  · refine A_iload_n dX9_hasWeek_4 rfl rfl ?_
    refine A_aload_n dX9_hasWeek_5 rfl rfl ?_
    refine A_get dX9_hasWeek_6 f_X9_28 HC_at0 rfl ?_
    refine A_get dX9_hasWeek_9 f_X9_131 (HC_at (by decide)) rfl ?_
    refine A_icmp_ge 19 dX9_hasWeek_12 (by decide) (fun c12 => ?_) (fun c12 => ?_)
    · refine A_iconst (v := 0) dX9_hasWeek_19 (by decide) ?_
      exact A_zret dX9_hasWeek_20 rfl ⟨(if_pos (by first | exact Or.inl (by assumption) | exact Or.inr (by assumption))).symm, rfl⟩ ⟨by decide, by decide⟩
    · refine A_iconst (v := 1) dX9_hasWeek_15 (by decide) ?_
      refine A_goto 20 dX9_hasWeek_16 (by decide) ?_
      exact A_zret dX9_hasWeek_20 rfl ⟨(if_neg (fun z => z.elim c1 c12)).symm, rfl⟩ ⟨by decide, by decide⟩

theorem c_hasPlain (G : GX) {b : Nat} {c : CT} {co : Nat → Nat → Option Nat} {r : Nat → Option AE} {n : Nat} : MA G 0 yX9_hasPlain cX9_hasPlain 1 (some .boolean) 0 0 [.ref b] (HC b c co r n) (qI fun x h1 => x = (if 0 < c 6 5 then 1 else 0) ∧ h1 = HC b c co r n) := by
  refine MA.of (own := RX9) false [some (.ref b)] (by decide +kernel) rfl (fun h => by cases h) (Nat.le_of_ble_eq_true rfl) rfl (fun X => ?_)
  refine A_aload_n dX9_hasPlain_0 rfl rfl ?_
  refine A_get dX9_hasPlain_1 f_X9_28 HC_at0 rfl ?_
  refine A_get dX9_hasPlain_4 f_X9_92 (HC_at (by decide)) rfl ?_
  refine A_if_le 14 dX9_hasPlain_7 (by decide) (fun c7 => ?_) (fun c7 => ?_)
  · refine A_iconst (v := 0) dX9_hasPlain_14 (by decide) ?_
    exact A_zret dX9_hasPlain_15 rfl ⟨(if_neg (Int32.not_lt.mpr c7)).symm, rfl⟩ ⟨by decide, by decide⟩
  · refine A_iconst (v := 1) dX9_hasPlain_10 (by decide) ?_
    refine A_goto 15 dX9_hasPlain_11 (by decide) ?_
    exact A_zret dX9_hasPlain_15 rfl ⟨(if_pos (Int32.not_le.mp c7)).symm, rfl⟩ ⟨by decide, by decide⟩

theorem c_isSlot (G : GX) {h : AH} {v : Int32} : MA G 0 yX9_isSlot cX9_isSlot 1 (some .boolean) 0 0 [.int v] h (qI fun x h1 => x = inI v 4 ∧ h1 = h) := by
  refine MA.of (own := RX9) false [some (.int v)] (by decide +kernel) rfl (fun h => by cases h) (Nat.le_of_ble_eq_true rfl) rfl (fun X => ?_)
  refine A_iload_n dX9_isSlot_0 rfl rfl ?_
  refine A_if_lt 13 dX9_isSlot_1 (by decide) (fun c1 => ?_) (fun c1 => ?_)
  · refine A_iconst (v := 0) dX9_isSlot_13 (by decide) ?_
    exact A_zret dX9_isSlot_14 rfl ⟨(if_pos (by first | exact Or.inl (by assumption) | exact Or.inr (by assumption))).symm, rfl⟩ ⟨by decide, by decide⟩
  · refine A_iload_n dX9_isSlot_4 rfl rfl ?_
    refine A_iconst (v := 4) dX9_isSlot_5 (by decide) ?_
    refine A_icmp_ge 13 dX9_isSlot_6 (by decide) (fun c6 => ?_) (fun c6 => ?_)
    · refine A_iconst (v := 0) dX9_isSlot_13 (by decide) ?_
      exact A_zret dX9_isSlot_14 rfl ⟨(if_pos (by first | exact Or.inl (by assumption) | exact Or.inr (by assumption))).symm, rfl⟩ ⟨by decide, by decide⟩
    · refine A_iconst (v := 1) dX9_isSlot_9 (by decide) ?_
      refine A_goto 14 dX9_isSlot_10 (by decide) ?_
      exact A_zret dX9_isSlot_14 rfl ⟨(if_neg (fun z => z.elim c1 c6)).symm, rfl⟩ ⟨by decide, by decide⟩

def seedI (x : Int32) : Int32 := if x < 0 ∨ 2000000000 < x then 0 else 1
theorem c_isSeed (G : GX) {h : AH} {v : Int32} : MA G 0 yX9_isSeed cX9_isSeed 1 (some .boolean) 0 0 [.int v] h (qI fun x h1 => x = seedI v ∧ h1 = h) := by
  refine MA.of (own := RX9) false [some (.int v)] (by decide +kernel) rfl (fun h => by cases h) (Nat.le_of_ble_eq_true rfl) rfl (fun X => ?_)
  refine A_iload_n dX9_isSeed_0 rfl rfl ?_
  refine A_if_lt 15 dX9_isSeed_1 (by decide) (fun c1 => ?_) (fun c1 => ?_)
  · refine A_iconst (v := 0) dX9_isSeed_15 (by decide) ?_
    exact A_zret dX9_isSeed_16 rfl ⟨(if_pos (by first | exact Or.inl (by assumption) | exact Or.inr (by assumption))).symm, rfl⟩ ⟨by decide, by decide⟩
  · refine A_iload_n dX9_isSeed_4 rfl rfl ?_
    refine A_ldcw dX9_isSeed_5 w_1082 ?_
    refine A_icmp_gt 15 dX9_isSeed_8 (by decide) (fun c8 => ?_) (fun c8 => ?_)
    · refine A_iconst (v := 0) dX9_isSeed_15 (by decide) ?_
      exact A_zret dX9_isSeed_16 rfl ⟨(if_pos (by first | exact Or.inl (by assumption) | exact Or.inr (by assumption))).symm, rfl⟩ ⟨by decide, by decide⟩
    · refine A_iconst (v := 1) dX9_isSeed_11 (by decide) ?_
      refine A_goto 16 dX9_isSeed_12 (by decide) ?_
      exact A_zret dX9_isSeed_16 rfl ⟨(if_neg (fun z => z.elim c1 (fun z => c8 z))).symm, rfl⟩ ⟨by decide, by decide⟩

def pairI (c : CT) (v t : Int32) : Int32 := if inI v (c 7 2) = 0 ∨ inI t (c 7 2) = 0 ∨ v = t then 0 else 1
theorem c_arePair (G : GX) {b : Nat} {c : CT} {co : Nat → Nat → Option Nat} {r : Nat → Option AE} {n : Nat} {v t : Int32} : MA G 2 yX9_arePair cX9_arePair 3 (some .boolean) 0 0 [.ref b, .int v, .int t] (HC b c co r n) (qI fun x h1 => x = pairI c v t ∧ h1 = HC b c co r n) := by
  refine MA.of (own := RX9) false [some (.ref b), some (.int v), some (.int t)] (by decide +kernel) rfl (fun h => by cases h) (Nat.le_of_ble_eq_true rfl) rfl (fun X => ?_)
  refine A_aload_n dX9_arePair_0 rfl rfl ?_
  refine A_iload_n dX9_arePair_1 rfl rfl ?_
  refine A_callVi dX9_arePair_2 m_X9_101 cb_X9_hasVillage (As := [_]) rfl HC_at0 rfl (c_hasVillage G) rfl ⟨by decide, by decide⟩ (Nat.le_of_ble_eq_true rfl) ⟨by decide, by decide⟩ (fun x2 h2 hq => ?_)
  obtain ⟨rfl, rfl⟩ := hq
  refine A_if_eq 25 dX9_arePair_5 (by decide) (fun c5 => ?_) (fun c5 => ?_)
  · refine A_iconst (v := 0) dX9_arePair_25 (by decide) ?_
    exact A_zret dX9_arePair_26 rfl ⟨(if_pos (by first | exact Or.inl (by assumption) | exact Or.inr (Or.inl (by assumption)) | exact Or.inr (Or.inr (by assumption)))).symm, rfl⟩ ⟨by decide, by decide⟩
  · refine A_aload_n dX9_arePair_8 rfl rfl ?_
    refine A_iload_n dX9_arePair_9 rfl rfl ?_
    refine A_callVi dX9_arePair_10 m_X9_101 cb_X9_hasVillage (As := [_]) rfl HC_at0 rfl (c_hasVillage G) rfl ⟨by decide, by decide⟩ (Nat.le_of_ble_eq_true rfl) ⟨by decide, by decide⟩ (fun x10 h10 hq => ?_)
    obtain ⟨rfl, rfl⟩ := hq
    refine A_if_eq 25 dX9_arePair_13 (by decide) (fun c13 => ?_) (fun c13 => ?_)
    · refine A_iconst (v := 0) dX9_arePair_25 (by decide) ?_
      exact A_zret dX9_arePair_26 rfl ⟨(if_pos (by first | exact Or.inl (by assumption) | exact Or.inr (Or.inl (by assumption)) | exact Or.inr (Or.inr (by assumption)))).symm, rfl⟩ ⟨by decide, by decide⟩
    · refine A_iload_n dX9_arePair_16 rfl rfl ?_
      refine A_iload_n dX9_arePair_17 rfl rfl ?_
      refine A_icmp_eq 25 dX9_arePair_18 (by decide) (fun c18 => ?_) (fun c18 => ?_)
      · refine A_iconst (v := 0) dX9_arePair_25 (by decide) ?_
        exact A_zret dX9_arePair_26 rfl ⟨(if_pos (by first | exact Or.inl (by assumption) | exact Or.inr (Or.inl (by assumption)) | exact Or.inr (Or.inr (by assumption)))).symm, rfl⟩ ⟨by decide, by decide⟩
      · refine A_iconst (v := 1) dX9_arePair_21 (by decide) ?_
        refine A_goto 26 dX9_arePair_22 (by decide) ?_
        exact A_zret dX9_arePair_26 rfl ⟨(if_neg (fun z => z.elim c5 (fun z => z.elim c13 c18))).symm, rfl⟩ ⟨by decide, by decide⟩

theorem c_goYear (G : GX) {b : Nat} {c : CT} {co : Nat → Nat → Option Nat} {r : Nat → Option AE} {n : Nat} {nv nc nf nl wk : Nat} (hI : IX c nv nc nf nl wk) (hK : KX c nv nf) : MA G 5 yX9_goThroughYear cX9_goThroughYear 1 none 0 0 [.ref b] (HC b c co r n) (qV fun h1 => h1 = HC b (yrF c) co r n) := by
  refine MA.of (own := RX9) false [some (.ref b)] (by decide +kernel) rfl (fun h => by cases h) (Nat.le_of_ble_eq_true rfl) rfl (fun X => ?_)
  refine A_aload_n dX9_goThroughYear_0 rfl rfl ?_
  refine A_get dX9_goThroughYear_1 f_X9_50 HC_at0 rfl ?_
  refine A_callVv dX9_goThroughYear_4 m_X9_153 cb_X8_begin (As := []) rfl (HC_at (by decide)) rfl (c_begin G hI) rfl ⟨by decide, by decide⟩ (Nat.le_of_ble_eq_true rfl) ⟨by decide, by decide⟩ (fun h4 hq => ?_)
  obtain rfl := hq
  refine A_aload_n dX9_goThroughYear_7 rfl rfl ?_
  refine A_get dX9_goThroughYear_8 f_X9_50 HC_at0 rfl ?_
  refine A_callVv dX9_goThroughYear_11 m_X9_156 cb_X8_run (As := []) rfl (HC_at (by decide)) rfl (c_run G hI.bg (TX.bg hI hK)) rfl ⟨by decide, by decide⟩ (Nat.le_of_ble_eq_true rfl) ⟨by decide, by decide⟩ (fun h11 hq => ?_)
  obtain rfl := hq
  exact A_vret dX9_goThroughYear_14 rfl ⟨by decide, by decide⟩

def accI (g w p t : Int32) : Int32 := if t = 0 then g else if t = 1 then w else if t = 2 then p else if t = 3 then w - p else -2
theorem c_account (G : GX) {h : AH} {g w p t : Int32} : MA G 0 yX9_account cX9_account 4 (some .int) 0 0 [.int g, .int w, .int p, .int t] h (qI fun x h1 => x = accI g w p t ∧ h1 = h) := by
  refine MA.of (own := RX9) false [some (.int g), some (.int w), some (.int p), some (.int t)] (by decide +kernel) rfl (fun h => by cases h) (Nat.le_of_ble_eq_true rfl) rfl (fun X => ?_)
  refine A_iload_n dX9_account_0 rfl rfl ?_
  by_cases s1_0 : t = 0
  · subst s1_0
    refine A_tableIn 32 dX9_account_1 (by decide) (by decide) rfl (by decide) ?_
    refine A_iload_n dX9_account_32 rfl rfl ?_
    exact A_iret dX9_account_33 ⟨rfl, rfl⟩ ⟨by decide, by decide⟩
  by_cases s1_1 : t = 1
  · subst s1_1
    refine A_tableIn 34 dX9_account_1 (by decide) (by decide) rfl (by decide) ?_
    refine A_iload_n dX9_account_34 rfl rfl ?_
    exact A_iret dX9_account_35 ⟨rfl, rfl⟩ ⟨by decide, by decide⟩
  by_cases s1_2 : t = 2
  · subst s1_2
    refine A_tableIn 36 dX9_account_1 (by decide) (by decide) rfl (by decide) ?_
    refine A_iload_n dX9_account_36 rfl rfl ?_
    exact A_iret dX9_account_37 ⟨rfl, rfl⟩ ⟨by decide, by decide⟩
  by_cases s1_3 : t = 3
  · subst s1_3
    refine A_tableIn 38 dX9_account_1 (by decide) (by decide) rfl (by decide) ?_
    refine A_iload_n dX9_account_38 rfl rfl ?_
    refine A_iload_n dX9_account_39 rfl rfl ?_
    refine A_isub dX9_account_40 ?_
    exact A_iret dX9_account_41 ⟨rfl, rfl⟩ ⟨by decide, by decide⟩
  refine A_tableOut 42 dX9_account_1 (sw_out4 s1_0 s1_1 s1_2 s1_3) (by decide) ?_
  refine A_bipush (v := (-2)) dX9_account_42 (by decide) ?_
  exact A_iret dX9_account_44 ⟨by rw [accI, if_neg s1_0, if_neg s1_1, if_neg s1_2, if_neg s1_3], rfl⟩ ⟨by decide, by decide⟩

def waterA (c : CT) (v w : Int32) : Int32 := if inI v (c 7 2) = 0 ∨ inI w (c 6 6) = 0 then -2 else yrF c 31 (tcl v * 30 + tcl w)
theorem c_water (G : GX) {b : Nat} {c : CT} {co : Nat → Nat → Option Nat} {r : Nat → Option AE} {n : Nat} {nv nc nf nl wk : Nat} {v w : Int32} (hI : IX c nv nc nf nl wk) (hK : KX c nv nf) (hCa : CacheOk c (tot nv nf)) : MA G 6 yX9_water cX9_water 3 (some .int) 0 0 [.ref b, .int v, .int w] (HC b c co r n) (qI fun x h1 => x = waterA c v w ∧ ∃ c1, h1 = HC b c1 co r n ∧ keepC c c1 (tot nv nf)) := by
  refine MA.of (own := RX9) false [some (.ref b), some (.int v), some (.int w)] (by decide +kernel) rfl (fun h => by cases h) (Nat.le_of_ble_eq_true rfl) rfl (fun X => ?_)
  obtain ⟨hv, hv6, hc, hc8, hf, hf3, hl, hl8, hw, hw30, gC, gL⟩ := id hI
  refine A_aload_n dX9_water_0 rfl rfl ?_
  refine A_iload_n dX9_water_1 rfl rfl ?_
  refine A_callVi dX9_water_2 m_X9_101 cb_X9_hasVillage (As := [_]) rfl HC_at0 rfl (c_hasVillage G) rfl ⟨by decide, by decide⟩ (Nat.le_of_ble_eq_true rfl) ⟨by decide, by decide⟩ (fun x2 h2 hq => ?_)
  obtain ⟨rfl, rfl⟩ := hq
  refine A_if_eq 16 dX9_water_5 (by decide) (fun c5 => ?_) (fun c5 => ?_)
  · refine A_bipush (v := (-2)) dX9_water_16 (by decide) ?_
    exact A_iret dX9_water_18 ⟨(if_pos (by first | exact Or.inl (by assumption) | exact Or.inr (by assumption))).symm, ⟨c, rfl, keepC.rf hCa⟩⟩ ⟨by decide, by decide⟩
  · refine A_aload_n dX9_water_8 rfl rfl ?_
    refine A_iload_n dX9_water_9 rfl rfl ?_
    refine A_callVi dX9_water_10 m_X9_159 cb_X9_hasWeek (As := [_]) rfl HC_at0 rfl (c_hasWeek G) rfl ⟨by decide, by decide⟩ (Nat.le_of_ble_eq_true rfl) ⟨by decide, by decide⟩ (fun x10 h10 hq => ?_)
    obtain ⟨rfl, rfl⟩ := hq
    refine A_if_ne 19 dX9_water_13 (by decide) (fun c13 => ?_) (fun c13 => ?_)
    · refine A_aload_n dX9_water_19 rfl rfl ?_
      obtain ⟨j, hj, rfl⟩ := inI_of hv c5 (by omega)
      obtain ⟨k, hk, rfl⟩ := inI_of hw c13 (by omega)
      refine A_callVv dX9_water_20 m_X9_162 cb_X9_goThroughYear (As := []) rfl HC_at0 rfl (c_goYear G hI hK) rfl ⟨by decide, by decide⟩ (Nat.le_of_ble_eq_true rfl) ⟨by decide, by decide⟩ (fun h20 hq => ?_)
      obtain rfl := hq
      refine A_aload_n dX9_water_23 rfl rfl ?_
      refine A_get dX9_water_24 f_X9_50 HC_at0 rfl ?_
      refine A_iload_n dX9_water_27 rfl rfl ?_
      refine A_iload_n dX9_water_28 rfl rfl ?_
      refine A_callVi dX9_water_29 m_X9_165 cb_X8_waterBehind (As := [_, _]) rfl (HC_at (by decide)) rfl (c_waterBehind G (by omega) (by omega)) rfl ⟨by decide, by decide⟩ (Nat.le_of_ble_eq_true rfl) ⟨by decide, by decide⟩ (fun x29 h29 hq => ?_)
      obtain ⟨rfl, rfl⟩ := hq
      exact A_iret dX9_water_32 ⟨by rw [waterA, if_neg (fun z => z.elim c5 c13), tcl_nI (by omega), tcl_nI (by omega)], _, rfl, keepC.yr hCa⟩ ⟨by decide, by decide⟩
    · refine A_bipush (v := (-2)) dX9_water_16 (by decide) ?_
      exact A_iret dX9_water_18 ⟨(if_pos (by first | exact Or.inl (by assumption) | exact Or.inr (by assumption))).symm, ⟨c, rfl, keepC.rf hCa⟩⟩ ⟨by decide, by decide⟩

def floodA (c : CT) (v t : Int32) : Int32 := if inI v (c 11 2) = 0 then -2 else accI (yrF c 32 (tcl v)) (yrF c 33 (tcl v)) (yrF c 34 (tcl v)) t
theorem c_flood (G : GX) {b : Nat} {c : CT} {co : Nat → Nat → Option Nat} {r : Nat → Option AE} {n : Nat} {nv nc nf nl wk : Nat} {v t : Int32} (hI : IX c nv nc nf nl wk) (hK : KX c nv nf) (hCa : CacheOk c (tot nv nf)) : MA G 6 yX9_flood cX9_flood 3 (some .int) 0 0 [.ref b, .int v, .int t] (HC b c co r n) (qI fun x h1 => x = floodA c v t ∧ ∃ c1, h1 = HC b c1 co r n ∧ keepC c c1 (tot nv nf)) := by
  refine MA.of (own := RX9) false [some (.ref b), some (.int v), some (.int t)] (by decide +kernel) rfl (fun h => by cases h) (Nat.le_of_ble_eq_true rfl) rfl (fun X => ?_)
  obtain ⟨hv, hv6, hc, hc8, hf, hf3, hl, hl8, hw, hw30, gC, gL⟩ := id hI
  refine A_aload_n dX9_flood_0 rfl rfl ?_
  refine A_iload_n dX9_flood_1 rfl rfl ?_
  refine A_callVi dX9_flood_2 m_X9_114 cb_X9_hasFlood (As := [_]) rfl HC_at0 rfl (c_hasFlood G) rfl ⟨by decide, by decide⟩ (Nat.le_of_ble_eq_true rfl) ⟨by decide, by decide⟩ (fun x2 h2 hq => ?_)
  obtain ⟨rfl, rfl⟩ := hq
  refine A_if_ne 11 dX9_flood_5 (by decide) (fun c5 => ?_) (fun c5 => ?_)
  · refine A_aload_n dX9_flood_11 rfl rfl ?_
    obtain ⟨j, hj, rfl⟩ := inI_of hf c5 (by omega)
    refine A_callVv dX9_flood_12 m_X9_162 cb_X9_goThroughYear (As := []) rfl HC_at0 rfl (c_goYear G hI hK) rfl ⟨by decide, by decide⟩ (Nat.le_of_ble_eq_true rfl) ⟨by decide, by decide⟩ (fun h12 hq => ?_)
    obtain rfl := hq
    refine A_aload_n dX9_flood_15 rfl rfl ?_
    refine A_get dX9_flood_16 f_X9_50 HC_at0 rfl ?_
    refine A_get dX9_flood_19 f_X9_168 (HC_at (by decide)) rfl ?_
    refine A_iload_n dX9_flood_22 rfl rfl ?_
    refine A_ialdN dX9_flood_23 (HC_at (by decide)) (by omega) (by decide) ?_
    refine A_aload_n dX9_flood_24 rfl rfl ?_
    refine A_get dX9_flood_25 f_X9_50 HC_at0 rfl ?_
    refine A_get dX9_flood_28 f_X9_172 (HC_at (by decide)) rfl ?_
    refine A_iload_n dX9_flood_31 rfl rfl ?_
    refine A_ialdN dX9_flood_32 (HC_at (by decide)) (by omega) (by decide) ?_
    refine A_aload_n dX9_flood_33 rfl rfl ?_
    refine A_get dX9_flood_34 f_X9_50 HC_at0 rfl ?_
    refine A_get dX9_flood_37 f_X9_175 (HC_at (by decide)) rfl ?_
    refine A_iload_n dX9_flood_40 rfl rfl ?_
    refine A_ialdN dX9_flood_41 (HC_at (by decide)) (by omega) (by decide) ?_
    refine A_iload_n dX9_flood_42 rfl rfl ?_
    refine A_callSi dX9_flood_43 m_X9_178 cb_X9_account (As := [_, _, _, _]) rfl (c_account G) rfl ⟨by decide, by decide⟩ (Nat.le_of_ble_eq_true rfl) ⟨by decide, by decide⟩ (fun x43 h43 hq => ?_)
    obtain ⟨rfl, rfl⟩ := hq
    exact A_iret dX9_flood_46 ⟨by rw [floodA, if_neg c5, tcl_nI (by omega)], _, rfl, keepC.yr hCa⟩ ⟨by decide, by decide⟩
  · refine A_bipush (v := (-2)) dX9_flood_8 (by decide) ?_
    exact A_iret dX9_flood_10 ⟨(if_pos (by assumption)).symm, ⟨c, rfl, keepC.rf hCa⟩⟩ ⟨by decide, by decide⟩

def loanA (c : CT) (v t : Int32) : Int32 := if inI v (c 13 2) = 0 then -2 else accI (yrF c 35 (tcl v)) (yrF c 36 (tcl v)) (yrF c 37 (tcl v)) t
theorem c_loan (G : GX) {b : Nat} {c : CT} {co : Nat → Nat → Option Nat} {r : Nat → Option AE} {n : Nat} {nv nc nf nl wk : Nat} {v t : Int32} (hI : IX c nv nc nf nl wk) (hK : KX c nv nf) (hCa : CacheOk c (tot nv nf)) : MA G 6 yX9_loan cX9_loan 3 (some .int) 0 0 [.ref b, .int v, .int t] (HC b c co r n) (qI fun x h1 => x = loanA c v t ∧ ∃ c1, h1 = HC b c1 co r n ∧ keepC c c1 (tot nv nf)) := by
  refine MA.of (own := RX9) false [some (.ref b), some (.int v), some (.int t)] (by decide +kernel) rfl (fun h => by cases h) (Nat.le_of_ble_eq_true rfl) rfl (fun X => ?_)
  obtain ⟨hv, hv6, hc, hc8, hf, hf3, hl, hl8, hw, hw30, gC, gL⟩ := id hI
  refine A_aload_n dX9_loan_0 rfl rfl ?_
  refine A_get dX9_loan_1 f_X9_28 HC_at0 rfl ?_
  refine A_get dX9_loan_4 f_X9_140 (HC_at (by decide)) rfl ?_
  refine A_iload_n dX9_loan_7 rfl rfl ?_
  refine A_callVi dX9_loan_8 m_X9_150 cb_X3_has (As := [_]) rfl (HC_at (by decide)) rfl (c_has13 G) rfl ⟨by decide, by decide⟩ (Nat.le_of_ble_eq_true rfl) ⟨by decide, by decide⟩ (fun x8 h8 hq => ?_)
  obtain ⟨rfl, rfl⟩ := hq
  refine A_if_ne 17 dX9_loan_11 (by decide) (fun c11 => ?_) (fun c11 => ?_)
  · refine A_aload_n dX9_loan_17 rfl rfl ?_
    obtain ⟨j, hj, rfl⟩ := inI_of hl c11 (by omega)
    refine A_callVv dX9_loan_18 m_X9_162 cb_X9_goThroughYear (As := []) rfl HC_at0 rfl (c_goYear G hI hK) rfl ⟨by decide, by decide⟩ (Nat.le_of_ble_eq_true rfl) ⟨by decide, by decide⟩ (fun h18 hq => ?_)
    obtain rfl := hq
    refine A_aload_n dX9_loan_21 rfl rfl ?_
    refine A_get dX9_loan_22 f_X9_50 HC_at0 rfl ?_
    refine A_get dX9_loan_25 f_X9_182 (HC_at (by decide)) rfl ?_
    refine A_iload_n dX9_loan_28 rfl rfl ?_
    refine A_ialdN dX9_loan_29 (HC_at (by decide)) (by omega) (by decide) ?_
    refine A_aload_n dX9_loan_30 rfl rfl ?_
    refine A_get dX9_loan_31 f_X9_50 HC_at0 rfl ?_
    refine A_get dX9_loan_34 f_X9_185 (HC_at (by decide)) rfl ?_
    refine A_iload_n dX9_loan_37 rfl rfl ?_
    refine A_ialdN dX9_loan_38 (HC_at (by decide)) (by omega) (by decide) ?_
    refine A_aload_n dX9_loan_39 rfl rfl ?_
    refine A_get dX9_loan_40 f_X9_50 HC_at0 rfl ?_
    refine A_get dX9_loan_43 f_X9_188 (HC_at (by decide)) rfl ?_
    refine A_iload_n dX9_loan_46 rfl rfl ?_
    refine A_ialdN dX9_loan_47 (HC_at (by decide)) (by omega) (by decide) ?_
    refine A_iload_n dX9_loan_48 rfl rfl ?_
    refine A_callSi dX9_loan_49 m_X9_178 cb_X9_account (As := [_, _, _, _]) rfl (c_account G) rfl ⟨by decide, by decide⟩ (Nat.le_of_ble_eq_true rfl) ⟨by decide, by decide⟩ (fun x49 h49 hq => ?_)
    obtain ⟨rfl, rfl⟩ := hq
    exact A_iret dX9_loan_52 ⟨by rw [loanA, if_neg c11, tcl_nI (by omega)], _, rfl, keepC.yr hCa⟩ ⟨by decide, by decide⟩
  · refine A_bipush (v := (-2)) dX9_loan_14 (by decide) ?_
    exact A_iret dX9_loan_16 ⟨by rw [loanA, if_pos (by assumption)], ⟨c, rfl, keepC.rf hCa⟩⟩ ⟨by decide, by decide⟩

def cropA (c : CT) (v t : Int32) : Int32 := if inI v (c 9 2) = 0 then -2 else if t = 0 then yrF c 38 (tcl v) else if t = 1 then yrF c 39 (tcl v) else if t = 2 then yrF c 40 (tcl v) else -2
theorem c_crop (G : GX) {b : Nat} {c : CT} {co : Nat → Nat → Option Nat} {r : Nat → Option AE} {n : Nat} {nv nc nf nl wk : Nat} {v t : Int32} (hI : IX c nv nc nf nl wk) (hK : KX c nv nf) (hCa : CacheOk c (tot nv nf)) : MA G 6 yX9_crop cX9_crop 3 (some .int) 0 0 [.ref b, .int v, .int t] (HC b c co r n) (qI fun x h1 => x = cropA c v t ∧ ∃ c1, h1 = HC b c1 co r n ∧ keepC c c1 (tot nv nf)) := by
  refine MA.of (own := RX9) false [some (.ref b), some (.int v), some (.int t)] (by decide +kernel) rfl (fun h => by cases h) (Nat.le_of_ble_eq_true rfl) rfl (fun X => ?_)
  obtain ⟨hv, hv6, hc, hc8, hf, hf3, hl, hl8, hw, hw30, gC, gL⟩ := id hI
  refine A_aload_n dX9_crop_0 rfl rfl ?_
  refine A_get dX9_crop_1 f_X9_28 HC_at0 rfl ?_
  refine A_get dX9_crop_4 f_X9_137 (HC_at (by decide)) rfl ?_
  refine A_iload_n dX9_crop_7 rfl rfl ?_
  refine A_callVi dX9_crop_8 m_X9_150 cb_X3_has (As := [_]) rfl (HC_at (by decide)) rfl (c_has9 G) rfl ⟨by decide, by decide⟩ (Nat.le_of_ble_eq_true rfl) ⟨by decide, by decide⟩ (fun x8 h8 hq => ?_)
  obtain ⟨rfl, rfl⟩ := hq
  refine A_if_ne 17 dX9_crop_11 (by decide) (fun c11 => ?_) (fun c11 => ?_)
  · refine A_aload_n dX9_crop_17 rfl rfl ?_
    obtain ⟨j, hj, rfl⟩ := inI_of hc c11 (by omega)
    refine A_callVv dX9_crop_18 m_X9_162 cb_X9_goThroughYear (As := []) rfl HC_at0 rfl (c_goYear G hI hK) rfl ⟨by decide, by decide⟩ (Nat.le_of_ble_eq_true rfl) ⟨by decide, by decide⟩ (fun h18 hq => ?_)
    obtain rfl := hq
    refine A_iload_n dX9_crop_21 rfl rfl ?_
    by_cases s22_0 : t = 0
    · subst s22_0
      refine A_tableIn 48 dX9_crop_22 (by decide) (by decide) rfl (by decide) ?_
      refine A_aload_n dX9_crop_48 rfl rfl ?_
      refine A_get dX9_crop_49 f_X9_50 HC_at0 rfl ?_
      refine A_get dX9_crop_52 f_X9_191 (HC_at (by decide)) rfl ?_
      refine A_iload_n dX9_crop_55 rfl rfl ?_
      refine A_ialdN dX9_crop_56 (HC_at (by decide)) (by omega) (by decide) ?_
      exact A_iret dX9_crop_57 ⟨by rw [cropA, if_neg c11, tcl_nI (by omega)]; rfl, _, rfl, keepC.yr hCa⟩ ⟨by decide, by decide⟩
    by_cases s22_1 : t = 1
    · subst s22_1
      refine A_tableIn 58 dX9_crop_22 (by decide) (by decide) rfl (by decide) ?_
      refine A_aload_n dX9_crop_58 rfl rfl ?_
      refine A_get dX9_crop_59 f_X9_50 HC_at0 rfl ?_
      refine A_get dX9_crop_62 f_X9_194 (HC_at (by decide)) rfl ?_
      refine A_iload_n dX9_crop_65 rfl rfl ?_
      refine A_ialdN dX9_crop_66 (HC_at (by decide)) (by omega) (by decide) ?_
      exact A_iret dX9_crop_67 ⟨by rw [cropA, if_neg c11, tcl_nI (by omega)]; rfl, _, rfl, keepC.yr hCa⟩ ⟨by decide, by decide⟩
    by_cases s22_2 : t = 2
    · subst s22_2
      refine A_tableIn 68 dX9_crop_22 (by decide) (by decide) rfl (by decide) ?_
      refine A_aload_n dX9_crop_68 rfl rfl ?_
      refine A_get dX9_crop_69 f_X9_50 HC_at0 rfl ?_
      refine A_get dX9_crop_72 f_X9_197 (HC_at (by decide)) rfl ?_
      refine A_iload_n dX9_crop_75 rfl rfl ?_
      refine A_ialdN dX9_crop_76 (HC_at (by decide)) (by omega) (by decide) ?_
      exact A_iret dX9_crop_77 ⟨by rw [cropA, if_neg c11, tcl_nI (by omega)]; rfl, _, rfl, keepC.yr hCa⟩ ⟨by decide, by decide⟩
    refine A_tableOut 78 dX9_crop_22 (sw_out3 s22_0 s22_1 s22_2) (by decide) ?_
    refine A_bipush (v := (-2)) dX9_crop_78 (by decide) ?_
    exact A_iret dX9_crop_80 ⟨by rw [cropA, if_neg c11, if_neg s22_0, if_neg s22_1, if_neg s22_2], _, rfl, keepC.yr hCa⟩ ⟨by decide, by decide⟩
  · refine A_bipush (v := (-2)) dX9_crop_14 (by decide) ?_
    exact A_iret dX9_crop_16 ⟨by rw [cropA, if_pos (by assumption)], ⟨c, rfl, keepC.rf hCa⟩⟩ ⟨by decide, by decide⟩

theorem c_first (G : GX) {b : Nat} {c : CT} {co : Nat → Nat → Option Nat} {r : Nat → Option AE} {n : Nat} {nv nc nf nl wk : Nat} (hI : IX c nv nc nf nl wk) (hK : KX c nv nf) (hCa : CacheOk c (tot nv nf)) : MA G 6 yX9_first cX9_first 1 (some .int) 0 0 [.ref b] (HC b c co r n) (qI fun x h1 => x = (if 0 < c 6 5 then yrF c 28 19 else -2) ∧ ∃ c1, h1 = HC b c1 co r n ∧ keepC c c1 (tot nv nf)) := by
  refine MA.of (own := RX9) false [some (.ref b)] (by decide +kernel) rfl (fun h => by cases h) (Nat.le_of_ble_eq_true rfl) rfl (fun X => ?_)
  obtain ⟨hv, hv6, hc, hc8, hf, hf3, hl, hl8, hw, hw30, gC, gL⟩ := id hI
  refine A_aload_n dX9_first_0 rfl rfl ?_
  refine A_callVi dX9_first_1 m_X9_124 cb_X9_hasPlain (As := []) rfl HC_at0 rfl (c_hasPlain G) rfl ⟨by decide, by decide⟩ (Nat.le_of_ble_eq_true rfl) ⟨by decide, by decide⟩ (fun x1 h1 hq => ?_)
  obtain ⟨rfl, rfl⟩ := hq
  refine A_if_ne 10 dX9_first_4 (by decide) (fun c4 => ?_) (fun c4 => ?_)
  · refine A_aload_n dX9_first_10 rfl rfl ?_
    refine A_callVv dX9_first_11 m_X9_162 cb_X9_goThroughYear (As := []) rfl HC_at0 rfl (c_goYear G hI hK) rfl ⟨by decide, by decide⟩ (Nat.le_of_ble_eq_true rfl) ⟨by decide, by decide⟩ (fun h11 hq => ?_)
    obtain rfl := hq
    refine A_aload_n dX9_first_14 rfl rfl ?_
    refine A_get dX9_first_15 f_X9_50 HC_at0 rfl ?_
    refine A_get dX9_first_18 f_X9_216 (HC_at (by decide)) rfl ?_
    exact A_iret dX9_first_21 ⟨by rw [if_pos (by by_cases z : 0 < c 6 5; exact z; exact absurd (if_neg z) c4)], _, rfl, keepC.yr hCa⟩ ⟨by decide, by decide⟩
  · refine A_bipush (v := (-2)) dX9_first_7 (by decide) ?_
    exact A_iret dX9_first_9 ⟨by rw [if_neg (fun z => by rw [if_pos z] at c4; exact absurd c4 (by decide))], ⟨c, rfl, keepC.rf hCa⟩⟩ ⟨by decide, by decide⟩

def totF (y : CT) (t : Int32) : Int32 := if t = 0 then sumI (y 38) 8 else if t = 1 then sumI (y 33) 3 - sumI (y 34) 3 else if t = 2 then sumI (y 36) 8 - sumI (y 37) 8 else if t = 3 then y 28 16 else if t = 4 then y 28 17 else if t = 5 then y 28 18 else if t = 6 then sumI (y 32) 3 else if t = 7 then sumI (y 34) 3 else if t = 8 then sumI (y 30) 6 else -2
theorem c_sum (G : GX) {b : Nat} {c : CT} {co : Nat → Nat → Option Nat} {r : Nat → Option AE} {n : Nat} {nv nc nf nl wk : Nat} {t : Int32} (hI : IX c nv nc nf nl wk) (hK : KX c nv nf) (hCa : CacheOk c (tot nv nf)) : MA G 6 yX9_sum cX9_sum 2 (some .int) 0 0 [.ref b, .int t] (HC b c co r n) (qI fun x h1 => x = (if 0 < c 6 5 then totF (yrF c) t else -2) ∧ ∃ c1, h1 = HC b c1 co r n ∧ keepC c c1 (tot nv nf)) := by
  refine MA.of (own := RX9) false [some (.ref b), some (.int t)] (by decide +kernel) rfl (fun h => by cases h) (Nat.le_of_ble_eq_true rfl) rfl (fun X => ?_)
  obtain ⟨hv, hv6, hc, hc8, hf, hf3, hl, hl8, hw, hw30, gC, gL⟩ := id hI
  refine A_aload_n dX9_sum_0 rfl rfl ?_
  refine A_callVi dX9_sum_1 m_X9_124 cb_X9_hasPlain (As := []) rfl HC_at0 rfl (c_hasPlain G) rfl ⟨by decide, by decide⟩ (Nat.le_of_ble_eq_true rfl) ⟨by decide, by decide⟩ (fun x1 h1 hq => ?_)
  obtain ⟨rfl, rfl⟩ := hq
  refine A_if_ne 10 dX9_sum_4 (by decide) (fun c4 => ?_) (fun c4 => ?_)
  · refine A_aload_n dX9_sum_10 rfl rfl ?_
    have hp : 0 < c 6 5 := by by_cases z : 0 < c 6 5; exact z; exact absurd (if_neg z) c4
    refine A_callVv dX9_sum_11 m_X9_162 cb_X9_goThroughYear (As := []) rfl HC_at0 rfl (c_goYear G hI hK) rfl ⟨by decide, by decide⟩ (Nat.le_of_ble_eq_true rfl) ⟨by decide, by decide⟩ (fun h11 hq => ?_)
    obtain rfl := hq
    refine A_iload_n dX9_sum_14 rfl rfl ?_
    by_cases s15_0 : t = 0
    · subst s15_0
      refine A_tableIn 64 dX9_sum_15 (by decide) (by decide) rfl (by decide) ?_
      refine A_aload_n dX9_sum_64 rfl rfl ?_
      refine A_get dX9_sum_65 f_X9_50 HC_at0 rfl ?_
      refine A_get dX9_sum_68 f_X9_191 (HC_at (by decide)) rfl ?_
      refine A_callSi dX9_sum_71 m_X9_200 cb_X9_together (As := [_]) rfl (c_together G (HC_at (by decide)) (by decide)) rfl ⟨by decide, by decide⟩ (Nat.le_of_ble_eq_true rfl) ⟨by decide, by decide⟩ (fun x71 h71 hq => ?_)
      obtain ⟨rfl, rfl⟩ := hq
      exact A_iret dX9_sum_74 ⟨by rw [if_pos hp]; rfl, _, rfl, keepC.yr hCa⟩ ⟨by decide, by decide⟩
    by_cases s15_1 : t = 1
    · subst s15_1
      refine A_tableIn 75 dX9_sum_15 (by decide) (by decide) rfl (by decide) ?_
      refine A_aload_n dX9_sum_75 rfl rfl ?_
      refine A_get dX9_sum_76 f_X9_50 HC_at0 rfl ?_
      refine A_get dX9_sum_79 f_X9_172 (HC_at (by decide)) rfl ?_
      refine A_callSi dX9_sum_82 m_X9_200 cb_X9_together (As := [_]) rfl (c_together G (HC_at (by decide)) (by decide)) rfl ⟨by decide, by decide⟩ (Nat.le_of_ble_eq_true rfl) ⟨by decide, by decide⟩ (fun x82 h82 hq => ?_)
      obtain ⟨rfl, rfl⟩ := hq
      refine A_aload_n dX9_sum_85 rfl rfl ?_
      refine A_get dX9_sum_86 f_X9_50 HC_at0 rfl ?_
      refine A_get dX9_sum_89 f_X9_175 (HC_at (by decide)) rfl ?_
      refine A_callSi dX9_sum_92 m_X9_200 cb_X9_together (As := [_]) rfl (c_together G (HC_at (by decide)) (by decide)) rfl ⟨by decide, by decide⟩ (Nat.le_of_ble_eq_true rfl) ⟨by decide, by decide⟩ (fun x92 h92 hq => ?_)
      obtain ⟨rfl, rfl⟩ := hq
      refine A_isub dX9_sum_95 ?_
      exact A_iret dX9_sum_96 ⟨by rw [if_pos hp]; rfl, _, rfl, keepC.yr hCa⟩ ⟨by decide, by decide⟩
    by_cases s15_2 : t = 2
    · subst s15_2
      refine A_tableIn 97 dX9_sum_15 (by decide) (by decide) rfl (by decide) ?_
      refine A_aload_n dX9_sum_97 rfl rfl ?_
      refine A_get dX9_sum_98 f_X9_50 HC_at0 rfl ?_
      refine A_get dX9_sum_101 f_X9_185 (HC_at (by decide)) rfl ?_
      refine A_callSi dX9_sum_104 m_X9_200 cb_X9_together (As := [_]) rfl (c_together G (HC_at (by decide)) (by decide)) rfl ⟨by decide, by decide⟩ (Nat.le_of_ble_eq_true rfl) ⟨by decide, by decide⟩ (fun x104 h104 hq => ?_)
      obtain ⟨rfl, rfl⟩ := hq
      refine A_aload_n dX9_sum_107 rfl rfl ?_
      refine A_get dX9_sum_108 f_X9_50 HC_at0 rfl ?_
      refine A_get dX9_sum_111 f_X9_188 (HC_at (by decide)) rfl ?_
      refine A_callSi dX9_sum_114 m_X9_200 cb_X9_together (As := [_]) rfl (c_together G (HC_at (by decide)) (by decide)) rfl ⟨by decide, by decide⟩ (Nat.le_of_ble_eq_true rfl) ⟨by decide, by decide⟩ (fun x114 h114 hq => ?_)
      obtain ⟨rfl, rfl⟩ := hq
      refine A_isub dX9_sum_117 ?_
      exact A_iret dX9_sum_118 ⟨by rw [if_pos hp]; rfl, _, rfl, keepC.yr hCa⟩ ⟨by decide, by decide⟩
    by_cases s15_3 : t = 3
    · subst s15_3
      refine A_tableIn 119 dX9_sum_15 (by decide) (by decide) rfl (by decide) ?_
      refine A_aload_n dX9_sum_119 rfl rfl ?_
      refine A_get dX9_sum_120 f_X9_50 HC_at0 rfl ?_
      refine A_get dX9_sum_123 f_X9_204 (HC_at (by decide)) rfl ?_
      exact A_iret dX9_sum_126 ⟨by rw [if_pos hp]; rfl, _, rfl, keepC.yr hCa⟩ ⟨by decide, by decide⟩
    by_cases s15_4 : t = 4
    · subst s15_4
      refine A_tableIn 127 dX9_sum_15 (by decide) (by decide) rfl (by decide) ?_
      refine A_aload_n dX9_sum_127 rfl rfl ?_
      refine A_get dX9_sum_128 f_X9_50 HC_at0 rfl ?_
      refine A_get dX9_sum_131 f_X9_207 (HC_at (by decide)) rfl ?_
      exact A_iret dX9_sum_134 ⟨by rw [if_pos hp]; rfl, _, rfl, keepC.yr hCa⟩ ⟨by decide, by decide⟩
    by_cases s15_5 : t = 5
    · subst s15_5
      refine A_tableIn 135 dX9_sum_15 (by decide) (by decide) rfl (by decide) ?_
      refine A_aload_n dX9_sum_135 rfl rfl ?_
      refine A_get dX9_sum_136 f_X9_50 HC_at0 rfl ?_
      refine A_get dX9_sum_139 f_X9_210 (HC_at (by decide)) rfl ?_
      exact A_iret dX9_sum_142 ⟨by rw [if_pos hp]; rfl, _, rfl, keepC.yr hCa⟩ ⟨by decide, by decide⟩
    by_cases s15_6 : t = 6
    · subst s15_6
      refine A_tableIn 143 dX9_sum_15 (by decide) (by decide) rfl (by decide) ?_
      refine A_aload_n dX9_sum_143 rfl rfl ?_
      refine A_get dX9_sum_144 f_X9_50 HC_at0 rfl ?_
      refine A_get dX9_sum_147 f_X9_168 (HC_at (by decide)) rfl ?_
      refine A_callSi dX9_sum_150 m_X9_200 cb_X9_together (As := [_]) rfl (c_together G (HC_at (by decide)) (by decide)) rfl ⟨by decide, by decide⟩ (Nat.le_of_ble_eq_true rfl) ⟨by decide, by decide⟩ (fun x150 h150 hq => ?_)
      obtain ⟨rfl, rfl⟩ := hq
      exact A_iret dX9_sum_153 ⟨by rw [if_pos hp]; rfl, _, rfl, keepC.yr hCa⟩ ⟨by decide, by decide⟩
    by_cases s15_7 : t = 7
    · subst s15_7
      refine A_tableIn 154 dX9_sum_15 (by decide) (by decide) rfl (by decide) ?_
      refine A_aload_n dX9_sum_154 rfl rfl ?_
      refine A_get dX9_sum_155 f_X9_50 HC_at0 rfl ?_
      refine A_get dX9_sum_158 f_X9_175 (HC_at (by decide)) rfl ?_
      refine A_callSi dX9_sum_161 m_X9_200 cb_X9_together (As := [_]) rfl (c_together G (HC_at (by decide)) (by decide)) rfl ⟨by decide, by decide⟩ (Nat.le_of_ble_eq_true rfl) ⟨by decide, by decide⟩ (fun x161 h161 hq => ?_)
      obtain ⟨rfl, rfl⟩ := hq
      exact A_iret dX9_sum_164 ⟨by rw [if_pos hp]; rfl, _, rfl, keepC.yr hCa⟩ ⟨by decide, by decide⟩
    by_cases s15_8 : t = 8
    · subst s15_8
      refine A_tableIn 165 dX9_sum_15 (by decide) (by decide) rfl (by decide) ?_
      refine A_aload_n dX9_sum_165 rfl rfl ?_
      refine A_get dX9_sum_166 f_X9_50 HC_at0 rfl ?_
      refine A_get dX9_sum_169 f_X9_213 (HC_at (by decide)) rfl ?_
      refine A_callSi dX9_sum_172 m_X9_200 cb_X9_together (As := [_]) rfl (c_together G (HC_at (by decide)) (by decide)) rfl ⟨by decide, by decide⟩ (Nat.le_of_ble_eq_true rfl) ⟨by decide, by decide⟩ (fun x172 h172 hq => ?_)
      obtain ⟨rfl, rfl⟩ := hq
      exact A_iret dX9_sum_175 ⟨by rw [if_pos hp]; rfl, _, rfl, keepC.yr hCa⟩ ⟨by decide, by decide⟩
    refine A_tableOut 176 dX9_sum_15 (sw_out9 s15_0 s15_1 s15_2 s15_3 s15_4 s15_5 s15_6 s15_7 s15_8) (by decide) ?_
    refine A_bipush (v := (-2)) dX9_sum_176 (by decide) ?_
    exact A_iret dX9_sum_178 ⟨by rw [if_pos hp, totF, if_neg s15_0, if_neg s15_1, if_neg s15_2, if_neg s15_3, if_neg s15_4, if_neg s15_5, if_neg s15_6, if_neg s15_7, if_neg s15_8], _, rfl, keepC.yr hCa⟩ ⟨by decide, by decide⟩
  · refine A_bipush (v := (-2)) dX9_sum_7 (by decide) ?_
    exact A_iret dX9_sum_9 ⟨by rw [if_neg (fun z => by rw [if_pos z] at c4; exact absurd c4 (by decide))], ⟨c, rfl, keepC.rf hCa⟩⟩ ⟨by decide, by decide⟩
