/-! enough, FAIR, MELONS, CANALS -/
def sameQ (c c' : CT) : Prop := ∀ l, l ≤ 27 ∨ 42 ≤ l → c' l = c l
theorem sameQ.rf {c : CT} : sameQ c c := fun _ _ => rfl
theorem sameQ.tr {a b c : CT} (h : sameQ a b) (h2 : sameQ b c) : sameQ a c := fun l hl => (h2 l hl).trans (h l hl)
theorem sameQ.P {c c' : CT} (h : sameP c c') : sameQ c c' := fun l hl => h l (by omega)
theorem sameQ.bg {c : CT} : sameQ c (beginF c) := fun l hl => beginF_l (by omega)
theorem sameQ.put {c : CT} {k i : Nat} {v : Int32} (hk : 27 < k) (hk2 : k < 42) : sameQ c (put c k i v) := fun l hl => put_ne (by omega)
theorem IX.Q {c c' : CT} {nv nc nf nl wk : Nat} (h : IX c nv nc nf nl wk) (e : sameQ c c') : IX c' nv nc nf nl wk := h.to (fun l hl => e l (Or.inl (by omega)))
theorem KX.to {c c' : CT} {nv nf : Nat} (h : KX c nv nf) (e : c' 12 = c 12) : KX c' nv nf := by
  intro i hi
  have := h i hi
  unfold tkn at *
  rw [e]
  exact this
theorem keepC.Q {c c' : CT} {N : Nat} (h : CacheOk c N) (e : sameQ c c') : keepC c c' N := keepC.of h (fun l hl => e l (by omega))
theorem beginF_Y {c c' : CT} (h : sameQ c c') : EqY (beginF c) (beginF c') := by
  have e7 := h 7 (by decide)
  have e8 := h 8 (by decide)
  have e11 := h 11 (by decide)
  have e12 := h 12 (by decide)
  have e6 := h 6 (by decide)
  have eT : tkF c' = tkF c := by unfold tkF; rw [e12, e11]
  have eW : waF c' = waF c := by unfold waF; rw [e7, e8]
  refine ⟨⟨fun l a b z => ?_, fun j hj => ?_⟩, fun l a b z => ?_, ?_⟩
  · rw [beginF_l (by omega), beginF_l (by omega)]; exact h l (by omega)
  · rw [beginF_l (by omega), beginF_l (by omega), e12]
  · have hl : l = 29 ∨ l = 30 ∨ l = 32 ∨ l = 33 ∨ l = 34 ∨ l = 35 ∨ l = 36 ∨ l = 37 ∨ l = 38 ∨ l = 39 ∨ l = 40 ∨ l = 41 := by omega
    rcases hl with rfl | rfl | rfl | rfl | rfl | rfl | rfl | rfl | rfl | rfl | rfl | rfl <;> simp [beginF, put, st1, eT, eW]
  · simp [beginF, put, st1, e6]
/-- a YEAR week by week, until a village stays dry -/
def ndR (v : Nat) : Nat → Nat → CT → Bool × CT
  | _, 0, y => (true, y)
  | w, k + 1, y => if ¬ passF w y 41 v = 0 then (false, passF w y) else ndR v (w + 1) k (passF w y)
theorem ndR_Y {v : Nat} : ∀ (k w : Nat) (y y' : CT), EqY y y' → (ndR v w k y').1 = (ndR v w k y).1
  | 0, _, _, _, _ => rfl
  | k + 1, w, y, y', h => by
    have h1 := passF_Y (w := w) h
    rw [ndR, ndR, h1.lab (l := 41) (by decide)]
    split
    · rfl
    · exact ndR_Y k (w + 1) _ _ h1
theorem ndR_Q {v : Nat} (k : Nat) : ∀ (w : Nat) (c y : CT), sameQ c y → sameQ c (ndR v w k y).2 := by
  induction k with
  | zero => intro w c y h; rw [ndR]; exact h
  | succ k ih =>
    intro w c y h
    have h1 : sameQ c (passF w y) := h.tr (sameQ.P (passF_P (w := w)))
    rw [ndR]
    generalize passF w y = z at h1 ⊢
    by_cases hz : ¬ z 41 v = 0
    · rw [if_pos hz]; exact h1
    · rw [if_neg hz]; exact ih (w + 1) c z h1
def ndS (c : CT) (v l : Nat) : CT := put (beginF c) 30 v (nI l)
theorem ndS_Y {c c' : CT} (h : sameQ c c') (v l : Nat) : EqY (ndS c v l) (ndS c' v l) := (beginF_Y h).put (by decide)
theorem ndS_Q {c : CT} {v l : Nat} : sameQ c (ndS c v l) := sameQ.bg.tr (sameQ.put (by decide) (by decide))
def enF (P : Nat → Bool) : Nat → Nat → Int32
  | _, 0 => -1
  | i, k + 1 => if P i then nI i else enF P (i + 1) k
def ndP (c : CT) (v wk : Nat) (l : Nat) : Bool := (ndR v 0 wk (ndS c v l)).1
theorem ndP_Q {c c' : CT} (h : sameQ c c') (v wk l : Nat) : ndP c' v wk l = ndP c v wk l := ndR_Y wk 0 _ _ (ndS_Y h v l)
def enoughA (c : CT) (wk : Nat) (v : Int32) : Int32 := if inI v (c 7 2) = 0 then -2 else enF (ndP c (tcl v) wk) 0 (tcl (c 8 (5 * tcl v + 0)) + 1)

theorem i32_asc (x y : Int32) : x + (y - x) = y := by rw [Int32.add_comm, Int32.sub_add_cancel]
theorem c_wasDryN (G : GX) {b : Nat} {c : CT} {co : Nat → Nat → Option Nat} {r : Nat → Option AE} {n v : Nat} (hv : v < 6) : MA G 0 yX8_wasDry cX8_wasDry 2 (some .boolean) 0 0 [.ref (b + 28), .int (nI v)] (HC b c co r n) (qI fun y h1 => y = (if c 41 v = 0 then 0 else 1) ∧ h1 = HC b c co r n) := by
  have e := c_wasDry G (b := b) (c := c) (co := co) (r := r) (n := n) (vp_in_nI hv (by decide))
  rw [tcl, nI_clamp (by omega)] at e
  exact e
theorem c_neverDry (G : GX) {b : Nat} {c : CT} {co : Nat → Nat → Option Nat} {r : Nat → Option AE} {n : Nat} {nv nc nf nl wk : Nat} {j l : Nat} (hI : IX c nv nc nf nl wk) (hK : KX c nv nf) (hj : j < nv) : MA G 4 yX9_neverDry cX9_neverDry 4 (some .boolean) 0 0 [.ref b, .int (nI j), .int (nI l)] (HC b c co r n) (qI fun x h1 => x = (if (ndR j 0 wk (ndS c j l)).1 then 1 else 0) ∧ h1 = HC b (ndR j 0 wk (ndS c j l)).2 co r n) := by
  refine MA.of (own := RX9) false [some (.ref b), some (.int (nI j)), some (.int (nI l)), none] (by decide +kernel) rfl (fun h => by cases h) (Nat.le_of_ble_eq_true rfl) rfl (fun X => ?_)
  obtain ⟨T, hTe⟩ : ∃ T, ndR j 0 wk (ndS c j l) = T := ⟨_, rfl⟩
  rw [hTe]
  obtain ⟨hv, hv6, hc, hc8, hf, hf3, hl, hl8, hw, hw30, gC, gL⟩ := id hI
  have loop : ∀ (k i : Nat) (y : CT), i + k = wk → (IX y nv nc nf nl wk) → (TX y nv nf) → (ndR j i k y = T) → WA X G RX9 cX9_neverDry false (some .boolean) (qI fun x h1 => x = (if T.1 then 1 else 0) ∧ h1 = HC b T.2 co r n) 4 0 0 (HC b y co r n) 0 0 27 [some (.ref b), some (.int (nI j)), some (.int (nI l)), some (.int (nI i))] [] := by
    intro k
    induction k with
    | zero =>
      intro i y hk hIy hTy hT
      refine A_iload_n dX9_neverDry_27 rfl rfl ?_
      refine A_aload_n dX9_neverDry_28 rfl rfl ?_
      refine A_get dX9_neverDry_29 f_X9_28 HC_at0 rfl ?_
      refine A_get dX9_neverDry_32 f_X9_131 (HC_at (by decide)) rfl ?_
      refine A_icmp_ge 65 dX9_neverDry_35 (by decide) (fun c35 => ?_) (fun c35 => ?_)
      · refine A_iconst (v := 1) dX9_neverDry_65 (by decide) ?_
        exact A_zret dX9_neverDry_66 rfl ⟨by rw [← hT]; rfl, by rw [← hT]; rfl⟩ ⟨by decide, by decide⟩
      · exact absurd (by rw [hIy.2.2.2.2.2.2.2.2.1]; exact nI_le (by omega) (by omega)) c35
    | succ k ih =>
      intro i y hk hIy hTy hT
      have hi : i < wk := by omega
      refine A_iload_n dX9_neverDry_27 rfl rfl ?_
      refine A_aload_n dX9_neverDry_28 rfl rfl ?_
      refine A_get dX9_neverDry_29 f_X9_28 HC_at0 rfl ?_
      refine A_get dX9_neverDry_32 f_X9_131 (HC_at (by decide)) rfl ?_
      refine A_icmp_ge 65 dX9_neverDry_35 (by decide) (fun c35 => ?_) (fun c35 => ?_)
      · exact absurd c35 (by rw [hIy.2.2.2.2.2.2.2.2.1]; exact nI_ge (by omega) (by omega))
      · refine A_aload_n dX9_neverDry_38 rfl rfl ?_
        refine A_get dX9_neverDry_39 f_X9_50 HC_at0 rfl ?_
        refine A_iload_n dX9_neverDry_42 rfl rfl ?_
        refine A_callVv dX9_neverDry_43 m_X9_333 cb_X8_pass (As := [_]) rfl (HC_at (by decide)) rfl (c_pass G hIy hTy (by omega)) rfl ⟨by decide, by decide⟩ (Nat.le_of_ble_eq_true rfl) ⟨by decide, by decide⟩ (fun h43 hq => ?_)
        obtain rfl := hq
        obtain ⟨z, ez⟩ : ∃ z, passF i y = z := ⟨_, rfl⟩
        have hIz : IX z nv nc nf nl wk := ez ▸ hIy.P (passF_P (w := i))
        have hTz : TX z nv nf := ez ▸ hTy.P (passF_P (w := i))
        rw [ndR, ez] at hT
        rw [ez]
        refine A_aload_n dX9_neverDry_46 rfl rfl ?_
        refine A_get dX9_neverDry_47 f_X9_50 HC_at0 rfl ?_
        refine A_iload_n dX9_neverDry_50 rfl rfl ?_
        refine A_callVi dX9_neverDry_51 m_X9_336 cb_X8_wasDry (As := [_]) rfl (HC_at (by decide)) rfl (c_wasDryN G (by omega)) rfl ⟨by decide, by decide⟩ (Nat.le_of_ble_eq_true rfl) ⟨by decide, by decide⟩ (fun x51 h51 hq => ?_)
        obtain ⟨rfl, rfl⟩ := hq
        refine A_if_eq 59 dX9_neverDry_54 (by decide) (fun c54 => ?_) (fun c54 => ?_)
        · have cz : ¬ ¬ z 41 j = 0 := fun q => by rw [if_neg q] at c54; exact absurd c54 (by decide)
          refine A_inc 1 (lv1 := [_, _, _, _]) dX9_neverDry_59 rfl (by decide) rfl rfl ?_
          refine A_goto 27 dX9_neverDry_62 (by decide) ?_
          rw [nI_1]
          exact ih (i + 1) _ (by omega) hIz hTz (by rw [← hT, if_neg cz])
        · have cz : ¬ z 41 j = 0 := fun q => c54 (if_pos q)
          refine A_iconst (v := 0) dX9_neverDry_57 (by decide) ?_
          exact A_zret dX9_neverDry_58 rfl ⟨by rw [← hT, if_pos cz]; rfl, by rw [← hT, if_pos cz]⟩ ⟨by decide, by decide⟩
  refine A_aload_n dX9_neverDry_0 rfl rfl ?_
  refine A_get dX9_neverDry_1 f_X9_50 HC_at0 rfl ?_
  refine A_callVv dX9_neverDry_4 m_X9_153 cb_X8_begin (As := []) rfl (HC_at (by decide)) rfl (c_begin G hI) rfl ⟨by decide, by decide⟩ (Nat.le_of_ble_eq_true rfl) ⟨by decide, by decide⟩ (fun h4 hq => ?_)
  obtain rfl := hq
  refine A_aload_n dX9_neverDry_7 rfl rfl ?_
  refine A_get dX9_neverDry_8 f_X9_50 HC_at0 rfl ?_
  refine A_iload_n dX9_neverDry_11 rfl rfl ?_
  refine A_iload_n dX9_neverDry_12 rfl rfl ?_
  refine A_aload_n dX9_neverDry_13 rfl rfl ?_
  refine A_get dX9_neverDry_14 f_X9_50 HC_at0 rfl ?_
  refine A_iload_n dX9_neverDry_17 rfl rfl ?_
  refine A_callVi dX9_neverDry_18 m_X9_311 cb_X8_waterOf (As := [_]) rfl (HC_at (by decide)) rfl (c_waterOfN G (by omega)) rfl ⟨by decide, by decide⟩ (Nat.le_of_ble_eq_true rfl) ⟨by decide, by decide⟩ (fun x18 h18 hq => ?_)
  obtain ⟨rfl, rfl⟩ := hq
  refine A_isub dX9_neverDry_21 ?_
  refine A_callVv dX9_neverDry_22 m_X9_329 cb_X8_add (As := [_, _]) rfl (HC_at (by decide)) rfl (c_addW G (vp_in_nI (show j < 6 by omega) (by decide))) rfl ⟨by decide, by decide⟩ (Nat.le_of_ble_eq_true rfl) ⟨by decide, by decide⟩ (fun h22 hq => ?_)
  obtain rfl := hq
  refine WA_h (congrArg (fun z => HC b z co r n) (show _ = ndS c j l from ?_)) ?_
  · rw [tcl, nI_clamp (by omega), i32_asc]; rfl
  refine A_iconst (v := 0) dX9_neverDry_25 (by decide) ?_
  refine A_istore_n (lv1 := [_, _, _, _]) dX9_neverDry_26 rfl (Nat.le_of_ble_eq_true rfl) rfl rfl ?_
  exact loop wk 0 _ (by omega) (hI.bg.P (sameP.put (by decide))) ((TX.bg hI hK).P (sameP.put (by decide))) hTe

theorem enough_w (G : GX) (X : XC) {b : Nat} {c : CT} {co : Nat → Nat → Option Nat} {r : Nat → Option AE} {n : Nat} {nv nc nf nl wk : Nat} {j p : Nat} (hI : IX c nv nc nf nl wk) (hK : KX c nv nf) (hCa : CacheOk c (tot nv nf)) (hj : j < nv) (hp : p ≤ 9999) : WA X G RX9 cX9_enough false (some .int) (qI fun x h1 => x = enF (ndP c j wk) 0 (p + 1) ∧ ∃ c1, h1 = HC b c1 co r n ∧ keepC c c1 (tot nv nf)) 5 0 0 (HC b c co r n) 0 0 26 [some (.ref b), some (.int (nI j)), some (.int (nI p)), some (.int (nI 0))] [] := by
  obtain ⟨T, hTe⟩ : ∃ T, enF (ndP c j wk) 0 (p + 1) = T := ⟨_, rfl⟩
  rw [hTe]
  have loop : ∀ (k i : Nat) (y : CT), i + k = p + 1 → (sameQ c y) → (enF (ndP c j wk) i k = T) → WA X G RX9 cX9_enough false (some .int) (qI fun x h1 => x = T ∧ ∃ c1, h1 = HC b c1 co r n ∧ keepC c c1 (tot nv nf)) 5 0 0 (HC b y co r n) 0 0 26 [some (.ref b), some (.int (nI j)), some (.int (nI p)), some (.int (nI i))] [] := by
    intro k
    induction k with
    | zero =>
      intro i y hk hy hT
      refine A_iload_n dX9_enough_26 rfl rfl ?_
      refine A_iload_n dX9_enough_27 rfl rfl ?_
      refine A_icmp_gt 48 dX9_enough_28 (by decide) (fun c28 => ?_) (fun c28 => ?_)
      · refine A_iconst (v := (-1)) dX9_enough_48 (by decide) ?_
        exact A_iret dX9_enough_49 ⟨by rw [← hT]; rfl, _, rfl, keepC.Q hCa hy⟩ ⟨by decide, by decide⟩
      · exact absurd (nI_lt (by omega) (by omega)) c28
    | succ k ih =>
      intro i y hk hy hT
      have hi : i < p + 1 := by omega
      refine A_iload_n dX9_enough_26 rfl rfl ?_
      refine A_iload_n dX9_enough_27 rfl rfl ?_
      refine A_icmp_gt 48 dX9_enough_28 (by decide) (fun c28 => ?_) (fun c28 => ?_)
      · exact absurd c28 (nI_nlt (by omega) (by omega))
      · refine A_aload_n dX9_enough_31 rfl rfl ?_
        refine A_iload_n dX9_enough_32 rfl rfl ?_
        refine A_iload_n dX9_enough_33 rfl rfl ?_
        refine A_callVi dX9_enough_34 m_X9_325 cb_X9_neverDry (As := [_, _]) rfl HC_at0 rfl (c_neverDry G (hI.Q hy) (hK.to (hy 12 (by decide))) hj) rfl ⟨by decide, by decide⟩ (Nat.le_of_ble_eq_true rfl) ⟨by decide, by decide⟩ (fun x34 h34 hq => ?_)
        obtain ⟨rfl, rfl⟩ := hq
        have eP : (ndR j 0 wk (ndS y j i)).1 = ndP c j wk i := ndP_Q hy j wk i
        have hy2 := hy.tr (ndR_Q (v := j) wk 0 _ _ (ndS_Q (v := j) (l := i)))
        rw [eP]
        refine A_if_eq 42 dX9_enough_37 (by decide) (fun c37 => ?_) (fun c37 => ?_)
        · have cp : ¬ ndP c j wk i = true := fun z => by rw [if_pos z] at c37; exact absurd c37 (by decide)
          refine A_inc 1 (lv1 := [_, _, _, _]) dX9_enough_42 rfl (by decide) rfl rfl ?_
          refine A_goto 26 dX9_enough_45 (by decide) ?_
          rw [nI_1]
          exact ih (i + 1) _ (by omega) hy2 (by rw [← hT, enF, if_neg cp])
        · have cp : ndP c j wk i = true := by by_cases z : ndP c j wk i = true; exact z; exact absurd (if_neg z) c37
          refine A_iload_n dX9_enough_40 rfl rfl ?_
          exact A_iret dX9_enough_41 ⟨by rw [← hT, enF, if_pos cp], _, rfl, keepC.Q hCa hy2⟩ ⟨by decide, by decide⟩
  exact loop (p + 1) 0 c (by omega) sameQ.rf hTe
theorem c_enough (G : GX) {b : Nat} {c : CT} {co : Nat → Nat → Option Nat} {r : Nat → Option AE} {n : Nat} {nv nc nf nl wk : Nat} {v : Int32} (hI : IX c nv nc nf nl wk) (hK : KX c nv nf) (hCa : CacheOk c (tot nv nf)) (hP : ∀ j, j < nv → ∃ p, p ≤ 9999 ∧ c 8 (5 * j + 0) = nI p) : MA G 5 yX9_enough cX9_enough 4 (some .int) 0 0 [.ref b, .int v] (HC b c co r n) (qI fun x h1 => x = enoughA c wk v ∧ ∃ c1, h1 = HC b c1 co r n ∧ keepC c c1 (tot nv nf)) := by
  refine MA.of (own := RX9) false [some (.ref b), some (.int v), none, none] (by decide +kernel) rfl (fun h => by cases h) (Nat.le_of_ble_eq_true rfl) rfl (fun X => ?_)
  obtain ⟨hv, hv6, hc, hc8, hf, hf3, hl, hl8, hw, hw30, gC, gL⟩ := id hI
  refine A_aload_n dX9_enough_0 rfl rfl ?_
  refine A_iload_n dX9_enough_1 rfl rfl ?_
  refine A_callVi dX9_enough_2 m_X9_101 cb_X9_hasVillage (As := [_]) rfl HC_at0 rfl (c_hasVillage G) rfl ⟨by decide, by decide⟩ (Nat.le_of_ble_eq_true rfl) ⟨by decide, by decide⟩ (fun x2 h2 hq => ?_)
  obtain ⟨rfl, rfl⟩ := hq
  refine A_if_ne 11 dX9_enough_5 (by decide) (fun c5 => ?_) (fun c5 => ?_)
  · obtain ⟨j, hj, rfl⟩ := inI_of hv c5 (by omega)
    obtain ⟨p, hp, ep⟩ := hP j hj
    rw [show enoughA c wk (nI j) = enF (ndP c j wk) 0 (p + 1) by rw [enoughA, if_neg c5, tcl_nI (by omega), ep, tcl_nI (by omega)]]
    refine A_aload_n dX9_enough_11 rfl rfl ?_
    refine A_get dX9_enough_12 f_X9_28 HC_at0 rfl ?_
    refine A_get dX9_enough_15 f_X9_104 (HC_at (by decide)) rfl ?_
    refine A_iload_n dX9_enough_18 rfl rfl ?_
    refine A_iconst (v := 0) dX9_enough_19 (by decide) ?_
    refine A_callVi dX9_enough_20 m_X9_108 cb_X3_at (As := [_, _]) rfl (HC_at (by decide)) rfl (c_at7 G b _ co r n 0 hv hv6 hj (by decide)) rfl ⟨by decide, by decide⟩ (Nat.le_of_ble_eq_true rfl) ⟨by decide, by decide⟩ (fun x20 h20 hq => ?_)
    obtain ⟨rfl, rfl⟩ := hq
    refine A_eqI ep ?_
    refine A_istore_n (lv1 := [_, _, _, _]) dX9_enough_23 rfl (Nat.le_of_ble_eq_true rfl) rfl rfl ?_
    refine A_iconst (v := 0) dX9_enough_24 (by decide) ?_
    refine A_istore_n (lv1 := [_, _, _, _]) dX9_enough_25 rfl (Nat.le_of_ble_eq_true rfl) rfl rfl ?_
    exact enough_w G X hI hK hCa hj hp
  · refine A_bipush (v := (-2)) dX9_enough_8 (by decide) ?_
    exact A_iret dX9_enough_10 ⟨(if_pos (by assumption)).symm, ⟨c, rfl, keepC.rf hCa⟩⟩ ⟨by decide, by decide⟩

def wlS (y : CT) (v s : Int32) : Nat → Int32
  | 0 => s
  | i + 1 => if y 10 (5 * i + 0) = v then wlS y v s i + y 38 i else wlS y v s i
def wlC (c : CT) (p z : Int32) : CT := put (put (beginF c) 28 2 p) 28 3 z
def wlY (c : CT) (p z : Int32) : CT := runF (wlC c p z)
def wlA (c : CT) (nc j : Nat) (p z : Int32) : Int32 := wlS (wlY c p z) (nI j) (wlY c p z 30 j) nc
theorem wlY_Q {c : CT} {p z : Int32} : sameQ c (wlY c p z) := ((sameQ.bg.tr (sameQ.put (by decide) (by decide))).tr (sameQ.put (by decide) (by decide))).tr (sameQ.P runF_P)
theorem wlY_Y {c c' : CT} (h : sameQ c c') (p z : Int32) : EqY (wlY c p z) (wlY c' p z) := runF_Y (((beginF_Y h).put (by decide)).put (by decide))
theorem wlS_Y {y y' : CT} (h : EqY y y') (v s : Int32) : ∀ k, wlS y' v s k = wlS y v s k
  | 0 => rfl
  | k + 1 => by rw [wlS, wlS, wlS_Y h v s k, h.lab (l := 10) (by decide), h.lab (l := 38) (by decide)]
theorem wlA_Q {c c' : CT} (h : sameQ c c') (nc j : Nat) (p z : Int32) : wlA c' nc j p z = wlA c nc j p z := by
  unfold wlA
  rw [wlS_Y (wlY_Y h p z), (wlY_Y h p z).lab (l := 30) (by decide)]
def faP (c : CT) (nc j : Nat) (p : Nat) : Bool := !decide (wlA c nc j (nI p) (-1) < wlA c nc j (nI p) (nI j))
def fairA (c : CT) (nc : Nat) (v : Int32) : Int32 := if inI v (c 7 2) = 0 then -2 else enF (faP c nc (tcl v)) 0 101
theorem wealth_w (G : GX) (X : XC) {b : Nat} {y : CT} {co : Nat → Nat → Option Nat} {r : Nat → Option AE} {n nc j : Nat} {p z : Int32} (hcy : y 9 2 = nI nc) (hc8 : nc ≤ 8) : WA X G RX9 cX9_wealth false (some .int) (qI fun x h1 => x = wlS y (nI j) (y 30 j) nc ∧ h1 = HC b y co r n) 5 0 0 (HC b y co r n) 0 0 43 [some (.ref b), some (.int (nI j)), some (.int p), some (.int z), some (.int (y 30 j)), some (.int 0)] [] := by
  have loop : ∀ (k i : Nat) , i + k = nc → WA X G RX9 cX9_wealth false (some .int) (qI fun x h1 => x = wlS y (nI j) (y 30 j) nc ∧ h1 = HC b y co r n) 5 0 0 (HC b y co r n) 0 0 43 [some (.ref b), some (.int (nI j)), some (.int p), some (.int z), some (.int (wlS y (nI j) (y 30 j) i)), some (.int (nI i))] [] := by
    intro k
    induction k with
    | zero =>
      intro i  hk 
      refine A_iload dX9_wealth_43 rfl ?_
      refine A_aload_n dX9_wealth_45 rfl rfl ?_
      refine A_get dX9_wealth_46 f_X9_28 HC_at0 rfl ?_
      refine A_get dX9_wealth_49 f_X9_137 (HC_at (by decide)) rfl ?_
      refine A_get dX9_wealth_52 f_X9_134 (HC_at (by decide)) rfl ?_
      refine A_icmp_ge 96 dX9_wealth_55 (by decide) (fun c55 => ?_) (fun c55 => ?_)
      · refine A_iload dX9_wealth_96 rfl ?_
        exact A_iret dX9_wealth_98 ⟨by rw [show i = nc by omega], rfl⟩ ⟨by decide, by decide⟩
      · exact absurd (by rw [hcy]; exact nI_le (by omega) (by omega)) c55
    | succ k ih =>
      intro i  hk 
      have hi : i < nc := by omega
      refine A_iload dX9_wealth_43 rfl ?_
      refine A_aload_n dX9_wealth_45 rfl rfl ?_
      refine A_get dX9_wealth_46 f_X9_28 HC_at0 rfl ?_
      refine A_get dX9_wealth_49 f_X9_137 (HC_at (by decide)) rfl ?_
      refine A_get dX9_wealth_52 f_X9_134 (HC_at (by decide)) rfl ?_
      refine A_icmp_ge 96 dX9_wealth_55 (by decide) (fun c55 => ?_) (fun c55 => ?_)
      · exact absurd c55 (by rw [hcy]; exact nI_ge (by omega) (by omega))
      · refine A_aload_n dX9_wealth_58 rfl rfl ?_
        refine A_get dX9_wealth_59 f_X9_28 HC_at0 rfl ?_
        refine A_get dX9_wealth_62 f_X9_137 (HC_at (by decide)) rfl ?_
        refine A_iload dX9_wealth_65 rfl ?_
        refine A_iconst (v := 0) dX9_wealth_67 (by decide) ?_
        refine A_callVi dX9_wealth_68 m_X9_108 cb_X3_at (As := [_, _]) rfl (HC_at (by decide)) rfl (c_at9 G b _ co r n 0 hcy hc8 (by omega) (by decide)) rfl ⟨by decide, by decide⟩ (Nat.le_of_ble_eq_true rfl) ⟨by decide, by decide⟩ (fun x68 h68 hq => ?_)
        obtain ⟨rfl, rfl⟩ := hq
        refine A_iload_n dX9_wealth_71 rfl rfl ?_
        refine A_icmp_ne 90 dX9_wealth_72 (by decide) (fun c72 => ?_) (fun c72 => ?_)
        · refine A_inc 1 (lv1 := [_, _, _, _, _, _]) dX9_wealth_90 rfl (by decide) rfl rfl ?_
          refine A_goto 43 dX9_wealth_93 (by decide) ?_
          rw [nI_1]
          have e := ih (i + 1) (by omega)
          rw [wlS, if_neg c72] at e
          exact e
        · refine A_iload dX9_wealth_75 rfl ?_
          refine A_aload_n dX9_wealth_77 rfl rfl ?_
          refine A_get dX9_wealth_78 f_X9_50 HC_at0 rfl ?_
          refine A_get dX9_wealth_81 f_X9_191 (HC_at (by decide)) rfl ?_
          refine A_iload dX9_wealth_84 rfl ?_
          refine A_ialdN dX9_wealth_86 (HC_at (by decide)) (by omega) (by decide) ?_
          refine A_iadd dX9_wealth_87 ?_
          refine A_istore (lv1 := [_, _, _, _, _, _]) dX9_wealth_88 (Nat.le_of_ble_eq_true rfl) rfl rfl ?_
          refine A_inc 1 (lv1 := [_, _, _, _, _, _]) dX9_wealth_90 rfl (by decide) rfl rfl ?_
          refine A_goto 43 dX9_wealth_93 (by decide) ?_
          rw [nI_1]
          have e := ih (i + 1) (by omega)
          rw [wlS, if_pos c72] at e
          exact e
  exact loop nc 0 (by omega)
theorem c_wealth (G : GX) {b : Nat} {c : CT} {co : Nat → Nat → Option Nat} {r : Nat → Option AE} {n : Nat} {nv nc nf nl wk : Nat} {j : Nat} {p z : Int32} (hI : IX c nv nc nf nl wk) (hK : KX c nv nf) (hj : j < nv) : MA G 5 yX9_wealth cX9_wealth 6 (some .int) 0 0 [.ref b, .int (nI j), .int p, .int z] (HC b c co r n) (qI fun x h1 => x = wlA c nc j p z ∧ h1 = HC b (wlY c p z) co r n) := by
  refine MA.of (own := RX9) false [some (.ref b), some (.int (nI j)), some (.int p), some (.int z), none, none] (by decide +kernel) rfl (fun h => by cases h) (Nat.le_of_ble_eq_true rfl) rfl (fun X => ?_)
  obtain ⟨hv, hv6, hc, hc8, hf, hf3, hl, hl8, hw, hw30, gC, gL⟩ := id hI
  have hI2 : IX (wlC c p z) nv nc nf nl wk := hI.bg.P ((sameP.put (by decide)).put2 (by decide))
  have hT2 : TX (wlC c p z) nv nf := (TX.bg hI hK).P ((sameP.put (by decide)).put2 (by decide))
  have hI3 : IX (wlY c p z) nv nc nf nl wk := hI2.P runF_P
  rw [wlA]
  refine A_aload_n dX9_wealth_0 rfl rfl ?_
  refine A_get dX9_wealth_1 f_X9_50 HC_at0 rfl ?_
  refine A_callVv dX9_wealth_4 m_X9_153 cb_X8_begin (As := []) rfl (HC_at (by decide)) rfl (c_begin G hI) rfl ⟨by decide, by decide⟩ (Nat.le_of_ble_eq_true rfl) ⟨by decide, by decide⟩ (fun h4 hq => ?_)
  obtain rfl := hq
  obtain ⟨y1, e1⟩ : ∃ y, beginF c = y := ⟨_, rfl⟩
  rw [e1]
  refine A_aload_n dX9_wealth_7 rfl rfl ?_
  refine A_get dX9_wealth_8 f_X9_50 HC_at0 rfl ?_
  refine A_iload_n dX9_wealth_11 rfl rfl ?_
  refine A_putC 2 dX9_wealth_12 p_X9_305 (by decide) rfl (Nat.le_of_ble_eq_true rfl) rfl ?_
  obtain ⟨y2, e2⟩ : ∃ y, put y1 28 2 p = y := ⟨_, rfl⟩
  rw [e2]
  refine A_aload_n dX9_wealth_15 rfl rfl ?_
  refine A_get dX9_wealth_16 f_X9_50 HC_at0 rfl ?_
  refine A_iload_n dX9_wealth_19 rfl rfl ?_
  refine A_putC 3 dX9_wealth_20 p_X9_308 (by decide) rfl (Nat.le_of_ble_eq_true rfl) rfl ?_
  refine WA_h (congrArg (fun y => HC b y co r n) (show put y2 28 3 z = wlC c p z by rw [wlC, e1, e2])) ?_
  refine A_aload_n dX9_wealth_23 rfl rfl ?_
  refine A_get dX9_wealth_24 f_X9_50 HC_at0 rfl ?_
  refine A_callVv dX9_wealth_27 m_X9_156 cb_X8_run (As := []) rfl (HC_at (by decide)) rfl (c_run G hI2 hT2) rfl ⟨by decide, by decide⟩ (Nat.le_of_ble_eq_true rfl) ⟨by decide, by decide⟩ (fun h27 hq => ?_)
  obtain rfl := hq
  refine WA_h (congrArg (fun y => HC b y co r n) (show runF (wlC c p z) = wlY c p z from rfl)) ?_
  generalize wlY c p z = y3 at hI3 ⊢
  refine A_aload_n dX9_wealth_30 rfl rfl ?_
  refine A_get dX9_wealth_31 f_X9_50 HC_at0 rfl ?_
  refine A_iload_n dX9_wealth_34 rfl rfl ?_
  refine A_callVi dX9_wealth_35 m_X9_311 cb_X8_waterOf (As := [_]) rfl (HC_at (by decide)) rfl (c_waterOfN G (by omega)) rfl ⟨by decide, by decide⟩ (Nat.le_of_ble_eq_true rfl) ⟨by decide, by decide⟩ (fun x35 h35 hq => ?_)
  obtain ⟨rfl, rfl⟩ := hq
  refine A_istore (lv1 := [_, _, _, _, _, _]) dX9_wealth_38 (Nat.le_of_ble_eq_true rfl) rfl rfl ?_
  refine A_iconst (v := 0) dX9_wealth_40 (by decide) ?_
  refine A_istore (lv1 := [_, _, _, _, _, _]) dX9_wealth_41 (Nat.le_of_ble_eq_true rfl) rfl rfl ?_
  exact wealth_w G X hI3.2.2.1 hc8

theorem fair_w (G : GX) (X : XC) {b : Nat} {c : CT} {co : Nat → Nat → Option Nat} {r : Nat → Option AE} {n : Nat} {nv nc nf nl wk : Nat} {j : Nat} (hI : IX c nv nc nf nl wk) (hK : KX c nv nf) (hCa : CacheOk c (tot nv nf)) (hj : j < nv) : WA X G RX9 cX9_fair false (some .int) (qI fun x h1 => x = enF (faP c nc j) 0 101 ∧ ∃ c1, h1 = HC b c1 co r n ∧ keepC c c1 (tot nv nf)) 6 0 0 (HC b c co r n) 0 0 13 [some (.ref b), some (.int (nI j)), some (.int (nI 0))] [] := by
  obtain ⟨T, hTe⟩ : ∃ T, enF (faP c nc j) 0 101 = T := ⟨_, rfl⟩
  rw [hTe]
  have loop : ∀ (k i : Nat) (y : CT), i + k = 101 → (sameQ c y) → (enF (faP c nc j) i k = T) → WA X G RX9 cX9_fair false (some .int) (qI fun x h1 => x = T ∧ ∃ c1, h1 = HC b c1 co r n ∧ keepC c c1 (tot nv nf)) 6 0 0 (HC b y co r n) 0 0 13 [some (.ref b), some (.int (nI j)), some (.int (nI i))] [] := by
    intro k
    induction k with
    | zero =>
      intro i y hk hy hT
      refine A_iload_n dX9_fair_13 rfl rfl ?_
      refine A_bipush (v := 100) dX9_fair_14 (by decide) ?_
      refine A_icmp_gt 44 dX9_fair_16 (by decide) (fun c16 => ?_) (fun c16 => ?_)
      · refine A_iconst (v := (-1)) dX9_fair_44 (by decide) ?_
        exact A_iret dX9_fair_45 ⟨by rw [← hT]; rfl, _, rfl, keepC.Q hCa hy⟩ ⟨by decide, by decide⟩
      · exact absurd (nI_lt (b := i) (a := 100) (by omega) (by omega)) c16
    | succ k ih =>
      intro i y hk hy hT
      have hi : i < 101 := by omega
      refine A_iload_n dX9_fair_13 rfl rfl ?_
      refine A_bipush (v := 100) dX9_fair_14 (by decide) ?_
      refine A_icmp_gt 44 dX9_fair_16 (by decide) (fun c16 => ?_) (fun c16 => ?_)
      · exact absurd c16 (nI_nlt (a := 100) (by omega) (by omega))
      · refine A_aload_n dX9_fair_19 rfl rfl ?_
        refine A_iload_n dX9_fair_20 rfl rfl ?_
        refine A_iload_n dX9_fair_21 rfl rfl ?_
        refine A_iconst (v := (-1)) dX9_fair_22 (by decide) ?_
        refine A_callVi dX9_fair_23 m_X9_301 cb_X9_wealth (As := [_, _, _]) rfl HC_at0 rfl (c_wealth G (hI.Q hy) (hK.to (hy 12 (by decide))) hj) rfl ⟨by decide, by decide⟩ (Nat.le_of_ble_eq_true rfl) ⟨by decide, by decide⟩ (fun x23 h23 hq => ?_)
        obtain ⟨rfl, rfl⟩ := hq
        have hy1 := hy.tr (wlY_Q (c := y) (p := nI i) (z := -1))
        rw [wlA_Q hy]
        generalize wlY y (nI i) (-1) = y1 at hy1 ⊢
        refine A_aload_n dX9_fair_26 rfl rfl ?_
        refine A_iload_n dX9_fair_27 rfl rfl ?_
        refine A_iload_n dX9_fair_28 rfl rfl ?_
        refine A_iload_n dX9_fair_29 rfl rfl ?_
        refine A_callVi dX9_fair_30 m_X9_301 cb_X9_wealth (As := [_, _, _]) rfl HC_at0 rfl (c_wealth G (hI.Q hy1) (hK.to (hy1 12 (by decide))) hj) rfl ⟨by decide, by decide⟩ (Nat.le_of_ble_eq_true rfl) ⟨by decide, by decide⟩ (fun x30 h30 hq => ?_)
        obtain ⟨rfl, rfl⟩ := hq
        have hy2 := hy1.tr (wlY_Q (c := y1) (p := nI i) (z := nI j))
        rw [wlA_Q hy1]
        generalize wlY y1 (nI i) (nI j) = y2 at hy2 ⊢
        refine A_icmp_lt 38 dX9_fair_33 (by decide) (fun c33 => ?_) (fun c33 => ?_)
        · have cp : ¬ faP c nc j i = true := by rw [faP, decide_eq_true c33]; decide
          refine A_inc 1 (lv1 := [_, _, _]) dX9_fair_38 rfl (by decide) rfl rfl ?_
          refine A_goto 13 dX9_fair_41 (by decide) ?_
          rw [nI_1]
          exact ih (i + 1) _ (by omega) hy2 (by rw [← hT, enF, if_neg cp])
        · have cp : faP c nc j i = true := by rw [faP, decide_eq_false c33]; rfl
          refine A_iload_n dX9_fair_36 rfl rfl ?_
          exact A_iret dX9_fair_37 ⟨by rw [← hT, enF, if_pos cp], _, rfl, keepC.Q hCa hy2⟩ ⟨by decide, by decide⟩
  exact loop 101 0 c (by omega) sameQ.rf hTe
theorem c_fair (G : GX) {b : Nat} {c : CT} {co : Nat → Nat → Option Nat} {r : Nat → Option AE} {n : Nat} {nv nc nf nl wk : Nat} {v : Int32} (hI : IX c nv nc nf nl wk) (hK : KX c nv nf) (hCa : CacheOk c (tot nv nf)) : MA G 6 yX9_fair cX9_fair 3 (some .int) 0 0 [.ref b, .int v] (HC b c co r n) (qI fun x h1 => x = fairA c nc v ∧ ∃ c1, h1 = HC b c1 co r n ∧ keepC c c1 (tot nv nf)) := by
  refine MA.of (own := RX9) false [some (.ref b), some (.int v), none] (by decide +kernel) rfl (fun h => by cases h) (Nat.le_of_ble_eq_true rfl) rfl (fun X => ?_)
  obtain ⟨hv, hv6, hc, hc8, hf, hf3, hl, hl8, hw, hw30, gC, gL⟩ := id hI
  refine A_aload_n dX9_fair_0 rfl rfl ?_
  refine A_iload_n dX9_fair_1 rfl rfl ?_
  refine A_callVi dX9_fair_2 m_X9_101 cb_X9_hasVillage (As := [_]) rfl HC_at0 rfl (c_hasVillage G) rfl ⟨by decide, by decide⟩ (Nat.le_of_ble_eq_true rfl) ⟨by decide, by decide⟩ (fun x2 h2 hq => ?_)
  obtain ⟨rfl, rfl⟩ := hq
  refine A_if_ne 11 dX9_fair_5 (by decide) (fun c5 => ?_) (fun c5 => ?_)
  · obtain ⟨j, hj, rfl⟩ := inI_of hv c5 (by omega)
    rw [show fairA c nc (nI j) = enF (faP c nc j) 0 101 by rw [fairA, if_neg c5, tcl_nI (by omega)]]
    refine A_iconst (v := 0) dX9_fair_11 (by decide) ?_
    refine A_istore_n (lv1 := [_, _, _]) dX9_fair_12 rfl (Nat.le_of_ble_eq_true rfl) rfl rfl ?_
    exact fair_w G X hI hK hCa hj
  · refine A_bipush (v := (-2)) dX9_fair_8 (by decide) ?_
    exact A_iret dX9_fair_10 ⟨(if_pos (by assumption)).symm, ⟨c, rfl, keepC.rf hCa⟩⟩ ⟨by decide, by decide⟩

def fdF (c : CT) (v : Int32) : Nat → Nat → Int32
  | _, 0 => 0
  | i, k + 1 => if c 10 (5 * i + 0) = v then c 10 (5 * i + 1) else fdF c v (i + 1) k
def lnF (c : CT) (v : Int32) : Nat → Int32
  | 0 => 0
  | i + 1 => if c 14 (5 * i + 1) = v then lnF c v i + (c 36 i - c 37 i) else lnF c v i
def flF (c : CT) (v s : Int32) : Nat → Int32
  | 0 => s
  | i + 1 => if c 12 (4 * i + 3) = v then flF c v s i + (c 33 i - c 34 i) else flF c v s i
def soF (c : CT) (nl nf : Nat) (v : Int32) : Int32 := flF c v (lnF c v nl) nf
def melonsA (c : CT) (nc nl nf : Nat) (v : Int32) : Int32 := if inI v (c 7 2) = 0 then -2 else if 1 ≤ fdF c v 0 nc then (soF (yrF c) nl nf v + fdF c v 0 nc - 1) / fdF c v 0 nc else -1
theorem c_firstDrink (G : GX) {b : Nat} {c : CT} {co : Nat → Nat → Option Nat} {r : Nat → Option AE} {n : Nat} {nv nc nf nl wk : Nat} {v : Int32} (hI : IX c nv nc nf nl wk) : MA G 1 yX9_firstDrink cX9_firstDrink 3 (some .int) 0 0 [.ref b, .int v] (HC b c co r n) (qI fun x h1 => x = fdF c v 0 nc ∧ h1 = HC b c co r n) := by
  refine MA.of (own := RX9) false [some (.ref b), some (.int v), none] (by decide +kernel) rfl (fun h => by cases h) (Nat.le_of_ble_eq_true rfl) rfl (fun X => ?_)
  obtain ⟨T, hTe⟩ : ∃ T, fdF c v 0 nc = T := ⟨_, rfl⟩
  rw [hTe]
  obtain ⟨hv, hv6, hc, hc8, hf, hf3, hl, hl8, hw, hw30, gC, gL⟩ := id hI
  have loop : ∀ (k i : Nat) , i + k = nc → (fdF c v i k = T) → WA X G RX9 cX9_firstDrink false (some .int) (qI fun x h1 => x = T ∧ h1 = HC b c co r n) 1 0 0 (HC b c co r n) 0 0 2 [some (.ref b), some (.int v), some (.int (nI i))] [] := by
    intro k
    induction k with
    | zero =>
      intro i  hk hT
      refine A_iload_n dX9_firstDrink_2 rfl rfl ?_
      refine A_aload_n dX9_firstDrink_3 rfl rfl ?_
      refine A_get dX9_firstDrink_4 f_X9_28 HC_at0 rfl ?_
      refine A_get dX9_firstDrink_7 f_X9_137 (HC_at (by decide)) rfl ?_
      refine A_get dX9_firstDrink_10 f_X9_134 (HC_at (by decide)) rfl ?_
      refine A_icmp_ge 51 dX9_firstDrink_13 (by decide) (fun c13 => ?_) (fun c13 => ?_)
      · refine A_iconst (v := 0) dX9_firstDrink_51 (by decide) ?_
        exact A_iret dX9_firstDrink_52 ⟨by rw [← hT]; rfl, rfl⟩ ⟨by decide, by decide⟩
      · exact absurd (by rw [hc]; exact nI_le (by omega) (by omega)) c13
    | succ k ih =>
      intro i  hk hT
      have hi : i < nc := by omega
      refine A_iload_n dX9_firstDrink_2 rfl rfl ?_
      refine A_aload_n dX9_firstDrink_3 rfl rfl ?_
      refine A_get dX9_firstDrink_4 f_X9_28 HC_at0 rfl ?_
      refine A_get dX9_firstDrink_7 f_X9_137 (HC_at (by decide)) rfl ?_
      refine A_get dX9_firstDrink_10 f_X9_134 (HC_at (by decide)) rfl ?_
      refine A_icmp_ge 51 dX9_firstDrink_13 (by decide) (fun c13 => ?_) (fun c13 => ?_)
      · exact absurd c13 (by rw [hc]; exact nI_ge (by omega) (by omega))
      · refine A_aload_n dX9_firstDrink_16 rfl rfl ?_
        refine A_get dX9_firstDrink_17 f_X9_28 HC_at0 rfl ?_
        refine A_get dX9_firstDrink_20 f_X9_137 (HC_at (by decide)) rfl ?_
        refine A_iload_n dX9_firstDrink_23 rfl rfl ?_
        refine A_iconst (v := 0) dX9_firstDrink_24 (by decide) ?_
        refine A_callVi dX9_firstDrink_25 m_X9_108 cb_X3_at (As := [_, _]) rfl (HC_at (by decide)) rfl (c_at9 G b _ co r n 0 hc hc8 (by omega) (by decide)) rfl ⟨by decide, by decide⟩ (Nat.le_of_ble_eq_true rfl) ⟨by decide, by decide⟩ (fun x25 h25 hq => ?_)
        obtain ⟨rfl, rfl⟩ := hq
        refine A_iload_n dX9_firstDrink_28 rfl rfl ?_
        refine A_icmp_ne 45 dX9_firstDrink_29 (by decide) (fun c29 => ?_) (fun c29 => ?_)
        · refine A_inc 1 (lv1 := [_, _, _]) dX9_firstDrink_45 rfl (by decide) rfl rfl ?_
          refine A_goto 2 dX9_firstDrink_48 (by decide) ?_
          rw [nI_1]
          exact ih (i + 1) (by omega) (by rw [← hT, fdF, if_neg c29])
        · refine A_aload_n dX9_firstDrink_32 rfl rfl ?_
          refine A_get dX9_firstDrink_33 f_X9_28 HC_at0 rfl ?_
          refine A_get dX9_firstDrink_36 f_X9_137 (HC_at (by decide)) rfl ?_
          refine A_iload_n dX9_firstDrink_39 rfl rfl ?_
          refine A_iconst (v := 1) dX9_firstDrink_40 (by decide) ?_
          refine A_callVi dX9_firstDrink_41 m_X9_108 cb_X3_at (As := [_, _]) rfl (HC_at (by decide)) rfl (c_at9 G b _ co r n 1 hc hc8 (by omega) (by decide)) rfl ⟨by decide, by decide⟩ (Nat.le_of_ble_eq_true rfl) ⟨by decide, by decide⟩ (fun x41 h41 hq => ?_)
          obtain ⟨rfl, rfl⟩ := hq
          exact A_iret dX9_firstDrink_44 ⟨by rw [← hT, fdF, if_pos c29], rfl⟩ ⟨by decide, by decide⟩
  refine A_iconst (v := 0) dX9_firstDrink_0 (by decide) ?_
  refine A_istore_n (lv1 := [_, _, _]) dX9_firstDrink_1 rfl (Nat.le_of_ble_eq_true rfl) rfl rfl ?_
  exact loop nc 0 (by omega) hTe

theorem c_shortOf (G : GX) {b : Nat} {c : CT} {co : Nat → Nat → Option Nat} {r : Nat → Option AE} {n : Nat} {nv nc nf nl wk : Nat} {v : Int32} (hI : IX c nv nc nf nl wk) : MA G 1 yX9_shortOf cX9_shortOf 4 (some .int) 0 0 [.ref b, .int v] (HC b c co r n) (qI fun x h1 => x = soF c nl nf v ∧ h1 = HC b c co r n) := by
  refine MA.of (own := RX9) false [some (.ref b), some (.int v), none, none] (by decide +kernel) rfl (fun h => by cases h) (Nat.le_of_ble_eq_true rfl) rfl (fun X => ?_)
  obtain ⟨hv, hv6, hc, hc8, hf, hf3, hl, hl8, hw, hw30, gC, gL⟩ := id hI
  have loop2 : ∀ (k i : Nat) , i + k = nf → WA X G RX9 cX9_shortOf false (some .int) (qI fun x h1 => x = soF c nl nf v ∧ h1 = HC b c co r n) 1 0 0 (HC b c co r n) 0 0 64 [some (.ref b), some (.int v), some (.int (flF c v (lnF c v nl) i)), some (.int (nI i))] [] := by
    intro k
    induction k with
    | zero =>
      intro i  hk 
      refine A_iload_n dX9_shortOf_64 rfl rfl ?_
      refine A_aload_n dX9_shortOf_65 rfl rfl ?_
      refine A_get dX9_shortOf_66 f_X9_28 HC_at0 rfl ?_
      refine A_get dX9_shortOf_69 f_X9_117 (HC_at (by decide)) rfl ?_
      refine A_get dX9_shortOf_72 f_X9_134 (HC_at (by decide)) rfl ?_
      refine A_icmp_ge 122 dX9_shortOf_75 (by decide) (fun c75 => ?_) (fun c75 => ?_)
      · refine A_iload_n dX9_shortOf_122 rfl rfl ?_
        exact A_iret dX9_shortOf_123 ⟨by rw [show i = nf by omega]; rfl, rfl⟩ ⟨by decide, by decide⟩
      · exact absurd (by rw [hf]; exact nI_le (by omega) (by omega)) c75
    | succ k ih =>
      intro i  hk 
      have hi : i < nf := by omega
      refine A_iload_n dX9_shortOf_64 rfl rfl ?_
      refine A_aload_n dX9_shortOf_65 rfl rfl ?_
      refine A_get dX9_shortOf_66 f_X9_28 HC_at0 rfl ?_
      refine A_get dX9_shortOf_69 f_X9_117 (HC_at (by decide)) rfl ?_
      refine A_get dX9_shortOf_72 f_X9_134 (HC_at (by decide)) rfl ?_
      refine A_icmp_ge 122 dX9_shortOf_75 (by decide) (fun c75 => ?_) (fun c75 => ?_)
      · exact absurd c75 (by rw [hf]; exact nI_ge (by omega) (by omega))
      · refine A_aload_n dX9_shortOf_78 rfl rfl ?_
        refine A_get dX9_shortOf_79 f_X9_28 HC_at0 rfl ?_
        refine A_get dX9_shortOf_82 f_X9_117 (HC_at (by decide)) rfl ?_
        refine A_iload_n dX9_shortOf_85 rfl rfl ?_
        refine A_iconst (v := 3) dX9_shortOf_86 (by decide) ?_
        refine A_callVi dX9_shortOf_87 m_X9_108 cb_X3_at (As := [_, _]) rfl (HC_at (by decide)) rfl (c_at11 G b _ co r n 3 hf hf3 (by omega) (by decide)) rfl ⟨by decide, by decide⟩ (Nat.le_of_ble_eq_true rfl) ⟨by decide, by decide⟩ (fun x87 h87 hq => ?_)
        obtain ⟨rfl, rfl⟩ := hq
        refine A_iload_n dX9_shortOf_90 rfl rfl ?_
        refine A_icmp_ne 116 dX9_shortOf_91 (by decide) (fun c91 => ?_) (fun c91 => ?_)
        · refine A_inc 1 (lv1 := [_, _, _, _]) dX9_shortOf_116 rfl (by decide) rfl rfl ?_
          refine A_goto 64 dX9_shortOf_119 (by decide) ?_
          rw [nI_1]
          have e := ih (i + 1) (by omega)
          rw [flF, if_neg c91] at e
          exact e
        · refine A_iload_n dX9_shortOf_94 rfl rfl ?_
          refine A_aload_n dX9_shortOf_95 rfl rfl ?_
          refine A_get dX9_shortOf_96 f_X9_50 HC_at0 rfl ?_
          refine A_get dX9_shortOf_99 f_X9_172 (HC_at (by decide)) rfl ?_
          refine A_iload_n dX9_shortOf_102 rfl rfl ?_
          refine A_ialdN dX9_shortOf_103 (HC_at (by decide)) (by omega) (by decide) ?_
          refine A_aload_n dX9_shortOf_104 rfl rfl ?_
          refine A_get dX9_shortOf_105 f_X9_50 HC_at0 rfl ?_
          refine A_get dX9_shortOf_108 f_X9_175 (HC_at (by decide)) rfl ?_
          refine A_iload_n dX9_shortOf_111 rfl rfl ?_
          refine A_ialdN dX9_shortOf_112 (HC_at (by decide)) (by omega) (by decide) ?_
          refine A_isub dX9_shortOf_113 ?_
          refine A_iadd dX9_shortOf_114 ?_
          refine A_istore_n (lv1 := [_, _, _, _]) dX9_shortOf_115 rfl (Nat.le_of_ble_eq_true rfl) rfl rfl ?_
          refine A_inc 1 (lv1 := [_, _, _, _]) dX9_shortOf_116 rfl (by decide) rfl rfl ?_
          refine A_goto 64 dX9_shortOf_119 (by decide) ?_
          rw [nI_1]
          have e := ih (i + 1) (by omega)
          rw [flF, if_pos c91] at e
          exact e
  have loop1 : ∀ (k i : Nat) , i + k = nl → WA X G RX9 cX9_shortOf false (some .int) (qI fun x h1 => x = soF c nl nf v ∧ h1 = HC b c co r n) 1 0 0 (HC b c co r n) 0 0 4 [some (.ref b), some (.int v), some (.int (lnF c v i)), some (.int (nI i))] [] := by
    intro k
    induction k with
    | zero =>
      intro i  hk 
      refine A_iload_n dX9_shortOf_4 rfl rfl ?_
      refine A_aload_n dX9_shortOf_5 rfl rfl ?_
      refine A_get dX9_shortOf_6 f_X9_28 HC_at0 rfl ?_
      refine A_get dX9_shortOf_9 f_X9_140 (HC_at (by decide)) rfl ?_
      refine A_get dX9_shortOf_12 f_X9_134 (HC_at (by decide)) rfl ?_
      refine A_icmp_ge 62 dX9_shortOf_15 (by decide) (fun c15 => ?_) (fun c15 => ?_)
      · refine A_iconst (v := 0) dX9_shortOf_62 (by decide) ?_
        refine A_istore_n (lv1 := [_, _, _, _]) dX9_shortOf_63 rfl (Nat.le_of_ble_eq_true rfl) rfl rfl ?_
        rw [show i = nl by omega]
        exact loop2 nf 0 (by omega)
      · exact absurd (by rw [hl]; exact nI_le (by omega) (by omega)) c15
    | succ k ih =>
      intro i  hk 
      have hi : i < nl := by omega
      refine A_iload_n dX9_shortOf_4 rfl rfl ?_
      refine A_aload_n dX9_shortOf_5 rfl rfl ?_
      refine A_get dX9_shortOf_6 f_X9_28 HC_at0 rfl ?_
      refine A_get dX9_shortOf_9 f_X9_140 (HC_at (by decide)) rfl ?_
      refine A_get dX9_shortOf_12 f_X9_134 (HC_at (by decide)) rfl ?_
      refine A_icmp_ge 62 dX9_shortOf_15 (by decide) (fun c15 => ?_) (fun c15 => ?_)
      · exact absurd c15 (by rw [hl]; exact nI_ge (by omega) (by omega))
      · refine A_aload_n dX9_shortOf_18 rfl rfl ?_
        refine A_get dX9_shortOf_19 f_X9_28 HC_at0 rfl ?_
        refine A_get dX9_shortOf_22 f_X9_140 (HC_at (by decide)) rfl ?_
        refine A_iload_n dX9_shortOf_25 rfl rfl ?_
        refine A_iconst (v := 1) dX9_shortOf_26 (by decide) ?_
        refine A_callVi dX9_shortOf_27 m_X9_108 cb_X3_at (As := [_, _]) rfl (HC_at (by decide)) rfl (c_at13 G b _ co r n 1 hl hl8 (by omega) (by decide)) rfl ⟨by decide, by decide⟩ (Nat.le_of_ble_eq_true rfl) ⟨by decide, by decide⟩ (fun x27 h27 hq => ?_)
        obtain ⟨rfl, rfl⟩ := hq
        refine A_iload_n dX9_shortOf_30 rfl rfl ?_
        refine A_icmp_ne 56 dX9_shortOf_31 (by decide) (fun c31 => ?_) (fun c31 => ?_)
        · refine A_inc 1 (lv1 := [_, _, _, _]) dX9_shortOf_56 rfl (by decide) rfl rfl ?_
          refine A_goto 4 dX9_shortOf_59 (by decide) ?_
          rw [nI_1]
          have e := ih (i + 1) (by omega)
          rw [lnF, if_neg c31] at e
          exact e
        · refine A_iload_n dX9_shortOf_34 rfl rfl ?_
          refine A_aload_n dX9_shortOf_35 rfl rfl ?_
          refine A_get dX9_shortOf_36 f_X9_50 HC_at0 rfl ?_
          refine A_get dX9_shortOf_39 f_X9_185 (HC_at (by decide)) rfl ?_
          refine A_iload_n dX9_shortOf_42 rfl rfl ?_
          refine A_ialdN dX9_shortOf_43 (HC_at (by decide)) (by omega) (by decide) ?_
          refine A_aload_n dX9_shortOf_44 rfl rfl ?_
          refine A_get dX9_shortOf_45 f_X9_50 HC_at0 rfl ?_
          refine A_get dX9_shortOf_48 f_X9_188 (HC_at (by decide)) rfl ?_
          refine A_iload_n dX9_shortOf_51 rfl rfl ?_
          refine A_ialdN dX9_shortOf_52 (HC_at (by decide)) (by omega) (by decide) ?_
          refine A_isub dX9_shortOf_53 ?_
          refine A_iadd dX9_shortOf_54 ?_
          refine A_istore_n (lv1 := [_, _, _, _]) dX9_shortOf_55 rfl (Nat.le_of_ble_eq_true rfl) rfl rfl ?_
          refine A_inc 1 (lv1 := [_, _, _, _]) dX9_shortOf_56 rfl (by decide) rfl rfl ?_
          refine A_goto 4 dX9_shortOf_59 (by decide) ?_
          rw [nI_1]
          have e := ih (i + 1) (by omega)
          rw [lnF, if_pos c31] at e
          exact e
  refine A_iconst (v := 0) dX9_shortOf_0 (by decide) ?_
  refine A_istore_n (lv1 := [_, _, _, _]) dX9_shortOf_1 rfl (Nat.le_of_ble_eq_true rfl) rfl rfl ?_
  refine A_iconst (v := 0) dX9_shortOf_2 (by decide) ?_
  refine A_istore_n (lv1 := [_, _, _, _]) dX9_shortOf_3 rfl (Nat.le_of_ble_eq_true rfl) rfl rfl ?_
  exact loop1 nl 0 (by omega)

theorem c_melons (G : GX) {b : Nat} {c : CT} {co : Nat → Nat → Option Nat} {r : Nat → Option AE} {n : Nat} {nv nc nf nl wk : Nat} {v : Int32} (hI : IX c nv nc nf nl wk) (hK : KX c nv nf) (hCa : CacheOk c (tot nv nf)) : MA G 6 yX9_melons cX9_melons 3 (some .int) 0 0 [.ref b, .int v] (HC b c co r n) (qI fun x h1 => x = melonsA c nc nl nf v ∧ ∃ c1, h1 = HC b c1 co r n ∧ keepC c c1 (tot nv nf)) := by
  refine MA.of (own := RX9) false [some (.ref b), some (.int v), none] (by decide +kernel) rfl (fun h => by cases h) (Nat.le_of_ble_eq_true rfl) rfl (fun X => ?_)
  obtain ⟨hv, hv6, hc, hc8, hf, hf3, hl, hl8, hw, hw30, gC, gL⟩ := id hI
  refine A_aload_n dX9_melons_0 rfl rfl ?_
  refine A_iload_n dX9_melons_1 rfl rfl ?_
  refine A_callVi dX9_melons_2 m_X9_101 cb_X9_hasVillage (As := [_]) rfl HC_at0 rfl (c_hasVillage G) rfl ⟨by decide, by decide⟩ (Nat.le_of_ble_eq_true rfl) ⟨by decide, by decide⟩ (fun x2 h2 hq => ?_)
  obtain ⟨rfl, rfl⟩ := hq
  refine A_if_ne 11 dX9_melons_5 (by decide) (fun c5 => ?_) (fun c5 => ?_)
  · refine A_aload_n dX9_melons_11 rfl rfl ?_
    refine A_iload_n dX9_melons_12 rfl rfl ?_
    refine A_callVi dX9_melons_13 m_X9_314 cb_X9_firstDrink (As := [_]) rfl HC_at0 rfl (c_firstDrink G hI) rfl ⟨by decide, by decide⟩ (Nat.le_of_ble_eq_true rfl) ⟨by decide, by decide⟩ (fun x13 h13 hq => ?_)
    obtain ⟨rfl, rfl⟩ := hq
    refine A_istore_n (lv1 := [_, _, _]) dX9_melons_16 rfl (Nat.le_of_ble_eq_true rfl) rfl rfl ?_
    refine A_iload_n dX9_melons_17 rfl rfl ?_
    refine A_iconst (v := 1) dX9_melons_18 (by decide) ?_
    refine A_icmp_ge 24 dX9_melons_19 (by decide) (fun c19 => ?_) (fun c19 => ?_)
    · refine A_aload_n dX9_melons_24 rfl rfl ?_
      refine A_callVv dX9_melons_25 m_X9_162 cb_X9_goThroughYear (As := []) rfl HC_at0 rfl (c_goYear G hI hK) rfl ⟨by decide, by decide⟩ (Nat.le_of_ble_eq_true rfl) ⟨by decide, by decide⟩ (fun h25 hq => ?_)
      obtain rfl := hq
      refine A_aload_n dX9_melons_28 rfl rfl ?_
      refine A_iload_n dX9_melons_29 rfl rfl ?_
      refine A_callVi dX9_melons_30 m_X9_317 cb_X9_shortOf (As := [_]) rfl HC_at0 rfl (c_shortOf G (hI.bg.P runF_P)) rfl ⟨by decide, by decide⟩ (Nat.le_of_ble_eq_true rfl) ⟨by decide, by decide⟩ (fun x30 h30 hq => ?_)
      obtain ⟨rfl, rfl⟩ := hq
      refine A_iload_n dX9_melons_33 rfl rfl ?_
      refine A_iadd dX9_melons_34 ?_
      refine A_iconst (v := 1) dX9_melons_35 (by decide) ?_
      refine A_isub dX9_melons_36 ?_
      refine A_iload_n dX9_melons_37 rfl rfl ?_
      refine A_idiv dX9_melons_38 (fun z => by rw [z] at c19; exact absurd c19 (by decide)) ?_
      exact A_iret dX9_melons_39 ⟨by rw [melonsA, if_neg c5, if_pos c19], _, rfl, keepC.yr hCa⟩ ⟨by decide, by decide⟩
    · refine A_iconst (v := (-1)) dX9_melons_22 (by decide) ?_
      exact A_iret dX9_melons_23 ⟨by rw [melonsA, if_neg c5, if_neg c19], ⟨c, rfl, keepC.rf hCa⟩⟩ ⟨by decide, by decide⟩
  · refine A_bipush (v := (-2)) dX9_melons_8 (by decide) ?_
    exact A_iret dX9_melons_10 ⟨(if_pos (by assumption)).symm, ⟨c, rfl, keepC.rf hCa⟩⟩ ⟨by decide, by decide⟩

theorem nI_subN {a b : Nat} (h : b ≤ a) : nI a - nI b = nI (a - b) := by
  obtain ⟨m, rfl⟩ : ∃ m, a = m + b := ⟨a - b, by omega⟩
  rw [← nI_add, Int32.add_sub_cancel, Nat.add_sub_cancel]
def csF (c : CT) (nv : Nat) : Nat → Int32
  | 0 => 0
  | i + 1 => csF c nv i + c 8 (5 * i + 4) / nI (nv - i)
def coF (c : CT) : Nat → Int32
  | 0 => 0
  | i + 1 => coF c i + c 8 (5 * i + 4)
def shS (c : CT) (nv : Nat) (s : Int32) : Nat → Int32
  | 0 => s
  | i + 1 => shS c nv s i - csF c nv (i + 1)
def shareA (c : CT) (nv : Nat) (v : Int32) : Int32 := if inI v (c 7 2) = 0 then -2 else if tcl v < nv - 1 then csF c nv (tcl v + 1) else shS c nv (coF c nv) (nv - 1)
theorem nI_neN {a : Nat} (h : 0 < a) (h2 : a < 2 ^ 31) : ¬ nI a = 0 := fun z => by
  have := congrArg Int32.toNatClampNeg z
  rw [nI_clamp h2] at this
  have h3 : (0 : Int32).toNatClampNeg = 0 := rfl
  omega
theorem c_cutShare (G : GX) {b : Nat} {c : CT} {co : Nat → Nat → Option Nat} {r : Nat → Option AE} {n : Nat} {nv nc nf nl wk : Nat} {j : Nat} (hI : IX c nv nc nf nl wk) (hj : j < nv) : MA G 1 yX9_cutShare cX9_cutShare 4 (some .int) 0 0 [.ref b, .int (nI j)] (HC b c co r n) (qI fun x h1 => x = csF c nv (j + 1) ∧ h1 = HC b c co r n) := by
  refine MA.of (own := RX9) false [some (.ref b), some (.int (nI j)), none, none] (by decide +kernel) rfl (fun h => by cases h) (Nat.le_of_ble_eq_true rfl) rfl (fun X => ?_)
  obtain ⟨hv, hv6, hc, hc8, hf, hf3, hl, hl8, hw, hw30, gC, gL⟩ := id hI
  have loop : ∀ (k i : Nat) , i + k = j + 1 → WA X G RX9 cX9_cutShare false (some .int) (qI fun x h1 => x = csF c nv (j + 1) ∧ h1 = HC b c co r n) 1 0 0 (HC b c co r n) 0 0 4 [some (.ref b), some (.int (nI j)), some (.int (csF c nv i)), some (.int (nI i))] [] := by
    intro k
    induction k with
    | zero =>
      intro i  hk 
      refine A_iload_n dX9_cutShare_4 rfl rfl ?_
      refine A_iload_n dX9_cutShare_5 rfl rfl ?_
      refine A_icmp_gt 47 dX9_cutShare_6 (by decide) (fun c6 => ?_) (fun c6 => ?_)
      · refine A_iload_n dX9_cutShare_47 rfl rfl ?_
        exact A_iret dX9_cutShare_48 ⟨by rw [show i = j + 1 by omega], rfl⟩ ⟨by decide, by decide⟩
      · exact absurd (nI_lt (by omega) (by omega)) c6
    | succ k ih =>
      intro i  hk 
      have hi : i < j + 1 := by omega
      refine A_iload_n dX9_cutShare_4 rfl rfl ?_
      refine A_iload_n dX9_cutShare_5 rfl rfl ?_
      refine A_icmp_gt 47 dX9_cutShare_6 (by decide) (fun c6 => ?_) (fun c6 => ?_)
      · exact absurd c6 (nI_nlt (by omega) (by omega))
      · refine A_iload_n dX9_cutShare_9 rfl rfl ?_
        refine A_aload_n dX9_cutShare_10 rfl rfl ?_
        refine A_get dX9_cutShare_11 f_X9_28 HC_at0 rfl ?_
        refine A_get dX9_cutShare_14 f_X9_104 (HC_at (by decide)) rfl ?_
        refine A_iload_n dX9_cutShare_17 rfl rfl ?_
        refine A_iconst (v := 4) dX9_cutShare_18 (by decide) ?_
        refine A_callVi dX9_cutShare_19 m_X9_108 cb_X3_at (As := [_, _]) rfl (HC_at (by decide)) rfl (c_at7 G b _ co r n 4 hv hv6 (by omega) (by decide)) rfl ⟨by decide, by decide⟩ (Nat.le_of_ble_eq_true rfl) ⟨by decide, by decide⟩ (fun x19 h19 hq => ?_)
        obtain ⟨rfl, rfl⟩ := hq
        refine A_iconst (v := 1) dX9_cutShare_22 (by decide) ?_
        refine A_aload_n dX9_cutShare_23 rfl rfl ?_
        refine A_get dX9_cutShare_24 f_X9_28 HC_at0 rfl ?_
        refine A_get dX9_cutShare_27 f_X9_104 (HC_at (by decide)) rfl ?_
        refine A_get dX9_cutShare_30 f_X9_134 (HC_at (by decide)) rfl ?_
        refine A_iload_n dX9_cutShare_33 rfl rfl ?_
        refine A_isub dX9_cutShare_34 ?_
        rw [hv, nI_subN (by omega)]
        refine A_max dX9_cutShare_35 w_931 (by decide) (Nat.le_of_ble_eq_true rfl) ⟨by decide, by decide⟩ ?_
        refine A_eqI (y := nI (nv - i)) (by split; rfl; exact (show nv - i = 1 from by rename_i z; by_cases z2 : 1 < nv - i; exact absurd (nI_lt (a := 1) z2 (by omega)) z; omega) ▸ rfl) ?_
        refine A_idiv dX9_cutShare_38 (nI_neN (by omega) (by omega)) ?_
        refine A_iadd dX9_cutShare_39 ?_
        refine A_istore_n (lv1 := [_, _, _, _]) dX9_cutShare_40 rfl (Nat.le_of_ble_eq_true rfl) rfl rfl ?_
        refine A_inc 1 (lv1 := [_, _, _, _]) dX9_cutShare_41 rfl (by decide) rfl rfl ?_
        refine A_goto 4 dX9_cutShare_44 (by decide) ?_
        rw [nI_1]
        exact ih (i + 1) (by omega)
  refine A_iconst (v := 0) dX9_cutShare_0 (by decide) ?_
  refine A_istore_n (lv1 := [_, _, _, _]) dX9_cutShare_1 rfl (Nat.le_of_ble_eq_true rfl) rfl rfl ?_
  refine A_iconst (v := 0) dX9_cutShare_2 (by decide) ?_
  refine A_istore_n (lv1 := [_, _, _, _]) dX9_cutShare_3 rfl (Nat.le_of_ble_eq_true rfl) rfl rfl ?_
  exact loop (j + 1) 0 (by omega)

theorem share_w (G : GX) (X : XC) {b : Nat} {c : CT} {co : Nat → Nat → Option Nat} {r : Nat → Option AE} {n : Nat} {nv nc nf nl wk : Nat} {j : Nat} (hI : IX c nv nc nf nl wk) (hj : j < nv) : WA X G RX9 cX9_share false (some .int) (qI fun x h1 => x = shS c nv (coF c nv) (nv - 1) ∧ h1 = HC b c co r n) 2 0 0 (HC b c co r n) 0 0 40 [some (.ref b), some (.int (nI j)), some (.int (nI (nv - 1))), some (.int 0), some (.int (nI 0))] [] := by
  obtain ⟨hv, hv6, hc, hc8, hf, hf3, hl, hl8, hw, hw30, gC, gL⟩ := id hI
  have loop2 : ∀ (k i : Nat) , i + k = (nv - 1) → WA X G RX9 cX9_share false (some .int) (qI fun x h1 => x = shS c nv (coF c nv) (nv - 1) ∧ h1 = HC b c co r n) 2 0 0 (HC b c co r n) 0 0 71 [some (.ref b), some (.int (nI j)), some (.int (nI (nv - 1))), some (.int (shS c nv (coF c nv) i)), some (.int (nI i))] [] := by
    intro k
    induction k with
    | zero =>
      intro i  hk 
      refine A_iload dX9_share_71 rfl ?_
      refine A_iload_n dX9_share_73 rfl rfl ?_
      refine A_icmp_ge 92 dX9_share_74 (by decide) (fun c74 => ?_) (fun c74 => ?_)
      · refine A_iload_n dX9_share_92 rfl rfl ?_
        exact A_iret dX9_share_93 ⟨by rw [show i = nv - 1 by omega], rfl⟩ ⟨by decide, by decide⟩
      · exact absurd (by exact nI_le (by omega) (by omega)) c74
    | succ k ih =>
      intro i  hk 
      have hi : i < (nv - 1) := by omega
      refine A_iload dX9_share_71 rfl ?_
      refine A_iload_n dX9_share_73 rfl rfl ?_
      refine A_icmp_ge 92 dX9_share_74 (by decide) (fun c74 => ?_) (fun c74 => ?_)
      · exact absurd c74 (by exact nI_ge (by omega) (by omega))
      · refine A_iload_n dX9_share_77 rfl rfl ?_
        refine A_aload_n dX9_share_78 rfl rfl ?_
        refine A_iload dX9_share_79 rfl ?_
        refine A_callVi dX9_share_81 m_X9_320 cb_X9_cutShare (As := [_]) rfl HC_at0 rfl (c_cutShare G hI (by omega)) rfl ⟨by decide, by decide⟩ (Nat.le_of_ble_eq_true rfl) ⟨by decide, by decide⟩ (fun x81 h81 hq => ?_)
        obtain ⟨rfl, rfl⟩ := hq
        refine A_isub dX9_share_84 ?_
        refine A_istore_n (lv1 := [_, _, _, _, _]) dX9_share_85 rfl (Nat.le_of_ble_eq_true rfl) rfl rfl ?_
        refine A_inc 1 (lv1 := [_, _, _, _, _]) dX9_share_86 rfl (by decide) rfl rfl ?_
        refine A_goto 71 dX9_share_89 (by decide) ?_
        rw [nI_1]
        exact ih (i + 1) (by omega)
  have loop1 : ∀ (k i : Nat) , i + k = nv → WA X G RX9 cX9_share false (some .int) (qI fun x h1 => x = shS c nv (coF c nv) (nv - 1) ∧ h1 = HC b c co r n) 2 0 0 (HC b c co r n) 0 0 40 [some (.ref b), some (.int (nI j)), some (.int (nI (nv - 1))), some (.int (coF c i)), some (.int (nI i))] [] := by
    intro k
    induction k with
    | zero =>
      intro i  hk 
      refine A_iload dX9_share_40 rfl ?_
      refine A_iload_n dX9_share_42 rfl rfl ?_
      refine A_icmp_gt 68 dX9_share_43 (by decide) (fun c43 => ?_) (fun c43 => ?_)
      · refine A_iconst (v := 0) dX9_share_68 (by decide) ?_
        refine A_istore (lv1 := [_, _, _, _, _]) dX9_share_69 (Nat.le_of_ble_eq_true rfl) rfl rfl ?_
        rw [show i = nv by omega]
        exact loop2 (nv - 1) 0 (by omega)
      · exact absurd (nI_lt (by omega) (by omega)) c43
    | succ k ih =>
      intro i  hk 
      have hi : i < nv := by omega
      refine A_iload dX9_share_40 rfl ?_
      refine A_iload_n dX9_share_42 rfl rfl ?_
      refine A_icmp_gt 68 dX9_share_43 (by decide) (fun c43 => ?_) (fun c43 => ?_)
      · exact absurd c43 (nI_nlt (by omega) (by omega))
      · refine A_iload_n dX9_share_46 rfl rfl ?_
        refine A_aload_n dX9_share_47 rfl rfl ?_
        refine A_get dX9_share_48 f_X9_28 HC_at0 rfl ?_
        refine A_get dX9_share_51 f_X9_104 (HC_at (by decide)) rfl ?_
        refine A_iload dX9_share_54 rfl ?_
        refine A_iconst (v := 4) dX9_share_56 (by decide) ?_
        refine A_callVi dX9_share_57 m_X9_108 cb_X3_at (As := [_, _]) rfl (HC_at (by decide)) rfl (c_at7 G b _ co r n 4 hv hv6 (by omega) (by decide)) rfl ⟨by decide, by decide⟩ (Nat.le_of_ble_eq_true rfl) ⟨by decide, by decide⟩ (fun x57 h57 hq => ?_)
        obtain ⟨rfl, rfl⟩ := hq
        refine A_iadd dX9_share_60 ?_
        refine A_istore_n (lv1 := [_, _, _, _, _]) dX9_share_61 rfl (Nat.le_of_ble_eq_true rfl) rfl rfl ?_
        refine A_inc 1 (lv1 := [_, _, _, _, _]) dX9_share_62 rfl (by decide) rfl rfl ?_
        refine A_goto 40 dX9_share_65 (by decide) ?_
        rw [nI_1]
        exact ih (i + 1) (by omega)
  exact loop1 nv 0 (by omega)
theorem c_share (G : GX) {b : Nat} {c : CT} {co : Nat → Nat → Option Nat} {r : Nat → Option AE} {n : Nat} {nv nc nf nl wk : Nat} {v : Int32} (hI : IX c nv nc nf nl wk) : MA G 2 yX9_share cX9_share 5 (some .int) 0 0 [.ref b, .int v] (HC b c co r n) (qI fun x h1 => x = shareA c nv v ∧ h1 = HC b c co r n) := by
  refine MA.of (own := RX9) false [some (.ref b), some (.int v), none, none, none] (by decide +kernel) rfl (fun h => by cases h) (Nat.le_of_ble_eq_true rfl) rfl (fun X => ?_)
  obtain ⟨hv, hv6, hc, hc8, hf, hf3, hl, hl8, hw, hw30, gC, gL⟩ := id hI
  refine A_aload_n dX9_share_0 rfl rfl ?_
  refine A_iload_n dX9_share_1 rfl rfl ?_
  refine A_callVi dX9_share_2 m_X9_101 cb_X9_hasVillage (As := [_]) rfl HC_at0 rfl (c_hasVillage G) rfl ⟨by decide, by decide⟩ (Nat.le_of_ble_eq_true rfl) ⟨by decide, by decide⟩ (fun x2 h2 hq => ?_)
  obtain ⟨rfl, rfl⟩ := hq
  refine A_if_ne 11 dX9_share_5 (by decide) (fun c5 => ?_) (fun c5 => ?_)
  · obtain ⟨j, hj, rfl⟩ := inI_of hv c5 (by omega)
    refine A_aload_n dX9_share_11 rfl rfl ?_
    refine A_get dX9_share_12 f_X9_28 HC_at0 rfl ?_
    refine A_get dX9_share_15 f_X9_104 (HC_at (by decide)) rfl ?_
    refine A_get dX9_share_18 f_X9_134 (HC_at (by decide)) rfl ?_
    refine A_iconst (v := 1) dX9_share_21 (by decide) ?_
    refine A_isub dX9_share_22 ?_
    rw [hv, nI_sub1 (by omega)]
    refine A_istore_n (lv1 := [_, _, _, _, _]) dX9_share_23 rfl (Nat.le_of_ble_eq_true rfl) rfl rfl ?_
    refine A_iload_n dX9_share_24 rfl rfl ?_
    refine A_iload_n dX9_share_25 rfl rfl ?_
    refine A_icmp_ge 35 dX9_share_26 (by decide) (fun c26 => ?_) (fun c26 => ?_)
    · have cj : ¬ j < nv - 1 := fun z => absurd c26 (nI_ge z (by omega))
      rw [show shareA c nv (nI j) = shS c nv (coF c nv) (nv - 1) by rw [shareA, if_neg c5, tcl_nI (by omega), if_neg cj]]
      refine A_iconst (v := 0) dX9_share_35 (by decide) ?_
      refine A_istore_n (lv1 := [_, _, _, _, _]) dX9_share_36 rfl (Nat.le_of_ble_eq_true rfl) rfl rfl ?_
      refine A_iconst (v := 0) dX9_share_37 (by decide) ?_
      refine A_istore (lv1 := [_, _, _, _, _]) dX9_share_38 (Nat.le_of_ble_eq_true rfl) rfl rfl ?_
      exact share_w G X hI hj
    · have cj : j < nv - 1 := by by_cases z : j < nv - 1; exact z; exact absurd (nI_le (by omega) (by omega)) c26
      refine A_aload_n dX9_share_29 rfl rfl ?_
      refine A_iload_n dX9_share_30 rfl rfl ?_
      refine A_callVi dX9_share_31 m_X9_320 cb_X9_cutShare (As := [_]) rfl HC_at0 rfl (c_cutShare G hI hj) rfl ⟨by decide, by decide⟩ (Nat.le_of_ble_eq_true rfl) ⟨by decide, by decide⟩ (fun x31 h31 hq => ?_)
      obtain ⟨rfl, rfl⟩ := hq
      exact A_iret dX9_share_34 ⟨by rw [shareA, if_neg c5, tcl_nI (by omega), if_pos cj], rfl⟩ ⟨by decide, by decide⟩
  · refine A_bipush (v := (-2)) dX9_share_8 (by decide) ?_
    exact A_iret dX9_share_10 ⟨(if_pos (by assumption)).symm, rfl⟩ ⟨by decide, by decide⟩
