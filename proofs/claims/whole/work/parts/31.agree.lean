/-! MARKS asked: agree, needed, who, sure -/
def SF (S : Nat → Option ST) (s : Int32) : Nat × (Nat → Int64) := match S (tcl s) with
  | none => (0, fun _ => 0)
  | some (_, _, _, m, f) => (m / 3, f)
theorem mwA_0 {c : CT} {S : Nat → Option ST} {nv wk : Nat} {s : Int32} {rest : Prop} [Decidable rest] (h : mwA c S nv wk s rest = 0) : ∃ j a q w m f, j < 4 ∧ s = nI j ∧ S j = some (a, q, w, m, f) ∧ m = 3 * (m / 3) ∧ (∀ i, i < m / 3 → mkOk f nv wk i = true) ∧ rest ∧ SF S s = (m / 3, f) := by
  unfold mwA at h
  by_cases hp : 0 < c 6 5 ∧ ¬ inI s 4 = 0 ∧ rest
  · rw [if_pos hp] at h
    obtain ⟨j, hj, rfl⟩ := inI_of (k := 4) rfl hp.2.1 (by decide)
    have ej : tcl (nI j) = j := tcl_nI (by omega)
    rw [ej] at h
    rcases hs : S j with _ | ⟨a, q, w, m, f⟩
    · rw [hs] at h
      have h : (-6 : Int32) = 0 := h
      exact absurd h (by decide)
    · rw [hs] at h
      have h : (if m % 3 = 0 then mwR f nv wk 0 (m / 3) else -2) = 0 := h
      by_cases h3 : m % 3 = 0
      · rw [if_pos h3] at h
        exact ⟨j, a, q, w, m, f, hj, rfl, hs, by omega, fun i hi => mwR_ok (m / 3) 0 h i (by omega) (by omega), hp.2.2, by rw [SF, ej, hs]⟩
      · rw [if_neg h3] at h; exact absurd h (by decide)
  · rw [if_neg hp] at h; exact absurd h (by decide)
def PM (c : CT) (F : Nat × (Nat → Int64)) (k : Nat) : Int32 := miR (runF (leadF c k) 31) F.2 0 F.1 (-1)
def cntM (P : Nat → Int32) : Nat → Nat
  | 0 => 0
  | i + 1 => if P i = -1 then cntM P i + 1 else cntM P i
def leM (P : Nat → Int32) : Nat → Int32
  | 0 => 99
  | i + 1 => if P i = -1 then leM P i else mn (leM P i) (P i)
/-- the one thing that is said where no MARK is missed; NONE if two things are -/
def whM (P said : Nat → Int32) : Nat → Nat → Int32 → Int32
  | _, 0, x => x
  | i, k + 1, x => if P i = -1 then if x = -1 then whM P said (i + 1) k (said i) else if x = said i then whM P said (i + 1) k (said i) else -1 else whM P said (i + 1) k x
def agreeA (c : CT) (S : Nat → Option ST) (nv nf wk : Nat) (s : Int32) : Int32 := if mwA c S nv wk s (¬ (1 : Int32) = 0) = 0 then nI (cntM (PM c (SF S s)) (tot nv nf)) else mwA c S nv wk s (¬ (1 : Int32) = 0)
def neededA (c : CT) (S : Nat → Option ST) (nv nf wk : Nat) (s : Int32) : Int32 := if mwA c S nv wk s (¬ (1 : Int32) = 0) = 0 then if leM (PM c (SF S s)) (tot nv nf) = 99 then -1 else leM (PM c (SF S s)) (tot nv nf) else mwA c S nv wk s (¬ (1 : Int32) = 0)
theorem agree_w (G : GX) (X : XC) {b : Nat} {c : CT} {co : Nat → Nat → Option Nat} {r : Nat → Option AE} {n : Nat} {S : Nat → Option ST} {nv nc nf nl wk : Nat} {s a q m K : Nat} {w : Int32} {f : Nat → Int64} (hI : IX c nv nc nf nl wk) (hK : KX c nv nf) (hCa : CacheOk c (tot nv nf)) (hS : SOk b co r S) (hs4 : s < 4) (hco : co 27 s = some a) (ha : r a = some (ob 5 [.ref q, .int w, .int (nI m)])) (hq : r q = some (aJ 60 f)) (hm : m ≤ 60) (oa : ¬ (b ≤ a ∧ a < b + 55)) (oq : ¬ (b ≤ q ∧ q < b + 55)) (hmK : m = 3 * K) (hok : ∀ j, j < K → mkOk f nv wk j = true) : WA X G RX9 cX9_agree false (some .int) (qI fun x h1 => x = nI (cntM (PM c (K, f)) (tot nv nf)) ∧ ∃ c1, h1 = HC b c1 co r n ∧ keepC c c1 (tot nv nf)) 6 0 0 (HC b c co r n) 0 0 27 [some (.ref b), some (.int (nI s)), some (.int 0), some (.int (0)), some (.int (nI (tot nv nf))), some (.int (0))] [] := by
  obtain ⟨hv, hv6, hc, hc8, hf, hf3, hl, hl8, hw, hw30, gC, gL⟩ := id hI
  have h343 := tot_343 hv6 hf3
  have hq0 := hq
  have loop : ∀ (k i : Nat) (y : CT), i + k = tot nv nf → (sameQ c y) → WA X G RX9 cX9_agree false (some .int) (qI fun x h1 => x = nI (cntM (PM c (K, f)) (tot nv nf)) ∧ ∃ c1, h1 = HC b c1 co r n ∧ keepC c c1 (tot nv nf)) 6 0 0 (HC b y co r n) 0 0 27 [some (.ref b), some (.int (nI s)), some (.int 0), some (.int (nI (cntM (PM c (K, f)) i))), some (.int (nI (tot nv nf))), some (.int (nI i))] [] := by
    intro k
    induction k with
    | zero =>
      intro i y hk hy
      refine A_iload dX9_agree_27 rfl ?_
      refine A_iload dX9_agree_29 rfl ?_
      refine A_icmp_ge 58 dX9_agree_31 (by decide) (fun c31 => ?_) (fun c31 => ?_)
      · refine A_iload_n dX9_agree_58 rfl rfl ?_
        exact A_iret dX9_agree_59 ⟨by rw [show i = tot nv nf by omega], y, rfl, keepC.Q hCa hy⟩ ⟨by decide, by decide⟩
      · exact absurd (by exact nI_le (by omega) (by omega)) c31
    | succ k ih =>
      intro i y hk hy
      have hi : i < tot nv nf := by omega
      refine A_iload dX9_agree_27 rfl ?_
      refine A_iload dX9_agree_29 rfl ?_
      refine A_icmp_ge 58 dX9_agree_31 (by decide) (fun c31 => ?_) (fun c31 => ?_)
      · exact absurd c31 (by exact nI_ge (by omega) (by omega))
      · refine A_aload_n dX9_agree_34 rfl rfl ?_
        refine A_iload dX9_agree_35 rfl ?_
        refine A_callVv dX9_agree_37 m_X9_278 cb_X9_goThroughYearBy (As := [_]) rfl HC_at0 rfl (c_goBy G (hI.Q hy) (by omega)) rfl ⟨by decide, by decide⟩ (Nat.le_of_ble_eq_true rfl) ⟨by decide, by decide⟩ (fun h37 hq => ?_)
        obtain rfl := hq
        have hy2 := hy.tr (sameQ.run (c := y) (k := i))
        have e31 : ∀ v w, v < nv → w < wk → runF (leadF y i) 31 (v * 30 + w) = runF (leadF c i) 31 (v * 30 + w) := fun v w h1 h2 => runF_31 (hI.ld i) (lead_Q hy i) h1 h2
        obtain ⟨z, ez⟩ : ∃ z, runF (leadF y i) = z := ⟨_, rfl⟩
        rw [ez] at hy2 e31 ⊢
        refine A_aload_n dX9_agree_40 rfl rfl ?_
        refine A_iload_n dX9_agree_41 rfl rfl ?_
        refine A_callVi dX9_agree_42 m_X9_281 cb_X9_missed (As := [_]) rfl HC_at0 rfl (c_missed G hs4 hco ha hq0 hm oa oq hmK hok hv6 hw30) rfl ⟨by decide, by decide⟩ (Nat.le_of_ble_eq_true rfl) ⟨by decide, by decide⟩ (fun x42 h42 hq => ?_)
        obtain ⟨rfl, rfl⟩ := hq
        refine A_eqI (y := PM c (K, f) i) (miR_c hv6 hw30 e31 K 0 _ (fun j _ h => hok j (by omega))) ?_
        refine A_iconst (v := (-1)) dX9_agree_45 (by decide) ?_
        refine A_icmp_ne 52 dX9_agree_46 (by decide) (fun c46 => ?_) (fun c46 => ?_)
        · refine A_inc 1 (lv1 := [_, _, _, _, _, _]) dX9_agree_52 rfl (by decide) rfl rfl ?_
          refine A_goto 27 dX9_agree_55 (by decide) ?_
          rw [nI_1]
          have e := ih (i + 1) z (by omega) hy2
          rw [cntM, if_neg c46] at e
          exact e
        · refine A_inc 1 (lv1 := [_, _, _, _, _, _]) dX9_agree_49 rfl (by decide) rfl rfl ?_
          rw [nI_1]
          refine A_inc 1 (lv1 := [_, _, _, _, _, _]) dX9_agree_52 rfl (by decide) rfl rfl ?_
          refine A_goto 27 dX9_agree_55 (by decide) ?_
          rw [nI_1]
          have e := ih (i + 1) z (by omega) hy2
          rw [cntM, if_pos c46] at e
          exact e
  exact loop (tot nv nf) 0 c (by omega) sameQ.rf
theorem c_agree (G : GX) {b : Nat} {c : CT} {co : Nat → Nat → Option Nat} {r : Nat → Option AE} {n : Nat} {S : Nat → Option ST} {nv nc nf nl wk : Nat} {s : Int32} (hI : IX c nv nc nf nl wk) (hK : KX c nv nf) (hCa : CacheOk c (tot nv nf)) (hS : SOk b co r S) : MA G 6 yX9_agree cX9_agree 6 (some .int) 0 0 [.ref b, .int s] (HC b c co r n) (qI fun x h1 => x = agreeA c S nv nf wk s ∧ ∃ c1, h1 = HC b c1 co r n ∧ keepC c c1 (tot nv nf)) := by
  refine MA.of (own := RX9) false [some (.ref b), some (.int s), none, none, none, none] (by decide +kernel) rfl (fun h => by cases h) (Nat.le_of_ble_eq_true rfl) rfl (fun X => ?_)
  refine A_aload_n dX9_agree_0 rfl rfl ?_
  refine A_iload_n dX9_agree_1 rfl rfl ?_
  refine A_iconst (v := 1) dX9_agree_2 (by decide) ?_
  refine A_callVi dX9_agree_3 m_X9_271 cb_X9_marksWrong (As := [_, _]) rfl HC_at0 rfl (c_marksWrong G (S := S) hI hS) rfl ⟨by decide, by decide⟩ (Nat.le_of_ble_eq_true rfl) ⟨by decide, by decide⟩ (fun x3 h3 hq => ?_)
  obtain ⟨rfl, rfl⟩ := hq
  refine A_istore_n (lv1 := [_, _, _, _, _, _]) dX9_agree_6 rfl (Nat.le_of_ble_eq_true rfl) rfl rfl ?_
  refine A_iload_n dX9_agree_7 rfl rfl ?_
  refine A_if_eq 13 dX9_agree_8 (by decide) (fun c8 => ?_) (fun c8 => ?_)
  · have eA : agreeA c S nv nf wk s = nI (cntM (PM c (SF S s)) (tot nv nf)) := if_pos c8
    rw [eA]
    refine A_iconst (v := 0) dX9_agree_13 (by decide) ?_
    refine A_istore_n (lv1 := [_, _, _, _, _, _]) dX9_agree_14 rfl (Nat.le_of_ble_eq_true rfl) rfl rfl ?_
    refine A_aload_n dX9_agree_15 rfl rfl ?_
    refine A_get dX9_agree_16 f_X9_59 HC_at0 rfl ?_
    refine A_callVi dX9_agree_19 m_X9_275 cb_X1_total (As := []) rfl (HC_at (by decide)) rfl (c_total G hI) rfl ⟨by decide, by decide⟩ (Nat.le_of_ble_eq_true rfl) ⟨by decide, by decide⟩ (fun x19 h19 hq => ?_)
    obtain ⟨rfl, rfl⟩ := hq
    refine A_istore (lv1 := [_, _, _, _, _, _]) dX9_agree_22 (Nat.le_of_ble_eq_true rfl) rfl rfl ?_
    refine A_iconst (v := 0) dX9_agree_24 (by decide) ?_
    refine A_istore (lv1 := [_, _, _, _, _, _]) dX9_agree_25 (Nat.le_of_ble_eq_true rfl) rfl rfl ?_
    rw [c8]
    obtain ⟨j, a, q, w, m, f, hj, rfl, hsj, h3, hok, hr, eF⟩ := mwA_0 c8
    obtain ⟨hco, ha, hq, hm, oa, oq⟩ := (hS j hj).2 a q w m f hsj
    rw [eF]
    exact agree_w G X hI hK hCa hS hj hco ha hq hm oa oq h3 hok
  · refine A_iload_n dX9_agree_11 rfl rfl ?_
    exact A_iret dX9_agree_12 ⟨by rw [agreeA, if_neg c8], ⟨c, rfl, keepC.rf hCa⟩⟩ ⟨by decide, by decide⟩

theorem needed_w (G : GX) (X : XC) {b : Nat} {c : CT} {co : Nat → Nat → Option Nat} {r : Nat → Option AE} {n : Nat} {S : Nat → Option ST} {nv nc nf nl wk : Nat} {s a q m K : Nat} {w : Int32} {f : Nat → Int64} (hI : IX c nv nc nf nl wk) (hK : KX c nv nf) (hCa : CacheOk c (tot nv nf)) (hS : SOk b co r S) (hs4 : s < 4) (hco : co 27 s = some a) (ha : r a = some (ob 5 [.ref q, .int w, .int (nI m)])) (hq : r q = some (aJ 60 f)) (hm : m ≤ 60) (oa : ¬ (b ≤ a ∧ a < b + 55)) (oq : ¬ (b ≤ q ∧ q < b + 55)) (hmK : m = 3 * K) (hok : ∀ j, j < K → mkOk f nv wk j = true) : WA X G RX9 cX9_needed false (some .int) (qI fun x h1 => x = (if leM (PM c (K, f)) (tot nv nf) = 99 then -1 else leM (PM c (K, f)) (tot nv nf)) ∧ ∃ c1, h1 = HC b c1 co r n ∧ keepC c c1 (tot nv nf)) 6 0 0 (HC b c co r n) 0 0 28 [some (.ref b), some (.int (nI s)), some (.int 0), some (.int (99)), some (.int (nI (tot nv nf))), some (.int (0)), none] [] := by
  obtain ⟨hv, hv6, hc, hc8, hf, hf3, hl, hl8, hw, hw30, gC, gL⟩ := id hI
  have h343 := tot_343 hv6 hf3
  have hq0 := hq
  have loop : ∀ (k i : Nat) (y : CT), i + k = tot nv nf → (sameQ c y) → WA X G RX9 cX9_needed false (some .int) (qI fun x h1 => x = (if leM (PM c (K, f)) (tot nv nf) = 99 then -1 else leM (PM c (K, f)) (tot nv nf)) ∧ ∃ c1, h1 = HC b c1 co r n ∧ keepC c c1 (tot nv nf)) 6 0 0 (HC b y co r n) 0 0 28 [some (.ref b), some (.int (nI s)), some (.int 0), some (.int (leM (PM c (K, f)) i)), some (.int (nI (tot nv nf))), some (.int (nI i)), none] [] := by
    intro k
    induction k with
    | zero =>
      intro i y hk hy
      refine A_iload dX9_needed_28 rfl ?_
      refine A_iload dX9_needed_30 rfl ?_
      refine A_icmp_ge 67 dX9_needed_32 (by decide) (fun c32 => ?_) (fun c32 => ?_)
      · refine A_iload_n dX9_needed_67 rfl rfl ?_
        refine A_bipush (v := 99) dX9_needed_68 (by decide) ?_
        refine A_icmp_ne 77 dX9_needed_70 (by decide) (fun c70 => ?_) (fun c70 => ?_)
        · refine A_iload_n dX9_needed_77 rfl rfl ?_
          exact A_iret dX9_needed_78 ⟨by rw [show i = tot nv nf by omega] at c70; rw [if_neg c70]; rw [show i = tot nv nf by omega], y, rfl, keepC.Q hCa hy⟩ ⟨by decide, by decide⟩
        · refine A_iconst (v := (-1)) dX9_needed_73 (by decide) ?_
          refine A_goto 78 dX9_needed_74 (by decide) ?_
          exact A_iret dX9_needed_78 ⟨by rw [show i = tot nv nf by omega] at c70; rw [if_pos c70], y, rfl, keepC.Q hCa hy⟩ ⟨by decide, by decide⟩
      · exact absurd (by exact nI_le (by omega) (by omega)) c32
    | succ k ih =>
      intro i y hk hy
      have hi : i < tot nv nf := by omega
      refine A_iload dX9_needed_28 rfl ?_
      refine A_iload dX9_needed_30 rfl ?_
      refine A_icmp_ge 67 dX9_needed_32 (by decide) (fun c32 => ?_) (fun c32 => ?_)
      · exact absurd c32 (by exact nI_ge (by omega) (by omega))
      · refine A_aload_n dX9_needed_35 rfl rfl ?_
        refine A_iload dX9_needed_36 rfl ?_
        refine A_callVv dX9_needed_38 m_X9_278 cb_X9_goThroughYearBy (As := [_]) rfl HC_at0 rfl (c_goBy G (hI.Q hy) (by omega)) rfl ⟨by decide, by decide⟩ (Nat.le_of_ble_eq_true rfl) ⟨by decide, by decide⟩ (fun h38 hq => ?_)
        obtain rfl := hq
        have hy2 := hy.tr (sameQ.run (c := y) (k := i))
        have e31 : ∀ v w, v < nv → w < wk → runF (leadF y i) 31 (v * 30 + w) = runF (leadF c i) 31 (v * 30 + w) := fun v w h1 h2 => runF_31 (hI.ld i) (lead_Q hy i) h1 h2
        obtain ⟨z, ez⟩ : ∃ z, runF (leadF y i) = z := ⟨_, rfl⟩
        rw [ez] at hy2 e31 ⊢
        refine A_aload_n dX9_needed_41 rfl rfl ?_
        refine A_iload_n dX9_needed_42 rfl rfl ?_
        refine A_callVi dX9_needed_43 m_X9_281 cb_X9_missed (As := [_]) rfl HC_at0 rfl (c_missed G hs4 hco ha hq0 hm oa oq hmK hok hv6 hw30) rfl ⟨by decide, by decide⟩ (Nat.le_of_ble_eq_true rfl) ⟨by decide, by decide⟩ (fun x43 h43 hq => ?_)
        obtain ⟨rfl, rfl⟩ := hq
        refine A_eqI (y := PM c (K, f) i) (miR_c hv6 hw30 e31 K 0 _ (fun j _ h => hok j (by omega))) ?_
        refine A_istore (lv1 := [_, _, _, _, _, _, _]) dX9_needed_46 (Nat.le_of_ble_eq_true rfl) rfl rfl ?_
        refine A_iload dX9_needed_48 rfl ?_
        refine A_iconst (v := (-1)) dX9_needed_50 (by decide) ?_
        refine A_icmp_eq 61 dX9_needed_51 (by decide) (fun c51 => ?_) (fun c51 => ?_)
        · refine A_inc 1 (lv1 := [_, _, _, _, _, _, _]) dX9_needed_61 rfl (by decide) rfl rfl ?_
          refine A_goto 28 dX9_needed_64 (by decide) ?_
          refine A_fg 6 (lv1 := [_, _, _, _, _, _, _]) rfl ?_
          rw [nI_1]
          have e := ih (i + 1) z (by omega) hy2
          rw [leM, if_pos c51] at e
          exact e
        · refine A_iload_n dX9_needed_54 rfl rfl ?_
          refine A_iload dX9_needed_55 rfl ?_
          refine A_min dX9_needed_57 w_901 (by decide) (Nat.le_of_ble_eq_true rfl) ⟨by decide, by decide⟩ ?_
          refine A_istore_n (lv1 := [_, _, _, _, _, _, _]) dX9_needed_60 rfl (Nat.le_of_ble_eq_true rfl) rfl rfl ?_
          refine A_inc 1 (lv1 := [_, _, _, _, _, _, _]) dX9_needed_61 rfl (by decide) rfl rfl ?_
          refine A_goto 28 dX9_needed_64 (by decide) ?_
          refine A_fg 6 (lv1 := [_, _, _, _, _, _, _]) rfl ?_
          rw [nI_1]
          have e := ih (i + 1) z (by omega) hy2
          rw [leM, if_neg c51] at e
          exact e
  exact loop (tot nv nf) 0 c (by omega) sameQ.rf
theorem c_needed (G : GX) {b : Nat} {c : CT} {co : Nat → Nat → Option Nat} {r : Nat → Option AE} {n : Nat} {S : Nat → Option ST} {nv nc nf nl wk : Nat} {s : Int32} (hI : IX c nv nc nf nl wk) (hK : KX c nv nf) (hCa : CacheOk c (tot nv nf)) (hS : SOk b co r S) : MA G 6 yX9_needed cX9_needed 7 (some .int) 0 0 [.ref b, .int s] (HC b c co r n) (qI fun x h1 => x = neededA c S nv nf wk s ∧ ∃ c1, h1 = HC b c1 co r n ∧ keepC c c1 (tot nv nf)) := by
  refine MA.of (own := RX9) false [some (.ref b), some (.int s), none, none, none, none, none] (by decide +kernel) rfl (fun h => by cases h) (Nat.le_of_ble_eq_true rfl) rfl (fun X => ?_)
  refine A_aload_n dX9_needed_0 rfl rfl ?_
  refine A_iload_n dX9_needed_1 rfl rfl ?_
  refine A_iconst (v := 1) dX9_needed_2 (by decide) ?_
  refine A_callVi dX9_needed_3 m_X9_271 cb_X9_marksWrong (As := [_, _]) rfl HC_at0 rfl (c_marksWrong G (S := S) hI hS) rfl ⟨by decide, by decide⟩ (Nat.le_of_ble_eq_true rfl) ⟨by decide, by decide⟩ (fun x3 h3 hq => ?_)
  obtain ⟨rfl, rfl⟩ := hq
  refine A_istore_n (lv1 := [_, _, _, _, _, _, _]) dX9_needed_6 rfl (Nat.le_of_ble_eq_true rfl) rfl rfl ?_
  refine A_iload_n dX9_needed_7 rfl rfl ?_
  refine A_if_eq 13 dX9_needed_8 (by decide) (fun c8 => ?_) (fun c8 => ?_)
  · have eA : neededA c S nv nf wk s = (if leM (PM c (SF S s)) (tot nv nf) = 99 then -1 else leM (PM c (SF S s)) (tot nv nf)) := if_pos c8
    rw [eA]
    refine A_bipush (v := 99) dX9_needed_13 (by decide) ?_
    refine A_istore_n (lv1 := [_, _, _, _, _, _, _]) dX9_needed_15 rfl (Nat.le_of_ble_eq_true rfl) rfl rfl ?_
    refine A_aload_n dX9_needed_16 rfl rfl ?_
    refine A_get dX9_needed_17 f_X9_59 HC_at0 rfl ?_
    refine A_callVi dX9_needed_20 m_X9_275 cb_X1_total (As := []) rfl (HC_at (by decide)) rfl (c_total G hI) rfl ⟨by decide, by decide⟩ (Nat.le_of_ble_eq_true rfl) ⟨by decide, by decide⟩ (fun x20 h20 hq => ?_)
    obtain ⟨rfl, rfl⟩ := hq
    refine A_istore (lv1 := [_, _, _, _, _, _, _]) dX9_needed_23 (Nat.le_of_ble_eq_true rfl) rfl rfl ?_
    refine A_iconst (v := 0) dX9_needed_25 (by decide) ?_
    refine A_istore (lv1 := [_, _, _, _, _, _, _]) dX9_needed_26 (Nat.le_of_ble_eq_true rfl) rfl rfl ?_
    rw [c8]
    obtain ⟨j, a, q, w, m, f, hj, rfl, hsj, h3, hok, hr, eF⟩ := mwA_0 c8
    obtain ⟨hco, ha, hq, hm, oa, oq⟩ := (hS j hj).2 a q w m f hsj
    rw [eF]
    exact needed_w G X hI hK hCa hS hj hco ha hq hm oa oq h3 hok
  · refine A_iload_n dX9_needed_11 rfl rfl ?_
    exact A_iret dX9_needed_12 ⟨by rw [neededA, if_neg c8], ⟨c, rfl, keepC.rf hCa⟩⟩ ⟨by decide, by decide⟩
