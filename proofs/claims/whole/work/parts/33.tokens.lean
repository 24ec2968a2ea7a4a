/-! TOKENS -/
def blF (v : Int32) : Int32 := if v = 32 ∨ v = 10 then 1 else 0
def letF (v : Int32) : Int32 := if v < 97 ∨ 122 < v then 0 else 1
def digF (v : Int32) : Int32 := if v < 48 ∨ 57 < v then 0 else 1
def tbF (c : CT) : CT := put (put (put (put c 5 1 0) 5 2 0) 5 3 0) 5 4 0
/-- one digit more -/
def snS (c : CT) : CT := put (put c 5 4 (mn 1000000 (c 5 4 * 10 + atF c (c 5 3) - 48))) 5 3 (c 5 3 + 1)
def snF : Nat → CT → CT
  | 0, c => c
  | k + 1, c => if digF (atF c (c 5 3)) = 0 then c else snF k (snS c)
def snA (L p : Nat) (c : CT) : CT := snF (L - p) (put c 5 4 0)
theorem snS_1 {c : CT} : snS c 1 = c 1 := by rw [snS, put_ne (by decide), put_ne (by decide)]
theorem snS_2 {c : CT} : snS c 2 = c 2 := by rw [snS, put_ne (by decide), put_ne (by decide)]
theorem snS_3 {c : CT} {p : Nat} (h : c 5 3 = nI p) : snS c 5 3 = nI (p + 1) := by rw [snS, put_kk, h]; exact nI_1 p
theorem c_tokBegin (G : GX) {b : Nat} {c : CT} {co : Nat → Nat → Option Nat} {r : Nat → Option AE} {n : Nat} : MA G 0 yX7_begin cX7_begin 1 none 0 0 [.ref (b + 5)] (HC b c co r n) (qV fun h1 => h1 = HC b (tbF c) co r n) := by
  refine MA.of (own := RX7) false [some (.ref (b + 5))] (by decide +kernel) rfl (fun h => by cases h) (Nat.le_of_ble_eq_true rfl) rfl (fun X => ?_)
  refine A_aload_n dX7_begin_0 rfl rfl ?_
  refine A_iconst (v := 0) dX7_begin_1 (by decide) ?_
  refine A_putC 1 dX7_begin_2 p_X7_15 (by decide) rfl (Nat.le_of_ble_eq_true rfl) rfl ?_
  refine A_aload_n dX7_begin_5 rfl rfl ?_
  refine A_iconst (v := 0) dX7_begin_6 (by decide) ?_
  refine A_putC 2 dX7_begin_7 p_X7_19 (by decide) rfl (Nat.le_of_ble_eq_true rfl) rfl ?_
  refine A_aload_n dX7_begin_10 rfl rfl ?_
  refine A_iconst (v := 0) dX7_begin_11 (by decide) ?_
  refine A_putC 3 dX7_begin_12 p_X7_22 (by decide) rfl (Nat.le_of_ble_eq_true rfl) rfl ?_
  refine A_aload_n dX7_begin_15 rfl rfl ?_
  refine A_iconst (v := 0) dX7_begin_16 (by decide) ?_
  refine A_putC 4 dX7_begin_17 p_X7_25 (by decide) rfl (Nat.le_of_ble_eq_true rfl) rfl ?_
  exact A_vret dX7_begin_20 rfl ⟨by decide, by decide⟩

theorem c_isBlank (G : GX) {h : AH} {v : Int32} : MA G 0 yX7_isBlank cX7_isBlank 1 (some .boolean) 0 0 [.int v] h (qI fun x h1 => x = blF v ∧ h1 = h) := by
  refine MA.of (own := RX7) false [some (.int v)] (by decide +kernel) rfl (fun h => by cases h) (Nat.le_of_ble_eq_true rfl) rfl (fun X => ?_)
  refine A_iload_n dX7_isBlank_0 rfl rfl ?_
  refine A_bipush (v := 32) dX7_isBlank_1 (by decide) ?_
  refine A_icmp_eq 12 dX7_isBlank_3 (by decide) (fun c3 => ?_) (fun c3 => ?_)
  · refine A_iconst (v := 1) dX7_isBlank_12 (by decide) ?_
    refine A_goto 17 dX7_isBlank_13 (by decide) ?_
    exact A_zret dX7_isBlank_17 rfl ⟨(if_pos (by first | exact Or.inl (by assumption) | exact Or.inr (by assumption))).symm, rfl⟩ ⟨by decide, by decide⟩
  · refine A_iload_n dX7_isBlank_6 rfl rfl ?_
    refine A_bipush (v := 10) dX7_isBlank_7 (by decide) ?_
    refine A_icmp_ne 16 dX7_isBlank_9 (by decide) (fun c9 => ?_) (fun c9 => ?_)
    · refine A_iconst (v := 0) dX7_isBlank_16 (by decide) ?_
      exact A_zret dX7_isBlank_17 rfl ⟨(if_neg (fun z => z.elim c3 c9)).symm, rfl⟩ ⟨by decide, by decide⟩
    · refine A_iconst (v := 1) dX7_isBlank_12 (by decide) ?_
      refine A_goto 17 dX7_isBlank_13 (by decide) ?_
      exact A_zret dX7_isBlank_17 rfl ⟨(if_pos (by first | exact Or.inl (by assumption) | exact Or.inr (by assumption))).symm, rfl⟩ ⟨by decide, by decide⟩

theorem c_isLetter (G : GX) {h : AH} {v : Int32} : MA G 0 yX7_isLetter cX7_isLetter 1 (some .boolean) 0 0 [.int v] h (qI fun x h1 => x = letF v ∧ h1 = h) := by
  refine MA.of (own := RX7) false [some (.int v)] (by decide +kernel) rfl (fun h => by cases h) (Nat.le_of_ble_eq_true rfl) rfl (fun X => ?_)
  refine A_iload_n dX7_isLetter_0 rfl rfl ?_
  refine A_bipush (v := 97) dX7_isLetter_1 (by decide) ?_
  refine A_icmp_lt 16 dX7_isLetter_3 (by decide) (fun c3 => ?_) (fun c3 => ?_)
  · refine A_iconst (v := 0) dX7_isLetter_16 (by decide) ?_
    exact A_zret dX7_isLetter_17 rfl ⟨(if_pos (by first | exact Or.inl (by assumption) | exact Or.inr (by assumption))).symm, rfl⟩ ⟨by decide, by decide⟩
  · refine A_iload_n dX7_isLetter_6 rfl rfl ?_
    refine A_bipush (v := 122) dX7_isLetter_7 (by decide) ?_
    refine A_icmp_gt 16 dX7_isLetter_9 (by decide) (fun c9 => ?_) (fun c9 => ?_)
    · refine A_iconst (v := 0) dX7_isLetter_16 (by decide) ?_
      exact A_zret dX7_isLetter_17 rfl ⟨(if_pos (by first | exact Or.inl (by assumption) | exact Or.inr (by assumption))).symm, rfl⟩ ⟨by decide, by decide⟩
    · refine A_iconst (v := 1) dX7_isLetter_12 (by decide) ?_
      refine A_goto 17 dX7_isLetter_13 (by decide) ?_
      exact A_zret dX7_isLetter_17 rfl ⟨(if_neg (fun z => z.elim c3 c9)).symm, rfl⟩ ⟨by decide, by decide⟩

theorem c_isDigit (G : GX) {h : AH} {v : Int32} : MA G 0 yX7_isDigit cX7_isDigit 1 (some .boolean) 0 0 [.int v] h (qI fun x h1 => x = digF v ∧ h1 = h) := by
  refine MA.of (own := RX7) false [some (.int v)] (by decide +kernel) rfl (fun h => by cases h) (Nat.le_of_ble_eq_true rfl) rfl (fun X => ?_)
  refine A_iload_n dX7_isDigit_0 rfl rfl ?_
  refine A_bipush (v := 48) dX7_isDigit_1 (by decide) ?_
  refine A_icmp_lt 16 dX7_isDigit_3 (by decide) (fun c3 => ?_) (fun c3 => ?_)
  · refine A_iconst (v := 0) dX7_isDigit_16 (by decide) ?_
    exact A_zret dX7_isDigit_17 rfl ⟨(if_pos (by first | exact Or.inl (by assumption) | exact Or.inr (by assumption))).symm, rfl⟩ ⟨by decide, by decide⟩
  · refine A_iload_n dX7_isDigit_6 rfl rfl ?_
    refine A_bipush (v := 57) dX7_isDigit_7 (by decide) ?_
    refine A_icmp_gt 16 dX7_isDigit_9 (by decide) (fun c9 => ?_) (fun c9 => ?_)
    · refine A_iconst (v := 0) dX7_isDigit_16 (by decide) ?_
      exact A_zret dX7_isDigit_17 rfl ⟨(if_pos (by first | exact Or.inl (by assumption) | exact Or.inr (by assumption))).symm, rfl⟩ ⟨by decide, by decide⟩
    · refine A_iconst (v := 1) dX7_isDigit_12 (by decide) ?_
      refine A_goto 17 dX7_isDigit_13 (by decide) ?_
      exact A_zret dX7_isDigit_17 rfl ⟨(if_neg (fun z => z.elim c3 c9)).symm, rfl⟩ ⟨by decide, by decide⟩

theorem c_stepNumber (G : GX) {b : Nat} {c : CT} {co : Nat → Nat → Option Nat} {r : Nat → Option AE} {n : Nat} {L p : Nat} (hL : c 1 1 = nI L) (hL2 : L ≤ 1600) (hp : c 5 3 = nI p) (hp2 : p ≤ L) : MA G 1 yX7_stepNumber cX7_stepNumber 1 none 0 0 [.ref (b + 5)] (HC b c co r n) (qV fun h1 => h1 = HC b (snA L p c) co r n) := by
  refine MA.of (own := RX7) false [some (.ref (b + 5))] (by decide +kernel) rfl (fun h => by cases h) (Nat.le_of_ble_eq_true rfl) rfl (fun X => ?_)
  obtain ⟨T, hTe⟩ : ∃ T, snA L p c = T := ⟨_, rfl⟩
  rw [hTe]
  have loop : ∀ (k i : Nat) (y : CT), i + k = L → (y 1 1 = nI L) → (y 5 3 = nI i) → (snF k y = T) → WA X G RX7 cX7_stepNumber false none (qV fun h1 => h1 = HC b T co r n) 1 0 0 (HC b y co r n) 0 0 5 [some (.ref (b + 5))] [] := by
    intro k
    induction k with
    | zero =>
      intro i y hk hy1 hyp hT
      refine A_aload_n dX7_stepNumber_5 rfl rfl ?_
      refine A_get dX7_stepNumber_6 f_X7_22 (HC_at (by decide)) rfl ?_
      refine A_aload_n dX7_stepNumber_9 rfl rfl ?_
      refine A_get dX7_stepNumber_10 f_X7_9 (HC_at (by decide)) rfl ?_
      refine A_get dX7_stepNumber_13 f_X7_28 (HC_at (by decide)) rfl ?_
      refine A_icmp_ge 80 dX7_stepNumber_16 (by decide) (fun c16 => ?_) (fun c16 => ?_)
      · exact A_vret dX7_stepNumber_80 (by rw [← hT]; rfl) ⟨by decide, by decide⟩
      · exact absurd (by rw [hy1, hyp]; exact nI_le (by omega) (by omega)) c16
    | succ k ih =>
      intro i y hk hy1 hyp hT
      have hi : i < L := by omega
      refine A_aload_n dX7_stepNumber_5 rfl rfl ?_
      refine A_get dX7_stepNumber_6 f_X7_22 (HC_at (by decide)) rfl ?_
      refine A_aload_n dX7_stepNumber_9 rfl rfl ?_
      refine A_get dX7_stepNumber_10 f_X7_9 (HC_at (by decide)) rfl ?_
      refine A_get dX7_stepNumber_13 f_X7_28 (HC_at (by decide)) rfl ?_
      refine A_icmp_ge 80 dX7_stepNumber_16 (by decide) (fun c16 => ?_) (fun c16 => ?_)
      · exact absurd c16 (by rw [hy1, hyp]; exact nI_ge (by omega) (by omega))
      · refine A_aload_n dX7_stepNumber_19 rfl rfl ?_
        refine A_get dX7_stepNumber_20 f_X7_9 (HC_at (by decide)) rfl ?_
        refine A_aload_n dX7_stepNumber_23 rfl rfl ?_
        refine A_get dX7_stepNumber_24 f_X7_22 (HC_at (by decide)) rfl ?_
        refine A_callVi dX7_stepNumber_27 m_X7_33 cb_X6_at (As := [_]) rfl (HC_at (by decide)) rfl (c_tapeAt G (L := L) hy1 hL2) rfl ⟨by decide, by decide⟩ (Nat.le_of_ble_eq_true rfl) ⟨by decide, by decide⟩ (fun x27 h27 hq => ?_)
        obtain ⟨rfl, rfl⟩ := hq
        refine A_callSi dX7_stepNumber_30 m_X7_44 cb_X7_isDigit (As := [_]) rfl (c_isDigit G) rfl ⟨by decide, by decide⟩ (Nat.le_of_ble_eq_true rfl) ⟨by decide, by decide⟩ (fun x30 h30 hq => ?_)
        obtain ⟨rfl, rfl⟩ := hq
        refine A_if_eq 80 dX7_stepNumber_33 (by decide) (fun c33 => ?_) (fun c33 => ?_)
        · exact A_vret dX7_stepNumber_80 (by rw [← hT, snF, if_pos c33]) ⟨by decide, by decide⟩
        · refine A_aload_n dX7_stepNumber_36 rfl rfl ?_
          refine A_ldc dX7_stepNumber_37 w_428 ?_
          refine A_aload_n dX7_stepNumber_39 rfl rfl ?_
          refine A_get dX7_stepNumber_40 f_X7_25 (HC_at (by decide)) rfl ?_
          refine A_bipush (v := 10) dX7_stepNumber_43 (by decide) ?_
          refine A_imul dX7_stepNumber_45 ?_
          refine A_aload_n dX7_stepNumber_46 rfl rfl ?_
          refine A_get dX7_stepNumber_47 f_X7_9 (HC_at (by decide)) rfl ?_
          refine A_aload_n dX7_stepNumber_50 rfl rfl ?_
          refine A_get dX7_stepNumber_51 f_X7_22 (HC_at (by decide)) rfl ?_
          refine A_callVi dX7_stepNumber_54 m_X7_33 cb_X6_at (As := [_]) rfl (HC_at (by decide)) rfl (c_tapeAt G (L := L) hy1 hL2) rfl ⟨by decide, by decide⟩ (Nat.le_of_ble_eq_true rfl) ⟨by decide, by decide⟩ (fun x54 h54 hq => ?_)
          obtain ⟨rfl, rfl⟩ := hq
          refine A_iadd dX7_stepNumber_57 ?_
          refine A_bipush (v := 48) dX7_stepNumber_58 (by decide) ?_
          refine A_isub dX7_stepNumber_60 ?_
          refine A_min dX7_stepNumber_61 w_429 (by decide) (Nat.le_of_ble_eq_true rfl) ⟨by decide, by decide⟩ ?_
          refine A_putC 4 dX7_stepNumber_64 p_X7_25 (by decide) rfl (Nat.le_of_ble_eq_true rfl) rfl ?_
          refine A_aload_n dX7_stepNumber_67 rfl rfl ?_
          refine A_dup dX7_stepNumber_68 rfl ?_
          refine A_get dX7_stepNumber_69 f_X7_22 (HC_at (by decide)) rfl ?_
          refine A_iconst (v := 1) dX7_stepNumber_72 (by decide) ?_
          refine A_iadd dX7_stepNumber_73 ?_
          refine A_putC 3 dX7_stepNumber_74 p_X7_22 (by decide) rfl (Nat.le_of_ble_eq_true rfl) rfl ?_
          refine A_goto 5 dX7_stepNumber_77 (by decide) ?_
          exact ih (i + 1) (snS y) (by omega) (by rw [snS_1]; exact hy1) (snS_3 hyp) (by rw [← hT, snF, if_neg c33])
  refine A_aload_n dX7_stepNumber_0 rfl rfl ?_
  refine A_iconst (v := 0) dX7_stepNumber_1 (by decide) ?_
  refine A_putC 4 dX7_stepNumber_2 p_X7_25 (by decide) rfl (Nat.le_of_ble_eq_true rfl) rfl ?_
  exact loop (L - p) p _ (by omega) (by rw [put_ne (by decide)]; exact hL) (by rw [put_kj (by decide)]; exact hp) hTe
