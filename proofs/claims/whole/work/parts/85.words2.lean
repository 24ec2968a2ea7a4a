/-! words of a form; the scribe's numbers -/
def weG (j : Nat) : Nat → Nat → Nat
  | 0, i => i
  | k + 1, i => if chJ j i = 32 then i else weG j k (i + 1)
def weF (j a : Nat) : Nat := weG j (lenJ j - a) a
theorem weG_b {j : Nat} : ∀ k i, i ≤ weG j k i ∧ weG j k i ≤ i + k
  | 0, i => ⟨Nat.le_refl _, Nat.le_refl _⟩
  | k + 1, i => by
    have := weG_b (j := j) k (i + 1)
    rw [weG]
    split
    · omega
    · omega
theorem weF_b {j a : Nat} (h : a ≤ lenJ j) : a ≤ weF j a ∧ weF j a ≤ lenJ j := by
  have := weG_b (j := j) (lenJ j - a) a
  unfold weF
  omega
def iwF (c : CT) (j f : Nat) : Nat → Nat → Int32
  | 0, _ => 1
  | k + 1, i => if chJ j i = atF c (c 5 2 + nI i - nI f) then iwF c j f k (i + 1) else 0
def isWF (c : CT) (j f t : Nat) : Int32 := if c 5 1 = 1 then if c 5 3 - c 5 2 = nI t - nI f then iwF c j f (t - f) f else 0 else 0
def rnF (t : Int32) (k : Nat) (c : CT) : Int32 × CT := if ¬ c 5 1 = 2 then (0, failF c 1) else if c 5 4 < leastF c t (nI k) then (0, failF c 2) else if mostF c t (nI k) < c 5 4 then (0, failF c 2) else if t = 5 ∧ nI k = 1 ∧ c 5 4 = c 4 0 then (0, failF c 2) else (1, put c 4 k (c 5 4))
def lwF (c : CT) : Nat → Nat → Int32
  | 0, _ => -1
  | k + 1, i => if isWF c i 0 (weF i 0) = 0 then lwF c k (i + 1) else nI i
theorem formN_i : ∀ i, i < 7 → formN (nI i) = i := by decide +kernel
theorem c_wordEnd (G : GX) {h : AH} {j a : Nat} (hj : j < 31) (ha : a ≤ lenJ j) : MA G 6 yX4_wordEnd cX4_wordEnd 3 (some .int) 0 0 [.ref (gK G j), .int (nI a)] h (qI fun x9 h1 => x9 = nI (weF j a) ∧ h1 = h) := by
  refine MA.of (own := RX4) false [some (.ref (gK G j)), some (.int (nI a)), none] (by decide +kernel) rfl (fun h => by cases h) (Nat.le_of_ble_eq_true rfl) rfl (fun X => ?_)
  have h60 := (lenJ_all j hj).1
  obtain ⟨T, hTe⟩ : ∃ T, weF j a = T := ⟨_, rfl⟩
  rw [hTe]
  have loop : ∀ (k i : Nat) , i + k = lenJ j → (weG j k i = T) → WA X G RX4 cX4_wordEnd false (some .int) (qI fun x9 h1 => x9 = nI T ∧ h1 = h) 6 0 0 (h) 0 0 2 [some (.ref (gK G j)), some (.int (nI a)), some (.int (nI i))] [] := by
    intro k
    induction k with
    | zero =>
      intro i  hk hT
      refine A_iload_n dX4_wordEnd_2 rfl rfl ?_
      refine A_aload_n dX4_wordEnd_3 rfl rfl ?_
      refine A_callLi hj dX4_wordEnd_4 m_X4_77 cb_J0_length_8abf5 rfl (As := []) rfl (l_length G hj) rfl ⟨by decide, by decide⟩ (Nat.le_of_ble_eq_true rfl) ⟨by decide, by decide⟩ (fun x4 h4 hq => ?_)
      obtain ⟨rfl, rfl⟩ := hq
      refine A_icmp_ge 26 dX4_wordEnd_7 (by decide) (fun c7 => ?_) (fun c7 => ?_)
      · refine A_iload_n dX4_wordEnd_26 rfl rfl ?_
        exact A_iret dX4_wordEnd_27 ⟨by rw [← hT]; rfl, rfl⟩ ⟨by decide, by decide⟩
      · exact absurd (nI_le (by omega) (by omega)) c7
    | succ k ih =>
      intro i  hk hT
      have hi : i < lenJ j := by omega
      refine A_iload_n dX4_wordEnd_2 rfl rfl ?_
      refine A_aload_n dX4_wordEnd_3 rfl rfl ?_
      refine A_callLi hj dX4_wordEnd_4 m_X4_77 cb_J0_length_8abf5 rfl (As := []) rfl (l_length G hj) rfl ⟨by decide, by decide⟩ (Nat.le_of_ble_eq_true rfl) ⟨by decide, by decide⟩ (fun x4 h4 hq => ?_)
      obtain ⟨rfl, rfl⟩ := hq
      refine A_icmp_ge 26 dX4_wordEnd_7 (by decide) (fun c7 => ?_) (fun c7 => ?_)
      · exact absurd c7 (nI_ge (by omega) (by omega))
      · refine A_aload_n dX4_wordEnd_10 rfl rfl ?_
        refine A_iload_n dX4_wordEnd_11 rfl rfl ?_
        refine A_callLi hj dX4_wordEnd_12 m_X4_81 cb_J0_charAt_5068e rfl (As := [_]) rfl (l_charAt G hj hi) rfl ⟨by decide, by decide⟩ (Nat.le_of_ble_eq_true rfl) ⟨by decide, by decide⟩ (fun x12 h12 hq => ?_)
        obtain ⟨rfl, rfl⟩ := hq
        refine A_bipush (v := 32) dX4_wordEnd_15 (by decide) ?_
        refine A_icmp_eq 26 dX4_wordEnd_17 (by decide) (fun c17 => ?_) (fun c17 => ?_)
        · refine A_iload_n dX4_wordEnd_26 rfl rfl ?_
          exact A_iret dX4_wordEnd_27 ⟨by rw [← hT, weG, if_pos c17], rfl⟩ ⟨by decide, by decide⟩
        · refine A_inc 1 (lv1 := [_, _, _]) dX4_wordEnd_20 rfl (by decide) rfl rfl ?_
          refine A_goto 2 dX4_wordEnd_23 (by decide) ?_
          rw [nI_1]
          exact ih (i + 1) (by omega) (by rw [← hT, weG, if_neg c17])
  refine A_iload_n dX4_wordEnd_0 rfl rfl ?_
  refine A_istore_n (lv1 := [_, _, _]) dX4_wordEnd_1 rfl (Nat.le_of_ble_eq_true rfl) rfl rfl ?_
  exact loop (lenJ j - a) a (by omega) hTe

theorem isWord_w (G : GX) (X : XC) {b : Nat} {c : CT} {co : Nat → Nat → Option Nat} {r : Nat → Option AE} {n : Nat} {L j f t : Nat} {T : Int32} (hL : c 1 1 = nI L) (hL2 : L ≤ 1600) (hj : j < 31) (hft : f ≤ t) (ht : t ≤ lenJ j) (hTe : iwF c j f (t - f) f = T) : WA X G RX7 cX7_isWord false (some .boolean) (qI fun x9 h1 => x9 = T ∧ h1 = HC b c co r n) 6 0 0 (HC b c co r n) 0 0 28 [some (.ref (b + 5)), some (.ref (gK G j)), some (.int (nI f)), some (.int (nI t)), some (.int (nI f))] [] := by
  have h60 := (lenJ_all j hj).1
  have loop : ∀ (k i : Nat) , i + k = t → (iwF c j f k i = T) → WA X G RX7 cX7_isWord false (some .boolean) (qI fun x9 h1 => x9 = T ∧ h1 = HC b c co r n) 6 0 0 (HC b c co r n) 0 0 28 [some (.ref (b + 5)), some (.ref (gK G j)), some (.int (nI f)), some (.int (nI t)), some (.int (nI i))] [] := by
    intro k
    induction k with
    | zero =>
      intro i  hk hT
      refine A_iload dX7_isWord_28 rfl ?_
      refine A_iload_n dX7_isWord_30 rfl rfl ?_
      refine A_icmp_ge 76 dX7_isWord_31 (by decide) (fun c31 => ?_) (fun c31 => ?_)
      · refine A_iconst (v := 1) dX7_isWord_76 (by decide) ?_
        exact A_zret dX7_isWord_77 rfl ⟨by rw [← hT]; rfl, rfl⟩ ⟨by decide, by decide⟩
      · exact absurd (nI_le (by omega) (by omega)) c31
    | succ k ih =>
      intro i  hk hT
      have hi : i < t := by omega
      refine A_iload dX7_isWord_28 rfl ?_
      refine A_iload_n dX7_isWord_30 rfl rfl ?_
      refine A_icmp_ge 76 dX7_isWord_31 (by decide) (fun c31 => ?_) (fun c31 => ?_)
      · exact absurd c31 (nI_ge (by omega) (by omega))
      · refine A_iload dX7_isWord_34 rfl ?_
        refine A_aload_n dX7_isWord_36 rfl rfl ?_
        refine A_callLi hj dX7_isWord_37 m_X7_57 cb_J0_length_8abf5 rfl (As := []) rfl (l_length G hj) rfl ⟨by decide, by decide⟩ (Nat.le_of_ble_eq_true rfl) ⟨by decide, by decide⟩ (fun x37 h37 hq => ?_)
        obtain ⟨rfl, rfl⟩ := hq
        refine A_icmp_ge 76 dX7_isWord_40 (by decide) (fun c40 => ?_) (fun c40 => ?_)
        · exact absurd c40 (nI_ge (by omega) (by omega))
        · refine A_aload_n dX7_isWord_43 rfl rfl ?_
          refine A_iload dX7_isWord_44 rfl ?_
          refine A_callLi hj dX7_isWord_46 m_X7_62 cb_J0_charAt_5068e rfl (As := [_]) rfl (l_charAt G hj (by omega)) rfl ⟨by decide, by decide⟩ (Nat.le_of_ble_eq_true rfl) ⟨by decide, by decide⟩ (fun x46 h46 hq => ?_)
          obtain ⟨rfl, rfl⟩ := hq
          refine A_aload_n dX7_isWord_49 rfl rfl ?_
          refine A_get dX7_isWord_50 f_X7_9 (HC_at (by decide)) rfl ?_
          refine A_aload_n dX7_isWord_53 rfl rfl ?_
          refine A_get dX7_isWord_54 f_X7_19 (HC_at (by decide)) rfl ?_
          refine A_iload dX7_isWord_57 rfl ?_
          refine A_iadd dX7_isWord_59 ?_
          refine A_iload_n dX7_isWord_60 rfl rfl ?_
          refine A_isub dX7_isWord_61 ?_
          refine A_callVi dX7_isWord_62 m_X7_33 cb_X6_at (As := [_]) rfl (HC_at (by decide)) rfl (c_tapeAt G (L := L) hL hL2) rfl ⟨by decide, by decide⟩ (Nat.le_of_ble_eq_true rfl) ⟨by decide, by decide⟩ (fun x62 h62 hq => ?_)
          obtain ⟨rfl, rfl⟩ := hq
          refine A_icmp_eq 70 dX7_isWord_65 (by decide) (fun c65 => ?_) (fun c65 => ?_)
          · refine A_inc 1 (lv1 := [_, _, _, _, _]) dX7_isWord_70 rfl (by decide) rfl rfl ?_
            refine A_goto 28 dX7_isWord_73 (by decide) ?_
            rw [nI_1]
            exact ih (i + 1) (by omega) (by rw [← hT, iwF, if_pos c65])
          · refine A_iconst (v := 0) dX7_isWord_68 (by decide) ?_
            exact A_zret dX7_isWord_69 rfl ⟨by rw [← hT, iwF, if_neg c65], rfl⟩ ⟨by decide, by decide⟩
  exact loop (t - f) f (by omega) hTe
theorem c_isWord (G : GX) {b : Nat} {c : CT} {co : Nat → Nat → Option Nat} {r : Nat → Option AE} {n : Nat} {L j f t : Nat} (hL : c 1 1 = nI L) (hL2 : L ≤ 1600) (hj : j < 31) (hft : f ≤ t) (ht : t ≤ lenJ j) : MA G 6 yX7_isWord cX7_isWord 5 (some .boolean) 0 0 [.ref (b + 5), .ref (gK G j), .int (nI f), .int (nI t)] (HC b c co r n) (qI fun x9 h1 => x9 = isWF c j f t ∧ h1 = HC b c co r n) := by
  refine MA.of (own := RX7) false [some (.ref (b + 5)), some (.ref (gK G j)), some (.int (nI f)), some (.int (nI t)), none] (by decide +kernel) rfl (fun h => by cases h) (Nat.le_of_ble_eq_true rfl) rfl (fun X => ?_)
  refine A_aload_n dX7_isWord_0 rfl rfl ?_
  refine A_get dX7_isWord_1 f_X7_15 (HC_at (by decide)) rfl ?_
  refine A_iconst (v := 1) dX7_isWord_4 (by decide) ?_
  refine A_icmp_ne 23 dX7_isWord_5 (by decide) (fun c5 => ?_) (fun c5 => ?_)
  · refine A_iconst (v := 0) dX7_isWord_23 (by decide) ?_
    exact A_zret dX7_isWord_24 rfl ⟨by rw [isWF, if_neg c5], rfl⟩ ⟨by decide, by decide⟩
  · refine A_aload_n dX7_isWord_8 rfl rfl ?_
    refine A_get dX7_isWord_9 f_X7_22 (HC_at (by decide)) rfl ?_
    refine A_aload_n dX7_isWord_12 rfl rfl ?_
    refine A_get dX7_isWord_13 f_X7_19 (HC_at (by decide)) rfl ?_
    refine A_isub dX7_isWord_16 ?_
    refine A_iload_n dX7_isWord_17 rfl rfl ?_
    refine A_iload_n dX7_isWord_18 rfl rfl ?_
    refine A_isub dX7_isWord_19 ?_
    refine A_icmp_eq 25 dX7_isWord_20 (by decide) (fun c20 => ?_) (fun c20 => ?_)
    · refine A_iload_n dX7_isWord_25 rfl rfl ?_
      refine A_istore (lv1 := [_, _, _, _, _]) dX7_isWord_26 (Nat.le_of_ble_eq_true rfl) rfl rfl ?_
      rw [isWF, if_pos c5, if_pos c20]
      exact isWord_w G X hL hL2 hj hft ht rfl
    · refine A_iconst (v := 0) dX7_isWord_23 (by decide) ?_
      exact A_zret dX7_isWord_24 rfl ⟨by rw [isWF, if_pos c5, if_neg c20], rfl⟩ ⟨by decide, by decide⟩

theorem c_readsNumber (G : GX) {b : Nat} {c : CT} {co : Nat → Nat → Option Nat} {r : Nat → Option AE} {n : Nat} {t : Int32} {k : Nat} (hk : k < 5) : MA G 1 yX4_readsNumber cX4_readsNumber 5 (some .boolean) 0 0 [.ref (b + 3), .ref (b + 16), .int t, .int (nI k)] (HC b c co r n) (qI fun x9 h1 => x9 = (rnF t k c).1 ∧ h1 = HC b (rnF t k c).2 co r n) := by
  refine MA.of (own := RX4) false [some (.ref (b + 3)), some (.ref (b + 16)), some (.int t), some (.int (nI k)), none] (by decide +kernel) rfl (fun h => by cases h) (Nat.le_of_ble_eq_true rfl) rfl (fun X => ?_)
  refine A_aload_n dX4_readsNumber_0 rfl rfl ?_
  refine A_get dX4_readsNumber_1 f_X4_24 (HC_at (by decide)) rfl ?_
  refine A_get dX4_readsNumber_4 f_X4_51 (HC_at (by decide)) rfl ?_
  refine A_iconst (v := 2) dX4_readsNumber_7 (by decide) ?_
  refine A_icmp_ne 20 dX4_readsNumber_8 (by decide) (fun c8 => ?_) (fun c8 => ?_)
  · refine A_aload_n dX4_readsNumber_20 rfl rfl ?_
    refine A_iconst (v := 1) dX4_readsNumber_21 (by decide) ?_
    refine A_callVi dX4_readsNumber_22 m_X4_65 cb_X4_fails (As := [_]) rfl (HC_at (by decide)) rfl (c_fails G) rfl ⟨by decide, by decide⟩ (Nat.le_of_ble_eq_true rfl) ⟨by decide, by decide⟩ (fun x22 h22 hq => ?_)
    obtain ⟨rfl, rfl⟩ := hq
    exact A_zret dX4_readsNumber_25 rfl ⟨by rw [rnF, if_pos c8], by rw [rnF, if_pos c8]⟩ ⟨by decide, by decide⟩
  · refine A_iload_n dX4_readsNumber_11 rfl rfl ?_
    refine A_if_lt 20 dX4_readsNumber_12 (by decide) (fun c12 => ?_) (fun c12 => ?_)
    · exact absurd c12 (nI_pos (by omega))
    · refine A_iload_n dX4_readsNumber_15 rfl rfl ?_
      refine A_iconst (v := 5) dX4_readsNumber_16 (by decide) ?_
      refine A_icmp_lt 26 dX4_readsNumber_17 (by decide) (fun c17 => ?_) (fun c17 => ?_)
      · refine A_aload_n dX4_readsNumber_26 rfl rfl ?_
        refine A_get dX4_readsNumber_27 f_X4_24 (HC_at (by decide)) rfl ?_
        refine A_get dX4_readsNumber_30 f_X4_105 (HC_at (by decide)) rfl ?_
        refine A_istore (lv1 := [_, _, _, _, _]) dX4_readsNumber_33 (Nat.le_of_ble_eq_true rfl) rfl rfl ?_
        refine A_iload dX4_readsNumber_35 rfl ?_
        refine A_aload_n dX4_readsNumber_37 rfl rfl ?_
        refine A_iload_n dX4_readsNumber_38 rfl rfl ?_
        refine A_iload_n dX4_readsNumber_39 rfl rfl ?_
        refine A_callVi dX4_readsNumber_40 m_X4_108 cb_X4_least (As := [_, _]) rfl (HC_at (by decide)) rfl (c_least G) rfl ⟨by decide, by decide⟩ (Nat.le_of_ble_eq_true rfl) ⟨by decide, by decide⟩ (fun x40 h40 hq => ?_)
        obtain ⟨rfl, rfl⟩ := hq
        refine A_icmp_lt 58 dX4_readsNumber_43 (by decide) (fun c43 => ?_) (fun c43 => ?_)
        · refine A_aload_n dX4_readsNumber_58 rfl rfl ?_
          refine A_iconst (v := 2) dX4_readsNumber_59 (by decide) ?_
          refine A_callVi dX4_readsNumber_60 m_X4_65 cb_X4_fails (As := [_]) rfl (HC_at (by decide)) rfl (c_fails G) rfl ⟨by decide, by decide⟩ (Nat.le_of_ble_eq_true rfl) ⟨by decide, by decide⟩ (fun x60 h60 hq => ?_)
          obtain ⟨rfl, rfl⟩ := hq
          exact A_zret dX4_readsNumber_63 rfl ⟨by rw [rnF, if_neg (fun z => z c8), if_pos c43], by rw [rnF, if_neg (fun z => z c8), if_pos c43]⟩ ⟨by decide, by decide⟩
        · refine A_iload dX4_readsNumber_46 rfl ?_
          refine A_aload_n dX4_readsNumber_48 rfl rfl ?_
          refine A_aload_n dX4_readsNumber_49 rfl rfl ?_
          refine A_iload_n dX4_readsNumber_50 rfl rfl ?_
          refine A_iload_n dX4_readsNumber_51 rfl rfl ?_
          refine A_callVi dX4_readsNumber_52 m_X4_112 cb_X4_most (As := [_, _, _]) rfl (HC_at (by decide)) rfl (c_most G) rfl ⟨by decide, by decide⟩ (Nat.le_of_ble_eq_true rfl) ⟨by decide, by decide⟩ (fun x52 h52 hq => ?_)
          obtain ⟨rfl, rfl⟩ := hq
          refine A_icmp_le 64 dX4_readsNumber_55 (by decide) (fun c55 => ?_) (fun c55 => ?_)
          · refine A_iload_n dX4_readsNumber_64 rfl rfl ?_
            refine A_iconst (v := 5) dX4_readsNumber_65 (by decide) ?_
            refine A_icmp_ne 91 dX4_readsNumber_66 (by decide) (fun c66 => ?_) (fun c66 => ?_)
            · refine A_aload_n dX4_readsNumber_91 rfl rfl ?_
              refine A_get dX4_readsNumber_92 f_X4_11 (HC_at (by decide)) rfl ?_
              refine A_iload_n dX4_readsNumber_95 rfl rfl ?_
              refine A_iload dX4_readsNumber_96 rfl ?_
              refine A_iastCN dX4_readsNumber_98 (by decide) (fun _ => rfl) (by omega) (by decide) ?_
              refine A_iconst (v := 1) dX4_readsNumber_99 (by decide) ?_
              exact A_zret dX4_readsNumber_100 rfl ⟨by rw [rnF, if_neg (fun z => z c8), if_neg c43, if_neg (Int32.not_lt.mpr c55), if_neg (fun z => c66 z.1)], by rw [rnF, if_neg (fun z => z c8), if_neg c43, if_neg (Int32.not_lt.mpr c55), if_neg (fun z => c66 z.1)]⟩ ⟨by decide, by decide⟩
            · refine A_iload_n dX4_readsNumber_69 rfl rfl ?_
              refine A_iconst (v := 1) dX4_readsNumber_70 (by decide) ?_
              refine A_icmp_ne 91 dX4_readsNumber_71 (by decide) (fun c71 => ?_) (fun c71 => ?_)
              · refine A_aload_n dX4_readsNumber_91 rfl rfl ?_
                refine A_get dX4_readsNumber_92 f_X4_11 (HC_at (by decide)) rfl ?_
                refine A_iload_n dX4_readsNumber_95 rfl rfl ?_
                refine A_iload dX4_readsNumber_96 rfl ?_
                refine A_iastCN dX4_readsNumber_98 (by decide) (fun _ => rfl) (by omega) (by decide) ?_
                refine A_iconst (v := 1) dX4_readsNumber_99 (by decide) ?_
                exact A_zret dX4_readsNumber_100 rfl ⟨by rw [rnF, if_neg (fun z => z c8), if_neg c43, if_neg (Int32.not_lt.mpr c55), if_neg (fun z => c71 z.2.1)], by rw [rnF, if_neg (fun z => z c8), if_neg c43, if_neg (Int32.not_lt.mpr c55), if_neg (fun z => c71 z.2.1)]⟩ ⟨by decide, by decide⟩
              · refine A_iload dX4_readsNumber_74 rfl ?_
                refine A_aload_n dX4_readsNumber_76 rfl rfl ?_
                refine A_get dX4_readsNumber_77 f_X4_11 (HC_at (by decide)) rfl ?_
                refine A_iconst (v := 0) dX4_readsNumber_80 (by decide) ?_
                refine A_iald dX4_readsNumber_81 (HC_at (by decide)) (show vp_in (nI 0) 5 from vp_in_nI (by decide) (by decide)) ?_
                refine A_eqI (y := c 4 0) rfl ?_
                refine A_icmp_ne 91 dX4_readsNumber_82 (by decide) (fun c82 => ?_) (fun c82 => ?_)
                · refine A_aload_n dX4_readsNumber_91 rfl rfl ?_
                  refine A_get dX4_readsNumber_92 f_X4_11 (HC_at (by decide)) rfl ?_
                  refine A_iload_n dX4_readsNumber_95 rfl rfl ?_
                  refine A_iload dX4_readsNumber_96 rfl ?_
                  refine A_iastCN dX4_readsNumber_98 (by decide) (fun _ => rfl) (by omega) (by decide) ?_
                  refine A_iconst (v := 1) dX4_readsNumber_99 (by decide) ?_
                  exact A_zret dX4_readsNumber_100 rfl ⟨by rw [rnF, if_neg (fun z => z c8), if_neg c43, if_neg (Int32.not_lt.mpr c55), if_neg (fun z => c82 z.2.2)], by rw [rnF, if_neg (fun z => z c8), if_neg c43, if_neg (Int32.not_lt.mpr c55), if_neg (fun z => c82 z.2.2)]⟩ ⟨by decide, by decide⟩
                · refine A_aload_n dX4_readsNumber_85 rfl rfl ?_
                  refine A_iconst (v := 2) dX4_readsNumber_86 (by decide) ?_
                  refine A_callVi dX4_readsNumber_87 m_X4_65 cb_X4_fails (As := [_]) rfl (HC_at (by decide)) rfl (c_fails G) rfl ⟨by decide, by decide⟩ (Nat.le_of_ble_eq_true rfl) ⟨by decide, by decide⟩ (fun x87 h87 hq => ?_)
                  obtain ⟨rfl, rfl⟩ := hq
                  exact A_zret dX4_readsNumber_90 rfl ⟨by rw [rnF, if_neg (fun z => z c8), if_neg c43, if_neg (Int32.not_lt.mpr c55), if_pos ⟨c66, c71, c82⟩], by rw [rnF, if_neg (fun z => z c8), if_neg c43, if_neg (Int32.not_lt.mpr c55), if_pos ⟨c66, c71, c82⟩]⟩ ⟨by decide, by decide⟩
          · refine A_aload_n dX4_readsNumber_58 rfl rfl ?_
            refine A_iconst (v := 2) dX4_readsNumber_59 (by decide) ?_
            refine A_callVi dX4_readsNumber_60 m_X4_65 cb_X4_fails (As := [_]) rfl (HC_at (by decide)) rfl (c_fails G) rfl ⟨by decide, by decide⟩ (Nat.le_of_ble_eq_true rfl) ⟨by decide, by decide⟩ (fun x60 h60 hq => ?_)
            obtain ⟨rfl, rfl⟩ := hq
            exact A_zret dX4_readsNumber_63 rfl ⟨by rw [rnF, if_neg (fun z => z c8), if_neg c43, if_pos (Int32.not_le.mp c55)], by rw [rnF, if_neg (fun z => z c8), if_neg c43, if_pos (Int32.not_le.mp c55)]⟩ ⟨by decide, by decide⟩
      · exact absurd (nI_lt hk (by decide)) c17

def rwF (j f : Nat) (c : CT) : Int32 × CT := if isWF c j f (weF j f) = 0 then (0, failF c 1) else (1, c)
theorem c_readsWord (G : GX) {b : Nat} {c : CT} {co : Nat → Nat → Option Nat} {r : Nat → Option AE} {n : Nat} {L j f : Nat} (hL : c 1 1 = nI L) (hL2 : L ≤ 1600) (hj : j < 31) (hf : f ≤ lenJ j) : MA G 7 yX4_readsWord cX4_readsWord 3 (some .boolean) 0 0 [.ref (b + 3), .ref (gK G j), .int (nI f)] (HC b c co r n) (qI fun x9 h1 => x9 = (rwF j f c).1 ∧ h1 = HC b (rwF j f c).2 co r n) := by
  refine MA.of (own := RX4) false [some (.ref (b + 3)), some (.ref (gK G j)), some (.int (nI f))] (by decide +kernel) rfl (fun h => by cases h) (Nat.le_of_ble_eq_true rfl) rfl (fun X => ?_)
  have h60 := (lenJ_all j hj).1
  have hw := weF_b (j := j) hf
  refine A_aload_n dX4_readsWord_0 rfl rfl ?_
  refine A_get dX4_readsWord_1 f_X4_24 (HC_at (by decide)) rfl ?_
  refine A_aload_n dX4_readsWord_4 rfl rfl ?_
  refine A_iload_n dX4_readsWord_5 rfl rfl ?_
  refine A_aload_n dX4_readsWord_6 rfl rfl ?_
  refine A_iload_n dX4_readsWord_7 rfl rfl ?_
  refine A_callSi dX4_readsWord_8 m_X4_97 cb_X4_wordEnd (As := [_, _]) rfl (c_wordEnd G (a := f) hj hf) rfl ⟨by decide, by decide⟩ (Nat.le_of_ble_eq_true rfl) ⟨by decide, by decide⟩ (fun x8 h8 hq => ?_)
  obtain ⟨rfl, rfl⟩ := hq
  refine A_callVi dX4_readsWord_11 m_X4_101 cb_X7_isWord (As := [_, _, _]) rfl (HC_at (by decide)) rfl (c_isWord G (f := f) hL hL2 hj hw.1 hw.2) rfl ⟨by decide, by decide⟩ (Nat.le_of_ble_eq_true rfl) ⟨by decide, by decide⟩ (fun x11 h11 hq => ?_)
  obtain ⟨rfl, rfl⟩ := hq
  refine A_if_ne 25 dX4_readsWord_14 (by decide) (fun c14 => ?_) (fun c14 => ?_)
  · refine A_iconst (v := 1) dX4_readsWord_25 (by decide) ?_
    refine A_goto 30 dX4_readsWord_26 (by decide) ?_
    exact A_zret dX4_readsWord_30 rfl ⟨by rw [rwF, if_neg c14], by rw [rwF, if_neg c14]⟩ ⟨by decide, by decide⟩
  · refine A_aload_n dX4_readsWord_17 rfl rfl ?_
    refine A_iconst (v := 1) dX4_readsWord_18 (by decide) ?_
    refine A_callVi dX4_readsWord_19 m_X4_65 cb_X4_fails (As := [_]) rfl (HC_at (by decide)) rfl (c_fails G) rfl ⟨by decide, by decide⟩ (Nat.le_of_ble_eq_true rfl) ⟨by decide, by decide⟩ (fun x19 h19 hq => ?_)
    obtain ⟨rfl, rfl⟩ := hq
    refine A_if_eq 29 dX4_readsWord_22 (by decide) (fun c22 => ?_) (fun c22 => ?_)
    · refine A_iconst (v := 0) dX4_readsWord_29 (by decide) ?_
      exact A_zret dX4_readsWord_30 rfl ⟨by rw [rwF, if_pos c14], by rw [rwF, if_pos c14]⟩ ⟨by decide, by decide⟩
    · exact absurd rfl c22

theorem A_eqR {X : XC} {G : GX} {own : String} {cc : ByteArray} {ini : Bool} {ret : Option FieldType} {Qp : Option Value → AH → Prop} {d mc ms : Nat} {h : AH} {uc us pc : Nat} {lv : List (Option Value)} {st : List Value} {x y : Nat} (e : x = y) (k : WA X G own cc ini ret Qp d mc ms h uc us pc lv (.ref y :: st)) : WA X G own cc ini ret Qp d mc ms h uc us pc lv (.ref x :: st) := e ▸ k
theorem c_lineOfWord (G : GX) {b : Nat} {c : CT} {co : Nat → Nat → Option Nat} {r : Nat → Option AE} {n : Nat} {L : Nat} (hL : c 1 1 = nI L) (hL2 : L ≤ 1600) : MA G 7 yX4_lineOfWord cX4_lineOfWord 3 (some .int) 0 0 [.ref (b + 3)] (HC b c co r n) (qI fun x9 h1 => x9 = lwF c 7 0 ∧ h1 = HC b c co r n) := by
  refine MA.of (own := RX4) false [some (.ref (b + 3)), none, none] (by decide +kernel) rfl (fun h => by cases h) (Nat.le_of_ble_eq_true rfl) rfl (fun X => ?_)
  obtain ⟨T, hTe⟩ : ∃ T, lwF c 7 0 = T := ⟨_, rfl⟩
  rw [hTe]
  have loop : ∀ (k i : Nat) , i + k = 7 → (lwF c k i = T) → WA X G RX4 cX4_lineOfWord false (some .int) (qI fun x9 h1 => x9 = T ∧ h1 = HC b c co r n) 7 0 0 (HC b c co r n) 0 0 2 [some (.ref (b + 3)), some (.int (nI i)), none] [] := by
    intro k
    induction k with
    | zero =>
      intro i  hk hT
      refine A_iload_n dX4_lineOfWord_2 rfl rfl ?_
      refine A_bipush (v := 7) dX4_lineOfWord_3 (by decide) ?_
      refine A_icmp_ge 38 dX4_lineOfWord_5 (by decide) (fun c5 => ?_) (fun c5 => ?_)
      · refine A_iconst (v := (-1)) dX4_lineOfWord_38 (by decide) ?_
        exact A_iret dX4_lineOfWord_39 ⟨by rw [← hT]; rfl, rfl⟩ ⟨by decide, by decide⟩
      · exact absurd (nI_le (a := 7) (by omega) (by omega)) c5
    | succ k ih =>
      intro i  hk hT
      have hi : i < 7 := by omega
      refine A_iload_n dX4_lineOfWord_2 rfl rfl ?_
      refine A_bipush (v := 7) dX4_lineOfWord_3 (by decide) ?_
      refine A_icmp_ge 38 dX4_lineOfWord_5 (by decide) (fun c5 => ?_) (fun c5 => ?_)
      · exact absurd c5 (nI_ge (b := 7) (by omega) (by decide))
      · refine A_iload_n dX4_lineOfWord_8 rfl rfl ?_
        refine A_callSr dX4_lineOfWord_9 m_X4_73 cb_X4_formOf (As := [_]) rfl (c_formOf G) rfl ⟨by decide, by decide⟩ (Nat.le_of_ble_eq_true rfl) ⟨by decide, by decide⟩ (fun x9 h9 hq => ?_)
        obtain ⟨rfl, rfl⟩ := hq
        have hj : i < 31 := by omega
        have h60 := (lenJ_all i hj).1
        have hw := weF_b (j := i) (Nat.zero_le _)
        refine A_eqR (y := gK G i) (by rw [formN_i i (by omega)]) ?_
        refine A_astore_n (lv1 := [_, _, _]) dX4_lineOfWord_12 rfl (Nat.le_of_ble_eq_true rfl) rfl rfl ?_
        refine A_aload_n dX4_lineOfWord_13 rfl rfl ?_
        refine A_get dX4_lineOfWord_14 f_X4_24 (HC_at (by decide)) rfl ?_
        refine A_aload_n dX4_lineOfWord_17 rfl rfl ?_
        refine A_iconst (v := 0) dX4_lineOfWord_18 (by decide) ?_
        refine A_aload_n dX4_lineOfWord_19 rfl rfl ?_
        refine A_iconst (v := 0) dX4_lineOfWord_20 (by decide) ?_
        refine A_callSi dX4_lineOfWord_21 m_X4_97 cb_X4_wordEnd (As := [_, _]) rfl (c_wordEnd G (a := 0) hj (Nat.zero_le _)) rfl ⟨by decide, by decide⟩ (Nat.le_of_ble_eq_true rfl) ⟨by decide, by decide⟩ (fun x21 h21 hq => ?_)
        obtain ⟨rfl, rfl⟩ := hq
        refine A_callVi dX4_lineOfWord_24 m_X4_101 cb_X7_isWord (As := [_, _, _]) rfl (HC_at (by decide)) rfl (c_isWord G (f := 0) hL hL2 hj hw.1 hw.2) rfl ⟨by decide, by decide⟩ (Nat.le_of_ble_eq_true rfl) ⟨by decide, by decide⟩ (fun x24 h24 hq => ?_)
        obtain ⟨rfl, rfl⟩ := hq
        refine A_if_eq 32 dX4_lineOfWord_27 (by decide) (fun c27 => ?_) (fun c27 => ?_)
        · refine A_inc 1 (lv1 := [_, _, _]) dX4_lineOfWord_32 rfl (by decide) rfl rfl ?_
          refine A_goto 2 dX4_lineOfWord_35 (by decide) ?_
          refine A_fg 2 (lv1 := [_, _, _]) rfl ?_
          rw [nI_1]
          exact ih (i + 1) (by omega) (by rw [← hT, lwF, if_pos c27])
        · refine A_iload_n dX4_lineOfWord_30 rfl rfl ?_
          exact A_iret dX4_lineOfWord_31 ⟨by rw [← hT, lwF, if_neg c27], rfl⟩ ⟨by decide, by decide⟩
  refine A_iconst (v := 0) dX4_lineOfWord_0 (by decide) ?_
  refine A_istore_n (lv1 := [_, _, _]) dX4_lineOfWord_1 rfl (Nat.le_of_ble_eq_true rfl) rfl rfl ?_
  exact loop 7 0 (by omega) hTe
