/-! the next TOKEN -/
def skF : Nat → CT → CT
  | 0, c => c
  | k + 1, c => if blF (atF c (c 5 2)) = 0 then c else skF k (put c 5 2 (c 5 2 + 1))
def wdF : Nat → CT → CT
  | 0, c => c
  | k + 1, c => if letF (atF c (c 5 3)) = 0 then c else wdF k (put c 5 3 (c 5 3 + 1))
def s3F (L : Nat) (z : CT) : CT := if atF z (z 5 2) = -1 then put z 5 1 0 else if letF (atF z (z 5 2)) = 0 then if digF (atF z (z 5 2)) = 0 then put (put z 5 1 (if atF z (z 5 2) = 59 then 3 else 4)) 5 3 (z 5 3 + 1) else snA L (tcl (z 5 2)) (put z 5 1 2) else wdF (L - tcl (z 5 2)) (put z 5 1 1)
def s2F (L : Nat) (y : CT) : CT := s3F L (put y 5 3 (y 5 2))
def stepF (L p : Nat) (c : CT) : CT := s2F L (skF (L - p) (put c 5 2 (c 5 3)))
theorem step_w1 (G : GX) (X : XC) {b : Nat} {c : CT} {co : Nat → Nat → Option Nat} {r : Nat → Option AE} {n : Nat} {L q : Nat} {T : CT} (hL : c 1 1 = nI L) (hL2 : L ≤ 1600) (hp : c 5 3 = nI q) (hp2 : q ≤ L) (hT : wdF (L - q) c = T) : WA X G RX7 cX7_step false none (qV fun h1 => h1 = HC b T co r n) 2 0 0 (HC b c co r n) 0 0 97 [some (.ref (b + 5)), none] [] := by
  have loop : ∀ (k i : Nat) (y : CT), i + k = L → (y 1 1 = nI L) → (y 5 3 = nI i) → (wdF k y = T) → WA X G RX7 cX7_step false none (qV fun h1 => h1 = HC b T co r n) 2 0 0 (HC b y co r n) 0 0 97 [some (.ref (b + 5)), none] [] := by
    intro k
    induction k with
    | zero =>
      intro i y hk hy1 hyp hT
      refine A_aload_n dX7_step_97 rfl rfl ?_
      refine A_get dX7_step_98 f_X7_22 (HC_at (by decide)) rfl ?_
      refine A_aload_n dX7_step_101 rfl rfl ?_
      refine A_get dX7_step_102 f_X7_9 (HC_at (by decide)) rfl ?_
      refine A_get dX7_step_105 f_X7_28 (HC_at (by decide)) rfl ?_
      refine A_icmp_ge 185 dX7_step_108 (by decide) (fun c108 => ?_) (fun c108 => ?_)
      · exact A_vret dX7_step_185 (by rw [← hT]; rfl) ⟨by decide, by decide⟩
      · exact absurd (by rw [hy1, hyp]; exact nI_le (by omega) (by omega)) c108
    | succ k ih =>
      intro i y hk hy1 hyp hT
      have hi : i < L := by omega
      refine A_aload_n dX7_step_97 rfl rfl ?_
      refine A_get dX7_step_98 f_X7_22 (HC_at (by decide)) rfl ?_
      refine A_aload_n dX7_step_101 rfl rfl ?_
      refine A_get dX7_step_102 f_X7_9 (HC_at (by decide)) rfl ?_
      refine A_get dX7_step_105 f_X7_28 (HC_at (by decide)) rfl ?_
      refine A_icmp_ge 185 dX7_step_108 (by decide) (fun c108 => ?_) (fun c108 => ?_)
      · exact absurd c108 (by rw [hy1, hyp]; exact nI_ge (by omega) (by omega))
      · refine A_aload_n dX7_step_111 rfl rfl ?_
        refine A_get dX7_step_112 f_X7_9 (HC_at (by decide)) rfl ?_
        refine A_aload_n dX7_step_115 rfl rfl ?_
        refine A_get dX7_step_116 f_X7_22 (HC_at (by decide)) rfl ?_
        refine A_callVi dX7_step_119 m_X7_33 cb_X6_at (As := [_]) rfl (HC_at (by decide)) rfl (c_tapeAt G (L := L) hy1 hL2) rfl ⟨by decide, by decide⟩ (Nat.le_of_ble_eq_true rfl) ⟨by decide, by decide⟩ (fun x119 h119 hq => ?_)
        obtain ⟨rfl, rfl⟩ := hq
        refine A_callSi dX7_step_122 m_X7_41 cb_X7_isLetter (As := [_]) rfl (c_isLetter G) rfl ⟨by decide, by decide⟩ (Nat.le_of_ble_eq_true rfl) ⟨by decide, by decide⟩ (fun x122 h122 hq => ?_)
        obtain ⟨rfl, rfl⟩ := hq
        refine A_if_eq 185 dX7_step_125 (by decide) (fun c125 => ?_) (fun c125 => ?_)
        · exact A_vret dX7_step_185 (by rw [← hT, wdF, if_pos c125]) ⟨by decide, by decide⟩
        · refine A_aload_n dX7_step_128 rfl rfl ?_
          refine A_dup dX7_step_129 rfl ?_
          refine A_get dX7_step_130 f_X7_22 (HC_at (by decide)) rfl ?_
          refine A_iconst (v := 1) dX7_step_133 (by decide) ?_
          refine A_iadd dX7_step_134 ?_
          refine A_putC 3 dX7_step_135 p_X7_22 (by decide) rfl (Nat.le_of_ble_eq_true rfl) rfl ?_
          refine A_goto 97 dX7_step_138 (by decide) ?_
          exact ih (i + 1) (put y 5 3 (y 5 3 + 1)) (by omega) (by rw [put_ne (by decide)]; exact hy1) (by rw [put_kk, hyp]; exact nI_1 i) (by rw [← hT, wdF, if_neg c125])
  exact loop (L - q) q c (by omega) hL hp hT
theorem step_w2 (G : GX) (X : XC) {b : Nat} {c : CT} {co : Nat → Nat → Option Nat} {r : Nat → Option AE} {n : Nat} {L q : Nat} {T : CT} (hL : c 1 1 = nI L) (hL2 : L ≤ 1600) (hp : c 5 2 = nI q) (hp2 : q ≤ L) (hT : s2F L c = T) : WA X G RX7 cX7_step false none (qV fun h1 => h1 = HC b T co r n) 2 0 0 (HC b c co r n) 0 0 52 [some (.ref (b + 5)), none] [] := by
  refine A_aload_n dX7_step_52 rfl rfl ?_
  refine A_aload_n dX7_step_53 rfl rfl ?_
  refine A_get dX7_step_54 f_X7_19 (HC_at (by decide)) rfl ?_
  refine A_putC 3 dX7_step_57 p_X7_22 (by decide) rfl (Nat.le_of_ble_eq_true rfl) rfl ?_
  obtain ⟨z, ez⟩ : ∃ z, put c 5 3 (c 5 2) = z := ⟨_, rfl⟩
  have hz1 : z 1 1 = nI L := by rw [← ez, put_ne (by decide)]; exact hL
  have hz2 : z 5 2 = nI q := by rw [← ez, put_kj (by decide)]; exact hp
  have hz3 : z 5 3 = nI q := by rw [← ez, put_kk]; exact hp
  have eq : tcl (z 5 2) = q := by rw [hz2]; exact tcl_nI (by omega)
  have hT : s3F L z = T := by rw [← ez]; exact hT
  rw [ez]
  refine A_aload_n dX7_step_60 rfl rfl ?_
  refine A_get dX7_step_61 f_X7_9 (HC_at (by decide)) rfl ?_
  refine A_aload_n dX7_step_64 rfl rfl ?_
  refine A_get dX7_step_65 f_X7_19 (HC_at (by decide)) rfl ?_
  refine A_callVi dX7_step_68 m_X7_33 cb_X6_at (As := [_]) rfl (HC_at (by decide)) rfl (c_tapeAt G (L := L) hz1 hL2) rfl ⟨by decide, by decide⟩ (Nat.le_of_ble_eq_true rfl) ⟨by decide, by decide⟩ (fun x68 h68 hq => ?_)
  obtain ⟨rfl, rfl⟩ := hq
  refine A_istore_n (lv1 := [_, _]) dX7_step_71 rfl (Nat.le_of_ble_eq_true rfl) rfl rfl ?_
  refine A_iload_n dX7_step_72 rfl rfl ?_
  refine A_iconst (v := (-1)) dX7_step_73 (by decide) ?_
  refine A_icmp_ne 85 dX7_step_74 (by decide) (fun c74 => ?_) (fun c74 => ?_)
  · refine A_iload_n dX7_step_85 rfl rfl ?_
    refine A_callSi dX7_step_86 m_X7_41 cb_X7_isLetter (As := [_]) rfl (c_isLetter G) rfl ⟨by decide, by decide⟩ (Nat.le_of_ble_eq_true rfl) ⟨by decide, by decide⟩ (fun x86 h86 hq => ?_)
    obtain ⟨rfl, rfl⟩ := hq
    refine A_if_eq 141 dX7_step_89 (by decide) (fun c89 => ?_) (fun c89 => ?_)
    · refine A_iload_n dX7_step_141 rfl rfl ?_
      refine A_callSi dX7_step_142 m_X7_44 cb_X7_isDigit (As := [_]) rfl (c_isDigit G) rfl ⟨by decide, by decide⟩ (Nat.le_of_ble_eq_true rfl) ⟨by decide, by decide⟩ (fun x142 h142 hq => ?_)
      obtain ⟨rfl, rfl⟩ := hq
      refine A_if_eq 160 dX7_step_145 (by decide) (fun c145 => ?_) (fun c145 => ?_)
      · refine A_aload_n dX7_step_160 rfl rfl ?_
        refine A_iload_n dX7_step_161 rfl rfl ?_
        refine A_bipush (v := 59) dX7_step_162 (by decide) ?_
        refine A_icmp_ne 171 dX7_step_164 (by decide) (fun c164 => ?_) (fun c164 => ?_)
        · refine A_iconst (v := 4) dX7_step_171 (by decide) ?_
          refine A_putC 1 dX7_step_172 p_X7_15 (by decide) rfl (Nat.le_of_ble_eq_true rfl) rfl ?_
          refine A_aload_n dX7_step_175 rfl rfl ?_
          refine A_dup dX7_step_176 rfl ?_
          refine A_get dX7_step_177 f_X7_22 (HC_at (by decide)) rfl ?_
          refine A_iconst (v := 1) dX7_step_180 (by decide) ?_
          refine A_iadd dX7_step_181 ?_
          refine A_putC 3 dX7_step_182 p_X7_22 (by decide) rfl (Nat.le_of_ble_eq_true rfl) rfl ?_
          exact A_vret dX7_step_185 (by rw [← hT, s3F, if_neg c74, if_pos c89, if_pos c145, if_neg c164]; rfl) ⟨by decide, by decide⟩
        · refine A_iconst (v := 3) dX7_step_167 (by decide) ?_
          refine A_goto 172 dX7_step_168 (by decide) ?_
          refine A_putC 1 dX7_step_172 p_X7_15 (by decide) rfl (Nat.le_of_ble_eq_true rfl) rfl ?_
          refine A_aload_n dX7_step_175 rfl rfl ?_
          refine A_dup dX7_step_176 rfl ?_
          refine A_get dX7_step_177 f_X7_22 (HC_at (by decide)) rfl ?_
          refine A_iconst (v := 1) dX7_step_180 (by decide) ?_
          refine A_iadd dX7_step_181 ?_
          refine A_putC 3 dX7_step_182 p_X7_22 (by decide) rfl (Nat.le_of_ble_eq_true rfl) rfl ?_
          exact A_vret dX7_step_185 (by rw [← hT, s3F, if_neg c74, if_pos c89, if_pos c145, if_pos c164]; rfl) ⟨by decide, by decide⟩
      · refine A_aload_n dX7_step_148 rfl rfl ?_
        refine A_iconst (v := 2) dX7_step_149 (by decide) ?_
        refine A_putC 1 dX7_step_150 p_X7_15 (by decide) rfl (Nat.le_of_ble_eq_true rfl) rfl ?_
        refine A_aload_n dX7_step_153 rfl rfl ?_
        refine A_callVv dX7_step_154 m_X7_47 cb_X7_stepNumber (As := []) rfl (HC_at (by decide)) rfl (c_stepNumber G (L := L) (p := q) (by rw [put_ne (by decide)]; exact hz1) hL2 (by rw [put_kj (by decide)]; exact hz3) hp2) rfl ⟨by decide, by decide⟩ (Nat.le_of_ble_eq_true rfl) ⟨by decide, by decide⟩ (fun h154 hq => ?_)
        obtain rfl := hq
        refine A_goto 185 dX7_step_157 (by decide) ?_
        exact A_vret dX7_step_185 (by rw [← hT, s3F, if_neg c74, if_pos c89, if_neg c145, eq]) ⟨by decide, by decide⟩
    · refine A_aload_n dX7_step_92 rfl rfl ?_
      refine A_iconst (v := 1) dX7_step_93 (by decide) ?_
      refine A_putC 1 dX7_step_94 p_X7_15 (by decide) rfl (Nat.le_of_ble_eq_true rfl) rfl ?_
      refine A_fg 1 (lv1 := [_, _]) rfl ?_
      exact step_w1 G X (by rw [put_ne (by decide)]; exact hz1) hL2 (by rw [put_kj (by decide)]; exact hz3) hp2 (by rw [← hT, s3F, if_neg c74, if_neg c89, eq])
  · refine A_aload_n dX7_step_77 rfl rfl ?_
    refine A_iconst (v := 0) dX7_step_78 (by decide) ?_
    refine A_putC 1 dX7_step_79 p_X7_15 (by decide) rfl (Nat.le_of_ble_eq_true rfl) rfl ?_
    refine A_goto 185 dX7_step_82 (by decide) ?_
    exact A_vret dX7_step_185 (by rw [← hT, s3F, if_pos c74]) ⟨by decide, by decide⟩
theorem c_step (G : GX) {b : Nat} {c : CT} {co : Nat → Nat → Option Nat} {r : Nat → Option AE} {n : Nat} {L p : Nat} (hL : c 1 1 = nI L) (hL2 : L ≤ 1600) (hp : c 5 3 = nI p) (hp2 : p ≤ L) : MA G 2 yX7_step cX7_step 2 none 0 0 [.ref (b + 5)] (HC b c co r n) (qV fun h1 => h1 = HC b (stepF L p c) co r n) := by
  refine MA.of (own := RX7) false [some (.ref (b + 5)), none] (by decide +kernel) rfl (fun h => by cases h) (Nat.le_of_ble_eq_true rfl) rfl (fun X => ?_)
  obtain ⟨T, hTe⟩ : ∃ T, stepF L p c = T := ⟨_, rfl⟩
  rw [hTe]
  have loop : ∀ (k i : Nat) (y : CT), i + k = L → (y 1 1 = nI L) → (y 5 2 = nI i) → (s2F L (skF k y) = T) → WA X G RX7 cX7_step false none (qV fun h1 => h1 = HC b T co r n) 2 0 0 (HC b y co r n) 0 0 8 [some (.ref (b + 5)), none] [] := by
    intro k
    induction k with
    | zero =>
      intro i y hk hy1 hyp hT
      refine A_aload_n dX7_step_8 rfl rfl ?_
      refine A_get dX7_step_9 f_X7_19 (HC_at (by decide)) rfl ?_
      refine A_aload_n dX7_step_12 rfl rfl ?_
      refine A_get dX7_step_13 f_X7_9 (HC_at (by decide)) rfl ?_
      refine A_get dX7_step_16 f_X7_28 (HC_at (by decide)) rfl ?_
      refine A_icmp_ge 52 dX7_step_19 (by decide) (fun c19 => ?_) (fun c19 => ?_)
      · exact step_w2 G X hy1 hL2 hyp (by omega) (by rw [← hT, skF])
      · exact absurd (by rw [hy1, hyp]; exact nI_le (by omega) (by omega)) c19
    | succ k ih =>
      intro i y hk hy1 hyp hT
      have hi : i < L := by omega
      refine A_aload_n dX7_step_8 rfl rfl ?_
      refine A_get dX7_step_9 f_X7_19 (HC_at (by decide)) rfl ?_
      refine A_aload_n dX7_step_12 rfl rfl ?_
      refine A_get dX7_step_13 f_X7_9 (HC_at (by decide)) rfl ?_
      refine A_get dX7_step_16 f_X7_28 (HC_at (by decide)) rfl ?_
      refine A_icmp_ge 52 dX7_step_19 (by decide) (fun c19 => ?_) (fun c19 => ?_)
      · exact absurd c19 (by rw [hy1, hyp]; exact nI_ge (by omega) (by omega))
      · refine A_aload_n dX7_step_22 rfl rfl ?_
        refine A_get dX7_step_23 f_X7_9 (HC_at (by decide)) rfl ?_
        refine A_aload_n dX7_step_26 rfl rfl ?_
        refine A_get dX7_step_27 f_X7_19 (HC_at (by decide)) rfl ?_
        refine A_callVi dX7_step_30 m_X7_33 cb_X6_at (As := [_]) rfl (HC_at (by decide)) rfl (c_tapeAt G (L := L) hy1 hL2) rfl ⟨by decide, by decide⟩ (Nat.le_of_ble_eq_true rfl) ⟨by decide, by decide⟩ (fun x30 h30 hq => ?_)
        obtain ⟨rfl, rfl⟩ := hq
        refine A_callSi dX7_step_33 m_X7_37 cb_X7_isBlank (As := [_]) rfl (c_isBlank G) rfl ⟨by decide, by decide⟩ (Nat.le_of_ble_eq_true rfl) ⟨by decide, by decide⟩ (fun x33 h33 hq => ?_)
        obtain ⟨rfl, rfl⟩ := hq
        refine A_if_eq 52 dX7_step_36 (by decide) (fun c36 => ?_) (fun c36 => ?_)
        · exact step_w2 G X hy1 hL2 hyp (by omega) (by rw [← hT, skF, if_pos c36])
        · refine A_aload_n dX7_step_39 rfl rfl ?_
          refine A_dup dX7_step_40 rfl ?_
          refine A_get dX7_step_41 f_X7_19 (HC_at (by decide)) rfl ?_
          refine A_iconst (v := 1) dX7_step_44 (by decide) ?_
          refine A_iadd dX7_step_45 ?_
          refine A_putC 2 dX7_step_46 p_X7_19 (by decide) rfl (Nat.le_of_ble_eq_true rfl) rfl ?_
          refine A_goto 8 dX7_step_49 (by decide) ?_
          exact ih (i + 1) (put y 5 2 (y 5 2 + 1)) (by omega) (by rw [put_ne (by decide)]; exact hy1) (by rw [put_kk, hyp]; exact nI_1 i) (by rw [← hT, skF, if_neg c36])
  refine A_aload_n dX7_step_0 rfl rfl ?_
  refine A_aload_n dX7_step_1 rfl rfl ?_
  refine A_get dX7_step_2 f_X7_22 (HC_at (by decide)) rfl ?_
  refine A_putC 2 dX7_step_5 p_X7_19 (by decide) rfl (Nat.le_of_ble_eq_true rfl) rfl ?_
  exact loop (L - p) p _ (by omega) (by rw [put_ne (by decide)]; exact hL) (by rw [put_kk]; exact hp) hTe
