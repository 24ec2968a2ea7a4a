/-! a LINE is read -/
def stp (L : Nat) (c : CT) : CT := stepF L (tcl (c 5 3)) c
def itF (j : Nat) : Nat → Nat → List (Option (Nat × Nat))
  | 0, _ => []
  | q + 1, f => if lenJ j ≤ f then [] else (if chJ j f = 78 then none else some (f, weF j f)) :: itF j q (weF j f + 1)
def nnL : List (Option (Nat × Nat)) → Nat
  | [] => 0
  | none :: xs => nnL xs + 1
  | some _ :: xs => nnL xs
def rlL (L : Nat) (t : Int32) (j : Nat) : List (Option (Nat × Nat)) → Nat → CT → Bool × CT
  | [], _, c => (true, c)
  | none :: xs, k, c => if (rnF t k (stp L c)).1 = 0 then (false, (rnF t k (stp L c)).2) else rlL L t j xs (k + 1) (rnF t k (stp L c)).2
  | some (f, w) :: xs, k, c => if isWF (stp L c) j f w = 0 then (false, failF (stp L c) 1) else rlL L t j xs k (stp L c)
def rlZ (t : Int32) (y : CT) : Int32 × CT := if y 5 1 = 3 then (1, keepF (tcl (y 17 2)) (tcl (y 19 2)) (tcl (y 21 2)) (tcl (y 23 2)) t y) else (0, failF y 1)
def rlE (L : Nat) (t : Int32) (s : Bool × CT) : Int32 × CT := if s.1 = false then (0, s.2) else rlZ t (stp L s.2)
theorem rlE_n {L : Nat} {t : Int32} {j k : Nat} {y : CT} : rlE L t (rlL L t j [] k y) = rlZ t (stp L y) := by rw [rlL, rlE, if_neg (fun z => Bool.noConfusion z)]
theorem rlE_f {L : Nat} {t : Int32} {y : CT} : rlE L t (false, y) = (0, y) := if_pos rfl
def itJ (j : Nat) : List (Option (Nat × Nat)) := itF j 62 (weF j 0 + 1)
/-- the items of a form, place by place: one behind each blank -/
def itG (j : Nat) : Nat → Nat → List (Option (Nat × Nat))
  | 0, _ => []
  | q + 1, f => if lenJ j ≤ f then [] else if chJ j (f - 1) = 32 then (if chJ j f = 78 then none else some (f, weF j f)) :: itG j q (f + 1) else itG j q (f + 1)
theorem itG_J : ∀ j, j < 7 → itG j 62 1 = itJ j := by decide +kernel
theorem itJ_n : ∀ j, j < 7 → nnL (itJ j) ≤ 5 ∧ (j = 6 → 0 < nnL (itJ j)) := by decide +kernel
def CNT (c : CT) (nv nc nf nl : Nat) : Prop := (c 17 2 = nI nv ∧ nv ≤ 6) ∧ (c 19 2 = nI nc ∧ nc ≤ 8) ∧ (c 21 2 = nI nf ∧ nf ≤ 3) ∧ (c 23 2 = nI nl ∧ nl ≤ 8)
theorem CNT.to {c y : CT} {nv nc nf nl : Nat} (h : CNT c nv nc nf nl) (e : ∀ l, 17 ≤ l → y l = c l) : CNT y nv nc nf nl := by
  unfold CNT
  rw [e 17 (by decide), e 19 (by decide), e 21 (by decide), e 23 (by decide)]
  exact h
def PT (L : Nat) (c : CT) : Prop := c 1 1 = nI L ∧ L ≤ 1600 ∧ ∃ p, c 5 3 = nI p ∧ p ≤ L
theorem byF_L {L : Nat} {c : CT} (h : c 1 1 = nI L) (hL : L ≤ 1600) : byF c L = -1 := by
  have e : inI (nI L) (nI L) = 0 := if_pos (Or.inr (Int32.le_refl _))
  rw [byF, atF, h, if_pos e]
theorem i7 : ∀ i, i < 7 → (nI i = 1 → i = 1) ∧ (nI i = 2 → i = 2) ∧ (nI i = 4 → i = 4) ∧ (nI i = 5 → i = 5) := by decide +kernel
theorem i76 : ∀ i, i < 7 → ¬ (nI i = 0 ∨ nI i = 1 ∨ nI i = 2 ∨ nI i = 3 ∨ nI i = 4 ∨ nI i = 5) → i = 6 := by decide +kernel
theorem i77 {i : Nat} (h : i < 7) (a0 : ¬ nI i = 0) (a1 : ¬ nI i = 1) (a2 : ¬ nI i = 2) (a3 : ¬ nI i = 3) (a4 : ¬ nI i = 4) (a5 : ¬ nI i = 5) : i = 6 := i76 i h (by rintro (z | z | z | z | z | z); exact a0 z; exact a1 z; exact a2 z; exact a3 z; exact a4 z; exact a5 z)
theorem stp_I {L p : Nat} {c : CT} (h1 : c 1 1 = nI L) (hL : L ≤ 1600) (hp : c 5 3 = nI p) (hp2 : p ≤ L) : TokAt c (stp L c) L p ∧ PT L (stp L c) ∧ (∀ l, l ≠ 5 → stp L c l = c l) ∧ stepF L p c = stp L c := by
  have e : stp L c = stepF L p c := by rw [stp, hp, tcl_nI (by omega)]
  have T := step_N (c := c) hp hp2 hL
  rw [← e] at T
  have hs := tkS_b (f := byF c) hp2
  have he := tkE_b (f := byF c) hs.2 (byF_L h1 hL)
  exact ⟨T, ⟨by rw [T.2.2.2.2 1 (by decide)]; exact h1, hL, _, T.2.2.1, he.2⟩, T.2.2.2.2, e.symm⟩
theorem rnF_l {t : Int32} {k l : Nat} {c : CT} (h3 : l ≠ 3) (h4 : l ≠ 4) : (rnF t k c).2 l = c l := by
  have f1 : ∀ q, failF c q l = c l := fun q => by rw [failF, put_ne h3, put_ne h3]
  unfold rnF
  split
  · exact f1 _
  · split
    · exact f1 _
    · split
      · exact f1 _
      · split
        · exact f1 _
        · exact put_ne h4
theorem rnF_y {t : Int32} {k : Nat} {c : CT} (h : ¬ (rnF t k c).1 = 0) : (rnF t k c).2 = put c 4 k (c 5 4) ∧ ¬ c 5 4 < leastF c t (nI k) ∧ ¬ mostF c t (nI k) < c 5 4 ∧ c 5 1 = 2 ∧ ¬ (t = 5 ∧ nI k = 1 ∧ c 5 4 = c 4 0) := by
  unfold rnF at h ⊢
  split at h
  · exact absurd rfl h
  · next h1 =>
    split at h
    · exact absurd rfl h
    · next h2 =>
      split at h
      · exact absurd rfl h
      · next h3 =>
        split at h
        · exact absurd rfl h
        · next h4 => rw [if_neg h1, if_neg h2, if_neg h3, if_neg h4]; exact ⟨rfl, h2, h3, Decidable.not_not.mp h1, h4⟩
theorem rn6 {nv k : Nat} {c y : CT} (hv : c 17 2 = nI nv) (hv6 : nv ≤ 6) (h : ¬ (rnF (nI 6) k c).1 = 0) (e : (rnF (nI 6) k c).2 = y) (hold : 0 < k → ∃ v, v < nv ∧ c 4 0 = nI v) : ∃ v, v < nv ∧ y 4 0 = nI v := by
  obtain ⟨h1, h2, h3, -⟩ := rnF_y h
  subst e
  rw [h1]
  by_cases z : k = 0
  · subst z
    have e1 : leastF c (nI 6) (nI 0) = 0 := rfl
    have e2 : mostF c (nI 6) (nI 0) = nI nv - 1 := by show c 17 2 - 1 = _; rw [hv]
    rw [e1] at h2
    rw [e2] at h3
    rw [put_at]
    have hc : ¬ inI (c 5 4) (nI nv) = 0 := by
      rw [inI, if_neg]
      · decide
      · rintro (q | q)
        · exact h2 q
        · apply h3
          rw [Int32.lt_iff_toInt_lt, show (1 : Int32) = nI 1 from rfl, nI_m1_toInt (by omega)]
          rw [Int32.le_iff_toInt_le, nI_toInt (by omega)] at q
          omega
    obtain ⟨v, a, b⟩ := inI_of rfl hc (by omega)
    exact ⟨v, a, b⟩
  · rw [put_no (fun q => z q.symm)]
    exact hold (by omega)
theorem lw_ix {c : CT} : ∀ k i, lwF c k i = -1 ∨ ∃ a, i ≤ a ∧ a < i + k ∧ lwF c k i = nI a ∧ ¬ isWF c a 0 (weF a 0) = 0
  | 0, _ => Or.inl rfl
  | k + 1, i => by
    rw [lwF]
    by_cases h : isWF c i 0 (weF i 0) = 0
    · rw [if_pos h]
      rcases lw_ix (c := c) k (i + 1) with e | ⟨a, h1, h2, h3, h4⟩
      · exact Or.inl e
      · exact Or.inr ⟨a, by omega, by omega, h3, h4⟩
    · rw [if_neg h]; exact Or.inr ⟨i, by omega, by omega, rfl, h⟩
theorem bo5 {x : Int32} : (if x = 0 then (1 : Int32) else 0) = 1 ↔ x = 0 := by
  by_cases h : x = 0
  · rw [if_pos h]; exact ⟨fun _ => h, fun _ => rfl⟩
  · rw [if_neg h]; exact ⟨fun z => absurd z (by decide), fun z => absurd z h⟩
def rlA (L : Nat) (c : CT) : Int32 × CT := if lwF c 7 0 = -1 then (0, failF c 1) else if ¬ (lwF c 7 0 = 0 ↔ c 16 5 = 0) then (0, failF c 1) else if ¬ fullF c (lwF c 7 0) = 0 then (0, failF c 3) else rlE L (lwF c 7 0) (rlL L (lwF c 7 0) (tcl (lwF c 7 0)) (itJ (tcl (lwF c 7 0))) 0 c)
theorem rl_end (G : GX) (X : XC) {b : Nat} {co : Nat → Nat → Option Nat} {r : Nat → Option AE} {n : Nat} {L i nv nc nf nl : Nat} {R : Int32 × CT} {y : CT} {p k f : Nat} (hi7 : i < 7) (hL2 : L ≤ 1600) (n1 : i = 1 → nv < 6) (n2 : i = 2 → nc < 8) (n4 : i = 4 → nf < 3) (n5 : i = 5 → nl < 8) (hy1 : y 1 1 = nI L) (hp : y 5 3 = nI p) (hp2 : p ≤ L) (hC : CNT y nv nc nf nl) (h6 : i = 6 → ∃ v, v < nv ∧ y 4 0 = nI v) (hT0 : rlZ (nI i) (stp L y) = R) : WA X G RX4 cX4_readsLine false (some .boolean) (qI fun x9 h1 => x9 = R.1 ∧ h1 = HC b R.2 co r n) 8 0 0 (HC b y co r n) 0 0 164 [some (.ref (b + 3)), some (.ref (b + 16)), some (.int (nI i)), some (.ref (gK G i)), some (.int (nI k)), some (.int (nI f)), none] [] := by
  have hj : i < 31 := by omega
  obtain ⟨i1, i2, i4, i5⟩ := i7 i hi7
  refine A_aload_n dX4_readsLine_164 rfl rfl ?_
  refine A_get dX4_readsLine_165 f_X4_24 (HC_at (by decide)) rfl ?_
  refine A_callVv dX4_readsLine_168 m_X4_48 cb_X7_step (As := []) rfl (HC_at (by decide)) rfl (c_step G (L := L) hy1 hL2 hp hp2) rfl ⟨by decide, by decide⟩ (Nat.le_of_ble_eq_true rfl) ⟨by decide, by decide⟩ (fun h168 hq => ?_)
  obtain rfl := hq
  obtain ⟨TK, PZ, zl, es⟩ := stp_I hy1 hL2 hp hp2
  rw [es]
  have hz1 := PZ.1
  obtain ⟨z, ez⟩ : ∃ z, stp L y = z := ⟨_, rfl⟩
  rw [ez] at PZ zl hz1 ⊢
  have hT : rlZ (nI i) z = R := by rw [← ez]; exact hT0
  have hzC : CNT z nv nc nf nl := hC.to (fun l hl => zl l (by omega))
  refine A_aload_n dX4_readsLine_171 rfl rfl ?_
  refine A_get dX4_readsLine_172 f_X4_24 (HC_at (by decide)) rfl ?_
  refine A_get dX4_readsLine_175 f_X4_51 (HC_at (by decide)) rfl ?_
  refine A_iconst (v := 3) dX4_readsLine_178 (by decide) ?_
  refine A_icmp_eq 188 dX4_readsLine_179 (by decide) (fun c179 => ?_) (fun c179 => ?_)
  · have q4 : z 4 = y 4 := zl 4 (by decide)
    obtain ⟨⟨qv, qv6⟩, ⟨qc, qc8⟩, ⟨qf, qf3⟩, ⟨ql, ql8⟩⟩ := id hzC
    have eK : rlZ (nI i) z = (1, keepF nv nc nf nl (nI i) z) := by rw [rlZ, if_pos c179, qv, qc, qf, ql, tcl_nI (by omega), tcl_nI (by omega), tcl_nI (by omega), tcl_nI (by omega)]
    refine A_aload_n dX4_readsLine_188 rfl rfl ?_
    refine A_aload_n dX4_readsLine_189 rfl rfl ?_
    refine A_iload_n dX4_readsLine_190 rfl rfl ?_
    refine A_callVv dX4_readsLine_191 m_X4_93 cb_X4_keep (As := [_, _]) rfl (HC_at (by decide)) rfl (c_keep G qv qc qf ql qv6 (fun w => n1 (i1 w)) (fun w => n2 (i2 w)) (fun w => n4 (i4 w)) (fun w => n5 (i5 w)) (fun a0 a1 a2 a3 a4 a5 => by rw [q4]; exact h6 (i77 hi7 a0 a1 a2 a3 a4 a5))) rfl ⟨by decide, by decide⟩ (Nat.le_of_ble_eq_true rfl) ⟨by decide, by decide⟩ (fun h191 hq => ?_)
    obtain rfl := hq
    refine A_iconst (v := 1) dX4_readsLine_194 (by decide) ?_
    exact A_zret dX4_readsLine_195 rfl ⟨by rw [← hT, eK], by rw [← hT, eK]⟩ ⟨by decide, by decide⟩
  · refine A_aload_n dX4_readsLine_182 rfl rfl ?_
    refine A_iconst (v := 1) dX4_readsLine_183 (by decide) ?_
    refine A_callVi dX4_readsLine_184 m_X4_65 cb_X4_fails (As := [_]) rfl (HC_at (by decide)) rfl (c_fails G) rfl ⟨by decide, by decide⟩ (Nat.le_of_ble_eq_true rfl) ⟨by decide, by decide⟩ (fun x184 h184 hq => ?_)
    obtain ⟨rfl, rfl⟩ := hq
    exact A_zret dX4_readsLine_187 rfl ⟨by rw [← hT, rlZ, if_neg c179], by rw [← hT, rlZ, if_neg c179]⟩ ⟨by decide, by decide⟩
theorem rl_w (G : GX) (X : XC) {b : Nat} {co : Nat → Nat → Option Nat} {r : Nat → Option AE} {n : Nat} {L i nv nc nf nl : Nat} {R : Int32 × CT} (hi7 : i < 7) (hL2 : L ≤ 1600) (n1 : i = 1 → nv < 6) (n2 : i = 2 → nc < 8) (n4 : i = 4 → nf < 3) (n5 : i = 5 → nl < 8) : ∀ (q f k : Nat) (y : CT) (p : Nat), lenJ i < f + q → 1 ≤ f → f ≤ lenJ i + 1 → nnL (itG i q f) + k = nnL (itJ i) → y 1 1 = nI L → y 5 3 = nI p → p ≤ L → CNT y nv nc nf nl → (i = 6 → 0 < k → ∃ v, v < nv ∧ y 4 0 = nI v) → rlE L (nI i) (rlL L (nI i) i (itG i q f) k y) = R → WA X G RX4 cX4_readsLine false (some .boolean) (qI fun x9 h1 => x9 = R.1 ∧ h1 = HC b R.2 co r n) 8 0 0 (HC b y co r n) 0 0 65 [some (.ref (b + 3)), some (.ref (b + 16)), some (.int (nI i)), some (.ref (gK G i)), some (.int (nI k)), some (.int (nI f)), none] [] := by
  have hj : i < 31 := by omega
  have h60 := (lenJ_all i hj).1
  obtain ⟨hk5, hk6⟩ := itJ_n i hi7
  intro q
  induction q with
  | zero =>
    intro f k y p hq hf1 hf hn hy1 hp hp2 hC h6 hT
    have e0 : itG i 0 f = [] := rfl
    rw [e0] at hn hT
    have hn0 : nnL ([] : List (Option (Nat × Nat))) = 0 := rfl
    refine A_iload dX4_readsLine_65 rfl ?_
    refine A_aload_n dX4_readsLine_67 rfl rfl ?_
    refine A_callLi hj dX4_readsLine_68 m_X4_77 cb_J0_length_8abf5 rfl (As := []) rfl (l_length G hj) rfl ⟨by decide, by decide⟩ (Nat.le_of_ble_eq_true rfl) ⟨by decide, by decide⟩ (fun x68 h68 hq => ?_)
    obtain ⟨rfl, rfl⟩ := hq
    refine A_icmp_ge 164 dX4_readsLine_71 (by decide) (fun c71 => ?_) (fun c71 => ?_)
    · exact rl_end G X hi7 hL2 n1 n2 n4 n5 hy1 hp hp2 hC (fun w => h6 w (by have := hk6 w; omega)) (rlE_n.symm.trans hT)
    · exact absurd (nI_le (by omega) (by omega)) c71
  | succ q ih =>
    intro f k y p hq hf1 hf hn hy1 hp hp2 hC h6 hT
    by_cases hle : lenJ i ≤ f
    · have e0 : itG i (q + 1) f = [] := by rw [itG, if_pos hle]
      rw [e0] at hn hT
      have hn0 : nnL ([] : List (Option (Nat × Nat))) = 0 := rfl
      refine A_iload dX4_readsLine_65 rfl ?_
      refine A_aload_n dX4_readsLine_67 rfl rfl ?_
      refine A_callLi hj dX4_readsLine_68 m_X4_77 cb_J0_length_8abf5 rfl (As := []) rfl (l_length G hj) rfl ⟨by decide, by decide⟩ (Nat.le_of_ble_eq_true rfl) ⟨by decide, by decide⟩ (fun x68 h68 hq => ?_)
      obtain ⟨rfl, rfl⟩ := hq
      refine A_icmp_ge 164 dX4_readsLine_71 (by decide) (fun c71 => ?_) (fun c71 => ?_)
      · exact rl_end G X hi7 hL2 n1 n2 n4 n5 hy1 hp hp2 hC (fun w => h6 w (by have := hk6 w; omega)) (rlE_n.symm.trans hT)
      · exact absurd (nI_le (by omega) (by omega)) c71
    · have hw := weF_b (j := i) (a := f) (by omega)
      have e0 : itG i (q + 1) f = if chJ i (f - 1) = 32 then (if chJ i f = 78 then none else some (f, weF i f)) :: itG i q (f + 1) else itG i q (f + 1) := by rw [itG, if_neg hle]
      rw [e0] at hn hT
      refine A_iload dX4_readsLine_65 rfl ?_
      refine A_aload_n dX4_readsLine_67 rfl rfl ?_
      refine A_callLi hj dX4_readsLine_68 m_X4_77 cb_J0_length_8abf5 rfl (As := []) rfl (l_length G hj) rfl ⟨by decide, by decide⟩ (Nat.le_of_ble_eq_true rfl) ⟨by decide, by decide⟩ (fun x68 h68 hq => ?_)
      obtain ⟨rfl, rfl⟩ := hq
      refine A_icmp_ge 164 dX4_readsLine_71 (by decide) (fun c71 => ?_) (fun c71 => ?_)
      · exact absurd c71 (nI_ge (by omega) (by omega))
      · refine A_aload_n dX4_readsLine_74 rfl rfl ?_
        refine A_iload dX4_readsLine_75 rfl ?_
        refine A_iconst (v := 1) dX4_readsLine_77 (by decide) ?_
        refine A_isub dX4_readsLine_78 ?_
        refine A_eqI (y := nI (f - 1)) (nI_sub1 (by omega)) ?_
        refine A_callLi hj dX4_readsLine_79 m_X4_81 cb_J0_charAt_5068e rfl (As := [_]) rfl (l_charAt G hj (by omega)) rfl ⟨by decide, by decide⟩ (Nat.le_of_ble_eq_true rfl) ⟨by decide, by decide⟩ (fun x79 h79 hq => ?_)
        obtain ⟨rfl, rfl⟩ := hq
        refine A_bipush (v := 32) dX4_readsLine_82 (by decide) ?_
        refine A_icmp_ne 158 dX4_readsLine_84 (by decide) (fun c84 => ?_) (fun c84 => ?_)
        · refine A_inc 1 (lv1 := [_, _, _, _, _, _, _]) dX4_readsLine_158 rfl (by decide) rfl rfl ?_
          refine A_goto 65 dX4_readsLine_161 (by decide) ?_
          refine A_fg 6 (lv1 := [_, _, _, _, _, _, _]) rfl ?_
          rw [nI_1]
          rw [if_neg c84] at hn hT
          exact ih (f + 1) k y p (by omega) (by omega) (by omega) (by omega) hy1 hp hp2 hC h6 hT
        · rw [if_pos c84] at hn hT
          refine A_aload_n dX4_readsLine_87 rfl rfl ?_
          refine A_get dX4_readsLine_88 f_X4_24 (HC_at (by decide)) rfl ?_
          refine A_callVv dX4_readsLine_91 m_X4_48 cb_X7_step (As := []) rfl (HC_at (by decide)) rfl (c_step G (L := L) hy1 hL2 hp hp2) rfl ⟨by decide, by decide⟩ (Nat.le_of_ble_eq_true rfl) ⟨by decide, by decide⟩ (fun h91 hq => ?_)
          obtain rfl := hq
          obtain ⟨TK, PZ, zl, es⟩ := stp_I hy1 hL2 hp hp2
          rw [es]
          have hz1 := PZ.1
          obtain ⟨z, ez⟩ : ∃ z, stp L y = z := ⟨_, rfl⟩
          rw [ez] at PZ zl hz1 ⊢
          have hzC : CNT z nv nc nf nl := hC.to (fun l hl => zl l (by omega))
          refine A_aload_n dX4_readsLine_94 rfl rfl ?_
          refine A_iload dX4_readsLine_95 rfl ?_
          refine A_callLi hj dX4_readsLine_97 m_X4_81 cb_J0_charAt_5068e rfl (As := [_]) rfl (l_charAt G hj (by omega)) rfl ⟨by decide, by decide⟩ (Nat.le_of_ble_eq_true rfl) ⟨by decide, by decide⟩ (fun x97 h97 hq => ?_)
          obtain ⟨rfl, rfl⟩ := hq
          refine A_bipush (v := 78) dX4_readsLine_100 (by decide) ?_
          refine A_icmp_ne 109 dX4_readsLine_102 (by decide) (fun c102 => ?_) (fun c102 => ?_)
          · have eR : rlL L (nI i) i (some (f, weF i f) :: itG i q (f + 1)) k y = if isWF z i f (weF i f) = 0 then (false, failF z 1) else rlL L (nI i) i (itG i q (f + 1)) k z := by rw [rlL, ez]
            rw [if_neg c102, eR] at hT
            rw [if_neg c102] at hn
            have hn1 : nnL (some (f, weF i f) :: itG i q (f + 1)) = nnL (itG i q (f + 1)) := rfl
            refine A_iconst (v := 0) dX4_readsLine_109 (by decide) ?_
            refine A_istore (lv1 := [_, _, _, _, _, _, _]) dX4_readsLine_110 (Nat.le_of_ble_eq_true rfl) rfl rfl ?_
            refine A_iload dX4_readsLine_112 rfl ?_
            refine A_if_eq 131 dX4_readsLine_114 (by decide) (fun c114 => ?_) (fun c114 => ?_)
            · refine A_aload_n dX4_readsLine_131 rfl rfl ?_
              refine A_aload_n dX4_readsLine_132 rfl rfl ?_
              refine A_iload dX4_readsLine_133 rfl ?_
              refine A_callVi dX4_readsLine_135 m_X4_89 cb_X4_readsWord (As := [_, _]) rfl (HC_at (by decide)) rfl (c_readsWord G (f := f) hz1 hL2 hj (by omega)) rfl ⟨by decide, by decide⟩ (Nat.le_of_ble_eq_true rfl) ⟨by decide, by decide⟩ (fun x135 h135 hq => ?_)
              obtain ⟨rfl, rfl⟩ := hq
              refine A_if_ne 143 dX4_readsLine_138 (by decide) (fun c138 => ?_) (fun c138 => ?_)
              · have cw : ¬ isWF z i f (weF i f) = 0 := fun q => c138 (by rw [rwF, if_pos q])
                have eW : (rwF i f z).2 = z := by rw [rwF, if_neg cw]
                rw [eW]
                refine A_iload dX4_readsLine_143 rfl ?_
                refine A_iload dX4_readsLine_145 rfl ?_
                refine A_if_eq 154 dX4_readsLine_147 (by decide) (fun c147 => ?_) (fun c147 => ?_)
                · refine A_iconst (v := 0) dX4_readsLine_154 (by decide) ?_
                  refine A_iadd dX4_readsLine_155 ?_
                  refine A_eqI (Int32.add_zero _) ?_
                  refine A_istore (lv1 := [_, _, _, _, _, _, _]) dX4_readsLine_156 (Nat.le_of_ble_eq_true rfl) rfl rfl ?_
                  refine A_inc 1 (lv1 := [_, _, _, _, _, _, _]) dX4_readsLine_158 rfl (by decide) rfl rfl ?_
                  refine A_goto 65 dX4_readsLine_161 (by decide) ?_
                  refine A_fg 6 (lv1 := [_, _, _, _, _, _, _]) rfl ?_
                  rw [nI_1]
                  rw [if_neg cw] at hT
                  obtain ⟨-, -, p2, hp3, hp4⟩ := PZ
                  exact ih (f + 1) k z p2 (by omega) (by omega) (by omega) (by omega) hz1 hp3 hp4 hzC (fun w hk => by rw [zl 4 (by decide)]; exact h6 w hk) hT
                · exact absurd rfl c147
              · have cw : isWF z i f (weF i f) = 0 := Decidable.by_contra (fun q => by rw [rwF, if_neg q] at c138; exact absurd (show (1 : Int32) = 0 from c138) (by decide))
                have eW : (rwF i f z).2 = failF z 1 := by rw [rwF, if_pos cw]
                rw [eW]
                refine A_iconst (v := 0) dX4_readsLine_141 (by decide) ?_
                exact A_zret dX4_readsLine_142 rfl ⟨by rw [← hT, if_pos cw, rlE_f], by rw [← hT, if_pos cw, rlE_f]⟩ ⟨by decide, by decide⟩
            · exact absurd rfl c114
          · have eR : rlL L (nI i) i (none :: itG i q (f + 1)) k y = if (rnF (nI i) k z).1 = 0 then (false, (rnF (nI i) k z).2) else rlL L (nI i) i (itG i q (f + 1)) (k + 1) (rnF (nI i) k z).2 := by rw [rlL, ez]
            rw [if_pos c102, eR] at hT
            rw [if_pos c102] at hn
            have hn1 : nnL (none :: itG i q (f + 1)) = nnL (itG i q (f + 1)) + 1 := rfl
            refine A_iconst (v := 1) dX4_readsLine_105 (by decide) ?_
            refine A_goto 110 dX4_readsLine_106 (by decide) ?_
            refine A_istore (lv1 := [_, _, _, _, _, _, _]) dX4_readsLine_110 (Nat.le_of_ble_eq_true rfl) rfl rfl ?_
            refine A_iload dX4_readsLine_112 rfl ?_
            refine A_if_eq 131 dX4_readsLine_114 (by decide) (fun c114 => ?_) (fun c114 => ?_)
            · exact absurd c114 (by decide)
            · refine A_aload_n dX4_readsLine_117 rfl rfl ?_
              refine A_aload_n dX4_readsLine_118 rfl rfl ?_
              refine A_iload_n dX4_readsLine_119 rfl rfl ?_
              refine A_iload dX4_readsLine_120 rfl ?_
              refine A_callVi dX4_readsLine_122 m_X4_85 cb_X4_readsNumber (As := [_, _, _]) rfl (HC_at (by decide)) rfl (c_readsNumber G (k := k) (by omega)) rfl ⟨by decide, by decide⟩ (Nat.le_of_ble_eq_true rfl) ⟨by decide, by decide⟩ (fun x122 h122 hq => ?_)
              obtain ⟨rfl, rfl⟩ := hq
              refine A_if_eq 141 dX4_readsLine_125 (by decide) (fun c125 => ?_) (fun c125 => ?_)
              · refine A_iconst (v := 0) dX4_readsLine_141 (by decide) ?_
                exact A_zret dX4_readsLine_142 rfl ⟨by rw [← hT, if_pos c125, rlE_f], by rw [← hT, if_pos c125, rlE_f]⟩ ⟨by decide, by decide⟩
              · refine A_goto 143 dX4_readsLine_128 (by decide) ?_
                refine A_iload dX4_readsLine_143 rfl ?_
                refine A_iload dX4_readsLine_145 rfl ?_
                refine A_if_eq 154 dX4_readsLine_147 (by decide) (fun c147 => ?_) (fun c147 => ?_)
                · exact absurd c147 (by decide)
                · refine A_iconst (v := 1) dX4_readsLine_150 (by decide) ?_
                  refine A_goto 155 dX4_readsLine_151 (by decide) ?_
                  refine A_iadd dX4_readsLine_155 ?_
                  rw [nI_1]
                  refine A_istore (lv1 := [_, _, _, _, _, _, _]) dX4_readsLine_156 (Nat.le_of_ble_eq_true rfl) rfl rfl ?_
                  refine A_inc 1 (lv1 := [_, _, _, _, _, _, _]) dX4_readsLine_158 rfl (by decide) rfl rfl ?_
                  refine A_goto 65 dX4_readsLine_161 (by decide) ?_
                  refine A_fg 6 (lv1 := [_, _, _, _, _, _, _]) rfl ?_
                  rw [nI_1]
                  rw [if_neg c125] at hT
                  obtain ⟨-, -, p2, hp3, hp4⟩ := PZ
                  obtain ⟨u, eu⟩ : ∃ u, (rnF (nI i) k z).2 = u := ⟨_, rfl⟩
                  have ul : ∀ l, l ≠ 3 → l ≠ 4 → u l = z l := fun l a b => by rw [← eu]; exact rnF_l a b
                  have h6u : i = 6 → 0 < k + 1 → ∃ v, v < nv ∧ u 4 0 = nI v := fun w _ => by
                    subst w
                    exact rn6 hzC.1.1 hzC.1.2 c125 eu (fun hk => by rw [zl 4 (by decide)]; exact h6 rfl hk)
                  rw [eu] at hT ⊢
                  exact ih (f + 1) (k + 1) u p2 (by omega) (by omega) (by omega) (by omega) (by rw [ul 1 (by decide) (by decide)]; exact hz1) (by rw [ul 5 (by decide) (by decide)]; exact hp3) hp4 (hzC.to (fun l hl => ul l (by omega) (by omega))) h6u hT

theorem full_no {i nv nc nf nl : Nat} {c : CT} (hi : i < 7) (hC : CNT c nv nc nf nl) (h : fullF c (nI i) = 0) : (i = 1 → nv < 6) ∧ (i = 2 → nc < 8) ∧ (i = 4 → nf < 3) ∧ (i = 5 → nl < 8) := by
  obtain ⟨⟨qv, qv6⟩, ⟨qc, qc8⟩, ⟨qf, qf3⟩, ⟨ql, ql8⟩⟩ := hC
  have key : ∀ (N x : Nat), x ≤ N → N ≤ 8 → (if nI N ≤ nI x then (1 : Int32) else 0) = 0 → x < N := by
    intro N x hx hN he
    rcases Nat.lt_or_ge x N with q | q
    · exact q
    · exfalso
      rw [if_pos (nI_le q (by omega))] at he
      exact absurd he (by decide)
  refine ⟨fun e => ?_, fun e => ?_, fun e => ?_, fun e => ?_⟩
  · subst e
    have h1 : fuI c 17 6 = 0 := h
    rw [fuI, qv] at h1
    exact key 6 nv qv6 (by decide) h1
  · subst e
    have h1 : fuI c 19 8 = 0 := h
    rw [fuI, qc] at h1
    exact key 8 nc qc8 (by decide) h1
  · subst e
    have h1 : fuI c 21 3 = 0 := h
    rw [fuI, qf] at h1
    exact key 3 nf qf3 (by decide) h1
  · subst e
    have h1 : fuI c 23 8 = 0 := h
    rw [fuI, ql] at h1
    exact key 8 nl ql8 (by decide) h1
theorem iff_b {x y : Int32} {u v : Int32} (hu : u = if x = 0 then 1 else 0) (hv : v = if y = 0 then 1 else 0) : u = v ↔ (x = 0 ↔ y = 0) := by
  subst hu; subst hv
  by_cases a : x = 0 <;> by_cases b : y = 0 <;> simp [a, b]
theorem c_readsLine (G : GX) {b : Nat} {c : CT} {co : Nat → Nat → Option Nat} {r : Nat → Option AE} {n : Nat} {L p nv nc nf nl : Nat} (hL : c 1 1 = nI L) (hL2 : L ≤ 1600) (hp : c 5 3 = nI p) (hp2 : p ≤ L) (hC : CNT c nv nc nf nl) : MA G 8 yX4_readsLine cX4_readsLine 7 (some .boolean) 0 0 [.ref (b + 3), .ref (b + 16)] (HC b c co r n) (qI fun x9 h1 => x9 = (rlA L c).1 ∧ h1 = HC b (rlA L c).2 co r n) := by
  refine MA.of (own := RX4) false [some (.ref (b + 3)), some (.ref (b + 16)), none, none, none, none, none] (by decide +kernel) rfl (fun h => by cases h) (Nat.le_of_ble_eq_true rfl) rfl (fun X => ?_)
  obtain ⟨R, hR⟩ : ∃ R, rlA L c = R := ⟨_, rfl⟩
  rw [hR]
  refine A_aload_n dX4_readsLine_0 rfl rfl ?_
  refine A_callVi dX4_readsLine_1 m_X4_58 cb_X4_lineOfWord (As := []) rfl (HC_at (by decide)) rfl (c_lineOfWord G hL hL2) rfl ⟨by decide, by decide⟩ (Nat.le_of_ble_eq_true rfl) ⟨by decide, by decide⟩ (fun x1 h1 hq => ?_)
  obtain ⟨rfl, rfl⟩ := hq
  rcases lw_ix (c := c) 7 0 with eT | ⟨i, -, hi7, eT, -⟩
  · rw [eT]
    refine A_istore_n (lv1 := [_, _, _, _, _, _, _]) dX4_readsLine_4 rfl (Nat.le_of_ble_eq_true rfl) rfl rfl ?_
    refine A_iload_n dX4_readsLine_5 rfl rfl ?_
    refine A_iconst (v := (-1)) dX4_readsLine_6 (by decide) ?_
    refine A_icmp_eq 34 dX4_readsLine_7 (by decide) (fun c7 => ?_) (fun c7 => ?_)
    · refine A_aload_n dX4_readsLine_34 rfl rfl ?_
      refine A_iconst (v := 1) dX4_readsLine_35 (by decide) ?_
      refine A_callVi dX4_readsLine_36 m_X4_65 cb_X4_fails (As := [_]) rfl (HC_at (by decide)) rfl (c_fails G) rfl ⟨by decide, by decide⟩ (Nat.le_of_ble_eq_true rfl) ⟨by decide, by decide⟩ (fun x36 h36 hq => ?_)
      obtain ⟨rfl, rfl⟩ := hq
      exact A_zret dX4_readsLine_39 rfl ⟨by rw [← hR, rlA, eT, if_pos rfl], by rw [← hR, rlA, eT, if_pos rfl]⟩ ⟨by decide, by decide⟩
    · exact absurd rfl c7
  · have hi7 : i < 7 := by omega
    rw [eT]
    refine A_istore_n (lv1 := [_, _, _, _, _, _, _]) dX4_readsLine_4 rfl (Nat.le_of_ble_eq_true rfl) rfl rfl ?_
    refine A_iload_n dX4_readsLine_5 rfl rfl ?_
    refine A_iconst (v := (-1)) dX4_readsLine_6 (by decide) ?_
    refine A_icmp_eq 34 dX4_readsLine_7 (by decide) (fun c7 => ?_) (fun c7 => ?_)
    · exact absurd c7 (n1_ne (by omega))
    · refine A_iload_n dX4_readsLine_10 rfl rfl ?_
      refine A_if_ne 18 dX4_readsLine_11 (by decide) (fun c11 => ?_) (fun c11 => ?_)
      · refine A_iconst (v := 0) dX4_readsLine_18 (by decide) ?_
        refine A_aload_n dX4_readsLine_19 rfl rfl ?_
        refine A_get dX4_readsLine_20 f_X4_62 (HC_at (by decide)) rfl ?_
        refine A_if_ne 30 dX4_readsLine_23 (by decide) (fun c23 => ?_) (fun c23 => ?_)
        · refine A_iconst (v := 0) dX4_readsLine_30 (by decide) ?_
          refine A_icmp_eq 40 dX4_readsLine_31 (by decide) (fun c31 => ?_) (fun c31 => ?_)
          · have hEq : (nI i = 0 ↔ c 16 5 = 0) := (iff_b (x := nI i) (u := 0) (v := 0) (by rw [if_neg c11]) (by rw [if_neg c23])).mp (by first | exact c31 | exact c31.symm)
            refine A_aload_n dX4_readsLine_40 rfl rfl ?_
            refine A_iload_n dX4_readsLine_41 rfl rfl ?_
            refine A_callSi dX4_readsLine_42 m_X4_69 cb_X4_isFull (As := [_, _]) rfl (c_lineFull G) rfl ⟨by decide, by decide⟩ (Nat.le_of_ble_eq_true rfl) ⟨by decide, by decide⟩ (fun x42 h42 hq => ?_)
            obtain ⟨rfl, rfl⟩ := hq
            refine A_if_eq 54 dX4_readsLine_45 (by decide) (fun c45 => ?_) (fun c45 => ?_)
            · refine A_iload_n dX4_readsLine_54 rfl rfl ?_
              refine A_callSr dX4_readsLine_55 m_X4_73 cb_X4_formOf (As := [_]) rfl (c_formOf G) rfl ⟨by decide, by decide⟩ (Nat.le_of_ble_eq_true rfl) ⟨by decide, by decide⟩ (fun x55 h55 hq => ?_)
              obtain ⟨rfl, rfl⟩ := hq
              have hj : i < 31 := by omega
              have h60 := (lenJ_all i hj).1
              have hw := weF_b (j := i) (Nat.zero_le _)
              refine A_eqR (y := gK G i) (by rw [formN_i i (by omega)]) ?_
              refine A_astore_n (lv1 := [_, _, _, _, _, _, _]) dX4_readsLine_58 rfl (Nat.le_of_ble_eq_true rfl) rfl rfl ?_
              refine A_iconst (v := 0) dX4_readsLine_59 (by decide) ?_
              refine A_istore (lv1 := [_, _, _, _, _, _, _]) dX4_readsLine_60 (Nat.le_of_ble_eq_true rfl) rfl rfl ?_
              refine A_iconst (v := 1) dX4_readsLine_62 (by decide) ?_
              refine A_istore (lv1 := [_, _, _, _, _, _, _]) dX4_readsLine_63 (Nat.le_of_ble_eq_true rfl) rfl rfl ?_
              obtain ⟨n1, n2, n4, n5⟩ := full_no hi7 hC c45
              refine rl_w G X hi7 hL2 n1 n2 n4 n5 62 1 0 c p (by omega) (by omega) (by omega) (by rw [itG_J i hi7]; rfl) hL hp hp2 hC (fun _ w => absurd w (by decide)) ?_
              rw [← hR, rlA, eT, if_neg (n1_ne (by omega)), if_neg (fun w => w hEq), if_neg (fun w => w c45), tcl_nI (by omega), itG_J i hi7]
            · refine A_aload_n dX4_readsLine_48 rfl rfl ?_
              refine A_iconst (v := 3) dX4_readsLine_49 (by decide) ?_
              refine A_callVi dX4_readsLine_50 m_X4_65 cb_X4_fails (As := [_]) rfl (HC_at (by decide)) rfl (c_fails G) rfl ⟨by decide, by decide⟩ (Nat.le_of_ble_eq_true rfl) ⟨by decide, by decide⟩ (fun x50 h50 hq => ?_)
              obtain ⟨rfl, rfl⟩ := hq
              exact A_zret dX4_readsLine_53 rfl ⟨by rw [← hR, rlA, eT, if_neg (n1_ne (by omega)), if_neg (fun w => w hEq), if_pos c45], by rw [← hR, rlA, eT, if_neg (n1_ne (by omega)), if_neg (fun w => w hEq), if_pos c45]⟩ ⟨by decide, by decide⟩
          · refine A_aload_n dX4_readsLine_34 rfl rfl ?_
            refine A_iconst (v := 1) dX4_readsLine_35 (by decide) ?_
            refine A_callVi dX4_readsLine_36 m_X4_65 cb_X4_fails (As := [_]) rfl (HC_at (by decide)) rfl (c_fails G) rfl ⟨by decide, by decide⟩ (Nat.le_of_ble_eq_true rfl) ⟨by decide, by decide⟩ (fun x36 h36 hq => ?_)
            obtain ⟨rfl, rfl⟩ := hq
            exact A_zret dX4_readsLine_39 rfl ⟨by rw [← hR, rlA, eT, if_neg (n1_ne (by omega)), if_pos (fun z => absurd ((iff_b (x := nI i) (u := 0) (v := 0) (by rw [if_neg c11]) (by rw [if_neg c23])).mpr z) c31)], by rw [← hR, rlA, eT, if_neg (n1_ne (by omega)), if_pos (fun z => absurd ((iff_b (x := nI i) (u := 0) (v := 0) (by rw [if_neg c11]) (by rw [if_neg c23])).mpr z) c31)]⟩ ⟨by decide, by decide⟩
        · refine A_iconst (v := 1) dX4_readsLine_26 (by decide) ?_
          refine A_goto 31 dX4_readsLine_27 (by decide) ?_
          refine A_icmp_eq 40 dX4_readsLine_31 (by decide) (fun c31 => ?_) (fun c31 => ?_)
          · have hEq : (nI i = 0 ↔ c 16 5 = 0) := (iff_b (x := nI i) (u := 0) (v := 1) (by rw [if_neg c11]) (by rw [if_pos c23])).mp (by first | exact c31 | exact c31.symm)
            refine A_aload_n dX4_readsLine_40 rfl rfl ?_
            refine A_iload_n dX4_readsLine_41 rfl rfl ?_
            refine A_callSi dX4_readsLine_42 m_X4_69 cb_X4_isFull (As := [_, _]) rfl (c_lineFull G) rfl ⟨by decide, by decide⟩ (Nat.le_of_ble_eq_true rfl) ⟨by decide, by decide⟩ (fun x42 h42 hq => ?_)
            obtain ⟨rfl, rfl⟩ := hq
            refine A_if_eq 54 dX4_readsLine_45 (by decide) (fun c45 => ?_) (fun c45 => ?_)
            · refine A_iload_n dX4_readsLine_54 rfl rfl ?_
              refine A_callSr dX4_readsLine_55 m_X4_73 cb_X4_formOf (As := [_]) rfl (c_formOf G) rfl ⟨by decide, by decide⟩ (Nat.le_of_ble_eq_true rfl) ⟨by decide, by decide⟩ (fun x55 h55 hq => ?_)
              obtain ⟨rfl, rfl⟩ := hq
              have hj : i < 31 := by omega
              have h60 := (lenJ_all i hj).1
              have hw := weF_b (j := i) (Nat.zero_le _)
              refine A_eqR (y := gK G i) (by rw [formN_i i (by omega)]) ?_
              refine A_astore_n (lv1 := [_, _, _, _, _, _, _]) dX4_readsLine_58 rfl (Nat.le_of_ble_eq_true rfl) rfl rfl ?_
              refine A_iconst (v := 0) dX4_readsLine_59 (by decide) ?_
              refine A_istore (lv1 := [_, _, _, _, _, _, _]) dX4_readsLine_60 (Nat.le_of_ble_eq_true rfl) rfl rfl ?_
              refine A_iconst (v := 1) dX4_readsLine_62 (by decide) ?_
              refine A_istore (lv1 := [_, _, _, _, _, _, _]) dX4_readsLine_63 (Nat.le_of_ble_eq_true rfl) rfl rfl ?_
              obtain ⟨n1, n2, n4, n5⟩ := full_no hi7 hC c45
              refine rl_w G X hi7 hL2 n1 n2 n4 n5 62 1 0 c p (by omega) (by omega) (by omega) (by rw [itG_J i hi7]; rfl) hL hp hp2 hC (fun _ w => absurd w (by decide)) ?_
              rw [← hR, rlA, eT, if_neg (n1_ne (by omega)), if_neg (fun w => w hEq), if_neg (fun w => w c45), tcl_nI (by omega), itG_J i hi7]
            · refine A_aload_n dX4_readsLine_48 rfl rfl ?_
              refine A_iconst (v := 3) dX4_readsLine_49 (by decide) ?_
              refine A_callVi dX4_readsLine_50 m_X4_65 cb_X4_fails (As := [_]) rfl (HC_at (by decide)) rfl (c_fails G) rfl ⟨by decide, by decide⟩ (Nat.le_of_ble_eq_true rfl) ⟨by decide, by decide⟩ (fun x50 h50 hq => ?_)
              obtain ⟨rfl, rfl⟩ := hq
              exact A_zret dX4_readsLine_53 rfl ⟨by rw [← hR, rlA, eT, if_neg (n1_ne (by omega)), if_neg (fun w => w hEq), if_pos c45], by rw [← hR, rlA, eT, if_neg (n1_ne (by omega)), if_neg (fun w => w hEq), if_pos c45]⟩ ⟨by decide, by decide⟩
          · refine A_aload_n dX4_readsLine_34 rfl rfl ?_
            refine A_iconst (v := 1) dX4_readsLine_35 (by decide) ?_
            refine A_callVi dX4_readsLine_36 m_X4_65 cb_X4_fails (As := [_]) rfl (HC_at (by decide)) rfl (c_fails G) rfl ⟨by decide, by decide⟩ (Nat.le_of_ble_eq_true rfl) ⟨by decide, by decide⟩ (fun x36 h36 hq => ?_)
            obtain ⟨rfl, rfl⟩ := hq
            exact A_zret dX4_readsLine_39 rfl ⟨by rw [← hR, rlA, eT, if_neg (n1_ne (by omega)), if_pos (fun z => absurd ((iff_b (x := nI i) (u := 0) (v := 1) (by rw [if_neg c11]) (by rw [if_pos c23])).mpr z) c31)], by rw [← hR, rlA, eT, if_neg (n1_ne (by omega)), if_pos (fun z => absurd ((iff_b (x := nI i) (u := 0) (v := 1) (by rw [if_neg c11]) (by rw [if_pos c23])).mpr z) c31)]⟩ ⟨by decide, by decide⟩
      · refine A_iconst (v := 1) dX4_readsLine_14 (by decide) ?_
        refine A_goto 19 dX4_readsLine_15 (by decide) ?_
        refine A_aload_n dX4_readsLine_19 rfl rfl ?_
        refine A_get dX4_readsLine_20 f_X4_62 (HC_at (by decide)) rfl ?_
        refine A_if_ne 30 dX4_readsLine_23 (by decide) (fun c23 => ?_) (fun c23 => ?_)
        · refine A_iconst (v := 0) dX4_readsLine_30 (by decide) ?_
          refine A_icmp_eq 40 dX4_readsLine_31 (by decide) (fun c31 => ?_) (fun c31 => ?_)
          · have hEq : (nI i = 0 ↔ c 16 5 = 0) := (iff_b (x := nI i) (u := 1) (v := 0) (by rw [if_pos c11]) (by rw [if_neg c23])).mp (by first | exact c31 | exact c31.symm)
            refine A_aload_n dX4_readsLine_40 rfl rfl ?_
            refine A_iload_n dX4_readsLine_41 rfl rfl ?_
            refine A_callSi dX4_readsLine_42 m_X4_69 cb_X4_isFull (As := [_, _]) rfl (c_lineFull G) rfl ⟨by decide, by decide⟩ (Nat.le_of_ble_eq_true rfl) ⟨by decide, by decide⟩ (fun x42 h42 hq => ?_)
            obtain ⟨rfl, rfl⟩ := hq
            refine A_if_eq 54 dX4_readsLine_45 (by decide) (fun c45 => ?_) (fun c45 => ?_)
            · refine A_iload_n dX4_readsLine_54 rfl rfl ?_
              refine A_callSr dX4_readsLine_55 m_X4_73 cb_X4_formOf (As := [_]) rfl (c_formOf G) rfl ⟨by decide, by decide⟩ (Nat.le_of_ble_eq_true rfl) ⟨by decide, by decide⟩ (fun x55 h55 hq => ?_)
              obtain ⟨rfl, rfl⟩ := hq
              have hj : i < 31 := by omega
              have h60 := (lenJ_all i hj).1
              have hw := weF_b (j := i) (Nat.zero_le _)
              refine A_eqR (y := gK G i) (by rw [formN_i i (by omega)]) ?_
              refine A_astore_n (lv1 := [_, _, _, _, _, _, _]) dX4_readsLine_58 rfl (Nat.le_of_ble_eq_true rfl) rfl rfl ?_
              refine A_iconst (v := 0) dX4_readsLine_59 (by decide) ?_
              refine A_istore (lv1 := [_, _, _, _, _, _, _]) dX4_readsLine_60 (Nat.le_of_ble_eq_true rfl) rfl rfl ?_
              refine A_iconst (v := 1) dX4_readsLine_62 (by decide) ?_
              refine A_istore (lv1 := [_, _, _, _, _, _, _]) dX4_readsLine_63 (Nat.le_of_ble_eq_true rfl) rfl rfl ?_
              obtain ⟨n1, n2, n4, n5⟩ := full_no hi7 hC c45
              refine rl_w G X hi7 hL2 n1 n2 n4 n5 62 1 0 c p (by omega) (by omega) (by omega) (by rw [itG_J i hi7]; rfl) hL hp hp2 hC (fun _ w => absurd w (by decide)) ?_
              rw [← hR, rlA, eT, if_neg (n1_ne (by omega)), if_neg (fun w => w hEq), if_neg (fun w => w c45), tcl_nI (by omega), itG_J i hi7]
            · refine A_aload_n dX4_readsLine_48 rfl rfl ?_
              refine A_iconst (v := 3) dX4_readsLine_49 (by decide) ?_
              refine A_callVi dX4_readsLine_50 m_X4_65 cb_X4_fails (As := [_]) rfl (HC_at (by decide)) rfl (c_fails G) rfl ⟨by decide, by decide⟩ (Nat.le_of_ble_eq_true rfl) ⟨by decide, by decide⟩ (fun x50 h50 hq => ?_)
              obtain ⟨rfl, rfl⟩ := hq
              exact A_zret dX4_readsLine_53 rfl ⟨by rw [← hR, rlA, eT, if_neg (n1_ne (by omega)), if_neg (fun w => w hEq), if_pos c45], by rw [← hR, rlA, eT, if_neg (n1_ne (by omega)), if_neg (fun w => w hEq), if_pos c45]⟩ ⟨by decide, by decide⟩
          · refine A_aload_n dX4_readsLine_34 rfl rfl ?_
            refine A_iconst (v := 1) dX4_readsLine_35 (by decide) ?_
            refine A_callVi dX4_readsLine_36 m_X4_65 cb_X4_fails (As := [_]) rfl (HC_at (by decide)) rfl (c_fails G) rfl ⟨by decide, by decide⟩ (Nat.le_of_ble_eq_true rfl) ⟨by decide, by decide⟩ (fun x36 h36 hq => ?_)
            obtain ⟨rfl, rfl⟩ := hq
            exact A_zret dX4_readsLine_39 rfl ⟨by rw [← hR, rlA, eT, if_neg (n1_ne (by omega)), if_pos (fun z => absurd ((iff_b (x := nI i) (u := 1) (v := 0) (by rw [if_pos c11]) (by rw [if_neg c23])).mpr z) c31)], by rw [← hR, rlA, eT, if_neg (n1_ne (by omega)), if_pos (fun z => absurd ((iff_b (x := nI i) (u := 1) (v := 0) (by rw [if_pos c11]) (by rw [if_neg c23])).mpr z) c31)]⟩ ⟨by decide, by decide⟩
        · refine A_iconst (v := 1) dX4_readsLine_26 (by decide) ?_
          refine A_goto 31 dX4_readsLine_27 (by decide) ?_
          refine A_icmp_eq 40 dX4_readsLine_31 (by decide) (fun c31 => ?_) (fun c31 => ?_)
          · have hEq : (nI i = 0 ↔ c 16 5 = 0) := (iff_b (x := nI i) (u := 1) (v := 1) (by rw [if_pos c11]) (by rw [if_pos c23])).mp (by first | exact c31 | exact c31.symm)
            refine A_aload_n dX4_readsLine_40 rfl rfl ?_
            refine A_iload_n dX4_readsLine_41 rfl rfl ?_
            refine A_callSi dX4_readsLine_42 m_X4_69 cb_X4_isFull (As := [_, _]) rfl (c_lineFull G) rfl ⟨by decide, by decide⟩ (Nat.le_of_ble_eq_true rfl) ⟨by decide, by decide⟩ (fun x42 h42 hq => ?_)
            obtain ⟨rfl, rfl⟩ := hq
            refine A_if_eq 54 dX4_readsLine_45 (by decide) (fun c45 => ?_) (fun c45 => ?_)
            · refine A_iload_n dX4_readsLine_54 rfl rfl ?_
              refine A_callSr dX4_readsLine_55 m_X4_73 cb_X4_formOf (As := [_]) rfl (c_formOf G) rfl ⟨by decide, by decide⟩ (Nat.le_of_ble_eq_true rfl) ⟨by decide, by decide⟩ (fun x55 h55 hq => ?_)
              obtain ⟨rfl, rfl⟩ := hq
              have hj : i < 31 := by omega
              have h60 := (lenJ_all i hj).1
              have hw := weF_b (j := i) (Nat.zero_le _)
              refine A_eqR (y := gK G i) (by rw [formN_i i (by omega)]) ?_
              refine A_astore_n (lv1 := [_, _, _, _, _, _, _]) dX4_readsLine_58 rfl (Nat.le_of_ble_eq_true rfl) rfl rfl ?_
              refine A_iconst (v := 0) dX4_readsLine_59 (by decide) ?_
              refine A_istore (lv1 := [_, _, _, _, _, _, _]) dX4_readsLine_60 (Nat.le_of_ble_eq_true rfl) rfl rfl ?_
              refine A_iconst (v := 1) dX4_readsLine_62 (by decide) ?_
              refine A_istore (lv1 := [_, _, _, _, _, _, _]) dX4_readsLine_63 (Nat.le_of_ble_eq_true rfl) rfl rfl ?_
              obtain ⟨n1, n2, n4, n5⟩ := full_no hi7 hC c45
              refine rl_w G X hi7 hL2 n1 n2 n4 n5 62 1 0 c p (by omega) (by omega) (by omega) (by rw [itG_J i hi7]; rfl) hL hp hp2 hC (fun _ w => absurd w (by decide)) ?_
              rw [← hR, rlA, eT, if_neg (n1_ne (by omega)), if_neg (fun w => w hEq), if_neg (fun w => w c45), tcl_nI (by omega), itG_J i hi7]
            · refine A_aload_n dX4_readsLine_48 rfl rfl ?_
              refine A_iconst (v := 3) dX4_readsLine_49 (by decide) ?_
              refine A_callVi dX4_readsLine_50 m_X4_65 cb_X4_fails (As := [_]) rfl (HC_at (by decide)) rfl (c_fails G) rfl ⟨by decide, by decide⟩ (Nat.le_of_ble_eq_true rfl) ⟨by decide, by decide⟩ (fun x50 h50 hq => ?_)
              obtain ⟨rfl, rfl⟩ := hq
              exact A_zret dX4_readsLine_53 rfl ⟨by rw [← hR, rlA, eT, if_neg (n1_ne (by omega)), if_neg (fun w => w hEq), if_pos c45], by rw [← hR, rlA, eT, if_neg (n1_ne (by omega)), if_neg (fun w => w hEq), if_pos c45]⟩ ⟨by decide, by decide⟩
          · refine A_aload_n dX4_readsLine_34 rfl rfl ?_
            refine A_iconst (v := 1) dX4_readsLine_35 (by decide) ?_
            refine A_callVi dX4_readsLine_36 m_X4_65 cb_X4_fails (As := [_]) rfl (HC_at (by decide)) rfl (c_fails G) rfl ⟨by decide, by decide⟩ (Nat.le_of_ble_eq_true rfl) ⟨by decide, by decide⟩ (fun x36 h36 hq => ?_)
            obtain ⟨rfl, rfl⟩ := hq
            exact A_zret dX4_readsLine_39 rfl ⟨by rw [← hR, rlA, eT, if_neg (n1_ne (by omega)), if_pos (fun z => absurd ((iff_b (x := nI i) (u := 1) (v := 1) (by rw [if_pos c11]) (by rw [if_pos c23])).mpr z) c31)], by rw [← hR, rlA, eT, if_neg (n1_ne (by omega)), if_pos (fun z => absurd ((iff_b (x := nI i) (u := 1) (v := 1) (by rw [if_pos c11]) (by rw [if_pos c23])).mpr z) c31)]⟩ ⟨by decide, by decide⟩
