/-! a LINE goes alike -/
theorem kf_l {nv nc nf nl : Nat} {t : Int32} {z : CT} {l : Nat} (h : l < 16 ∨ 25 < l) : keepF nv nc nf nl t z l = z l := by
  have k0 : kp0 z l = z l := kp0_l (by omega)
  unfold keepF
  split
  · rw [put_ne (by omega), put_ne (by omega), put_ne (by omega)]; exact k0
  · split
    · rw [put_ne (by omega), addF_l (by omega) (by omega)]; exact k0
    · split
      · rw [addF_l (by omega) (by omega)]; exact k0
      · split
        · split
          · exact k0
          · rw [put_ne (by omega)]; exact k0
        · split
          · rw [put_ne (by omega), addF_l (by omega) (by omega)]; exact k0
          · split
            · rw [addF_l (by omega) (by omega)]; exact k0
            · rw [put_ne (by omega)]; exact k0
theorem rlZ_l {t : Int32} {z : CT} {l : Nat} (h : l < 16 ∨ 25 < l) (h3 : l ≠ 3) : (rlZ t z).2 l = z l := by
  unfold rlZ
  split
  · exact kf_l h
  · exact fail_f.2.2 l h3
theorem rlA_f {L : Nat} {c : CT} (hP : PT L c) {l : Nat} (h3 : l ≠ 3) (h4 : l ≠ 4) (h5 : l ≠ 5) (h : l < 16 ∨ 25 < l) : (rlA L c).2 l = c l := by
  unfold rlA
  split
  · exact fail_f.2.2 l h3
  · split
    · exact fail_f.2.2 l h3
    · split
      · exact fail_f.2.2 l h3
      · obtain ⟨q1, q2⟩ := rlL_l (t := lwF c 7 0) (j := tcl (lwF c 7 0)) (itJ (tcl (lwF c 7 0))) 0 c hP
        generalize rlL L (lwF c 7 0) (tcl (lwF c 7 0)) (itJ (tcl (lwF c 7 0))) 0 c = s at q1 q2 ⊢
        unfold rlE
        split
        · exact q2 l h3 h4 h5
        · rw [rlZ_l h h3, (stp_l q1).2 l h5]; exact q2 l h3 h4 h5
theorem wd_u : ∀ j, j < 31 → ∀ i, i < 31 → lenJ j = lenJ i → (∀ k, k < lenJ j → chJ j k = chJ i k) → j = i := by decide +kernel
theorem wd_uniq {f : Nat → Int32} {L p j i : Nat} (hj : j < 31) (hi : i < 31) (h : wdB f L p j = true) (h2 : wdB f L p i = true) : j = i := by
  rw [wdB, Bool.and_eq_true, Bool.and_eq_true, decide_eq_true_eq, decide_eq_true_eq, chP_all] at h h2
  have e : lenJ j = lenJ i := by have := h.2.1; have := h2.2.1; omega
  exact wd_u j hj i hi e (fun k hk => (h.2.2 k hk).symm.trans (h2.2.2 k (by omega)))
theorem sg_x {f : Nat → Int32} {L q : Nat} (h : tkK f q = 3) : tkE f L q = q + 1 := by
  unfold tkK at h
  unfold tkE
  split at h
  · exact absurd h (by decide)
  · next a =>
    split at h
    · exact absurd h (by decide)
    · next b =>
      split at h
      · exact absurd h (by decide)
      · next d => rw [if_neg a, if_neg b, if_neg d]
/-- how a LINE ends, on both sides -/
def LQ (L : Nat) (f : Nat → Int32) (p1 K : Nat) (c : CT) (X : Int32 × CT) (S : RS) : Prop := (S.1.1 = 0 ∧ X.1 = 1 ∧ CP L f S.1.2 X.2 ∧ p1 < S.1.2 ∧ (∀ l, l < 16 → l ≠ 4 → l ≠ 5 → X.2 l = c l) ∧ ∃ nv nc nf nl wk, FD nv nc nf nl wk (K + 1) X.2 S.2) ∨ (¬ S.1.1 = 0 ∧ X.1 = 0 ∧ X.2 3 3 = S.1.1 ∧ X.2 3 4 = nI S.1.2)
theorem smO_bad {f : Nat → Int32} {L : Nat} {o : Int32 × Nat} (h : ¬ o.1 = 0) : smO f L o = o := if_neg h
theorem ln_fin {L p1 i K nv nc nf nl : Nat} {f : Nat → Int32} {c : CT} {R : RS} {V : CT → (Nat → Int32) → Prop} (hF : FO L f p1 (rlL L (nI i) i (itJ i) 0 c) c R V) (hC : CNT c nv nc nf nl) (hK : ∀ y z g9, V y g9 → z 4 = y 4 → (∀ l, 16 ≤ l → z l = c l) → ∃ a b d e w, FD a b d e w (K + 1) (keepF nv nc nf nl (nI i) z) (upd g9 4 (g9 4 + 1))) : LQ L f p1 K c (rlE L (nI i) (rlL L (nI i) i (itJ i) 0 c)) (lnE f L R) := by
  rcases hF with ⟨hR, y, er, P, hq, hl, hV⟩ | ⟨hR, y, er, e3, e4⟩
  · obtain ⟨zP, T, zl, z52, z51⟩ := P.st
    have hb := nxP_b P
    have e1 : rlE L (nI i) (rlL L (nI i) i (itJ i) 0 c) = rlZ (nI i) (stp L y) := by rw [er]; exact if_neg (fun z => Bool.noConfusion z)
    rw [e1]
    have eS : (lnE f L R).1 = smO f L R.1 := rfl
    have eo : smO f L R.1 = if tkK f (tkS f L R.1.2) = 3 then (0, nxP f L R.1.2) else (1, tkS f L R.1.2) := if_pos hR
    obtain ⟨z, ez⟩ : ∃ z, stp L y = z := ⟨_, rfl⟩
    rw [ez] at zP T zl z52 z51 ⊢
    have zc : ∀ l, 16 ≤ l → z l = c l := fun l h => (zl l (by omega)).trans (hl l (by omega) (by omega))
    obtain ⟨⟨qv, qv6⟩, ⟨qc, qc8⟩, ⟨qf, qf3⟩, ⟨ql, ql8⟩⟩ := hC.to (fun l h => zc l (by omega))
    by_cases h3 : tkK f (tkS f L R.1.2) = 3
    · refine Or.inl ?_
      rw [if_pos h3] at eo
      have ek : rlZ (nI i) z = (1, keepF nv nc nf nl (nI i) z) := by rw [rlZ, if_pos (z51.trans h3), qv, qc, qf, ql, tcl_nI (by omega), tcl_nI (by omega), tcl_nI (by omega), tcl_nI (by omega)]
      rw [ek, eS, eo]
      refine ⟨rfl, rfl, zP.to (kf_l (by omega)) (kf_l (by omega)) (kf_l (by omega)), ?_, fun l a b d => ?_, ?_⟩
      · show p1 < nxP f L R.1.2
        rw [nxP, sg_x h3]; omega
      · exact (kf_l (Or.inl a)).trans ((zl l d).trans (hl l b d))
      · exact hK y z R.2 hV (zl 4 (by decide)) zc
    · refine Or.inr ?_
      rw [if_neg h3] at eo
      have ek : rlZ (nI i) z = (0, failF z 1) := by rw [rlZ, if_neg (fun w => h3 (z51.symm.trans w))]
      rw [ek, eS, eo]
      obtain ⟨f1, f2, -⟩ := fail_f (y := z) (k := 1)
      exact ⟨(by decide : ¬ (1 : Int32) = 0), rfl, f1, f2.trans z52⟩
  · refine Or.inr ?_
    have eS : (lnE f L R).1 = R.1 := smO_bad hR
    rw [eS, er]
    exact ⟨hR, rfl, e3, e4⟩
theorem fu_n {n lim : Nat} (hn : n ≤ 8) (hl : lim ≤ 8) : (if nI lim ≤ nI n then (1 : Int32) else 0) = 0 ↔ n < lim := by
  by_cases h : lim ≤ n
  · rw [if_pos (nI_le h (by omega))]
    exact ⟨fun z => absurd z (by decide), fun z => by omega⟩
  · rw [if_neg (nI_ge (by omega) (by omega))]
    exact ⟨fun _ => by omega, fun _ => rfl⟩
theorem fu_1 {c : CT} {n : Nat} (h : c 17 2 = nI n) (hn : n ≤ 6) : fullF c (nI 1) = 0 ↔ n < 6 := by
  have e : fullF c (nI 1) = if nI 6 ≤ nI n then 1 else 0 := by rw [fullF, if_pos (by decide), fuI, h]; rfl
  rw [e, fu_n (by omega) (by decide)]
theorem fu_2 {c : CT} {n : Nat} (h : c 19 2 = nI n) (hn : n ≤ 8) : fullF c (nI 2) = 0 ↔ n < 8 := by
  have e : fullF c (nI 2) = if nI 8 ≤ nI n then 1 else 0 := by rw [fullF, if_neg (by decide), if_pos (by decide), fuI, h]; rfl
  rw [e, fu_n (by omega) (by decide)]
theorem fu_4 {c : CT} {n : Nat} (h : c 21 2 = nI n) (hn : n ≤ 3) : fullF c (nI 4) = 0 ↔ n < 3 := by
  have e : fullF c (nI 4) = if nI 3 ≤ nI n then 1 else 0 := by rw [fullF, if_neg (by decide), if_neg (by decide), if_neg (by decide), if_pos (by decide), fuI, h]; rfl
  rw [e, fu_n (by omega) (by decide)]
theorem fu_5 {c : CT} {n : Nat} (h : c 23 2 = nI n) (hn : n ≤ 8) : fullF c (nI 5) = 0 ↔ n < 8 := by
  have e : fullF c (nI 5) = if nI 8 ≤ nI n then 1 else 0 := by rw [fullF, if_neg (by decide), if_neg (by decide), if_neg (by decide), if_neg (by decide), if_pos (by decide), fuI, h]; rfl
  rw [e, fu_n (by omega) (by decide)]
theorem fu_0 {c : CT} : fullF c (nI 0) = 0 ∧ fullF c (nI 3) = 0 ∧ fullF c (nI 6) = 0 := by
  refine ⟨?_, ?_, ?_⟩
  · rw [fullF, if_neg (by decide), if_neg (by decide), if_neg (by decide), if_neg (by decide), if_neg (by decide)]
  · rw [fullF, if_neg (by decide), if_neg (by decide), if_pos (by decide)]
  · rw [fullF, if_neg (by decide), if_neg (by decide), if_neg (by decide), if_neg (by decide), if_neg (by decide)]
theorem FD.cnt {nv nc nf nl wk K : Nat} {c : CT} {g : Nat → Int32} (h : FD nv nc nf nl wk K c g) : CNT c nv nc nf nl := ⟨⟨h.2.1.1, h.2.1.2.1⟩, ⟨h.2.2.1.1, h.2.2.1.2.1⟩, ⟨h.2.2.2.2.1.1, h.2.2.2.2.1.2.1⟩, ⟨h.2.2.2.2.2.1, h.2.2.2.2.2.2.1⟩⟩
theorem FD.cf {nv nc nf nl wk K : Nat} {c : CT} {g : Nat → Int32} (h : FD nv nc nf nl wk K c g) : CF g nv nc nf nl wk := ⟨⟨h.2.1.2.2.1, h.2.1.2.1⟩, ⟨h.2.2.1.2.2.1, h.2.2.1.2.1⟩, ⟨h.2.2.2.2.1.2.2.1, h.2.2.2.2.1.2.1⟩, ⟨h.2.2.2.2.2.2.2.1, h.2.2.2.2.2.2.1⟩, h.1.2.1.2.1, h.1.2.1.2.2⟩
/-- what the class takes up when the first word is that of form i -/
theorem rlA_go {L i : Nat} {c : CT} (hi : i < 7) (hw : lwF c 7 0 = nI i) (h1 : nI i = 0 ↔ c 16 5 = 0) (h2 : fullF c (nI i) = 0) : rlA L c = rlE L (nI i) (rlL L (nI i) i (itJ i) 0 c) := by
  have hm : ¬ nI i = -1 := fun z => by
    have := congrArg Int32.toInt z
    rw [nI_toInt (by omega)] at this
    have e : (-1 : Int32).toInt = -1 := rfl
    omega
  rw [rlA, hw, if_neg hm, if_neg (fun w => w h1), if_neg (fun w => w h2), tcl_nI (by omega)]
theorem rlA_n1 {L : Nat} {c : CT} (h : lwF c 7 0 = -1 ∨ ¬ (lwF c 7 0 = 0 ↔ c 16 5 = 0)) : rlA L c = (0, failF c 1) := by
  rw [rlA]
  by_cases w : lwF c 7 0 = -1
  · rw [if_pos w]
  · rw [if_neg w, if_pos (h.resolve_left w)]
theorem rlA_n3 {L i : Nat} {c : CT} (hi : i < 7) (hw : lwF c 7 0 = nI i) (h1 : nI i = 0 ↔ c 16 5 = 0) (h2 : ¬ fullF c (nI i) = 0) : rlA L c = (0, failF c 3) := by
  have hm : ¬ nI i = -1 := fun z => by
    have := congrArg Int32.toInt z
    rw [nI_toInt (by omega)] at this
    have e : (-1 : Int32).toInt = -1 := rfl
    omega
  rw [rlA, hw, if_neg hm, if_neg (fun w => w h1), if_pos h2]