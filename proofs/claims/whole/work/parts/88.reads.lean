/-! the whole TAPE is read -/
theorem keep_C {i nv nc nf nl : Nat} {z : CT} (hi : i < 7) (hC : CNT z nv nc nf nl) (n1 : i = 1 → nv < 6) (n2 : i = 2 → nc < 8) (n4 : i = 4 → nf < 3) (n5 : i = 5 → nl < 8) : (∀ l, l < 16 → keepF nv nc nf nl (nI i) z l = z l) ∧ ∃ a b c d, CNT (keepF nv nc nf nl (nI i) z) a b c d := by
  obtain ⟨⟨qv, qv6⟩, ⟨qc, qc8⟩, ⟨qf, qf3⟩, ⟨ql, ql8⟩⟩ := id hC
  have k0 : ∀ l, l ≠ 16 → kp0 z l = z l := fun l hl => put_ne hl
  have kC : CNT (kp0 z) nv nc nf nl := hC.to (fun l hl => k0 l (by omega))
  match i, hi with
  | 0, _ =>
    show (∀ l, l < 16 → (put (put (put (kp0 z) 16 6 (z 4 0)) 16 7 (z 4 1)) 16 8 (z 4 2)) l = z l) ∧ ∃ a b c d, CNT (put (put (put (kp0 z) 16 6 (z 4 0)) 16 7 (z 4 1)) 16 8 (z 4 2)) a b c d
    exact ⟨fun l hl => by rw [put_ne (by omega), put_ne (by omega), put_ne (by omega), k0 l (by omega)], nv, nc, nf, nl, kC.to (fun l hl => by rw [put_ne (by omega), put_ne (by omega), put_ne (by omega)])⟩
  | 1, _ =>
    have hn := n1 rfl
    show (∀ l, l < 16 → (put (addF 17 5 nv (kp0 z)) 18 (5 * nv + 4) 0) l = z l) ∧ ∃ a b c d, CNT (put (addF 17 5 nv (kp0 z)) 18 (5 * nv + 4) 0) a b c d
    refine ⟨fun l hl => by rw [put_ne (by omega), addF_l (by omega) (by omega), k0 l (by omega)], nv + 1, nc, nf, nl, ⟨?_, by omega⟩, ⟨?_, qc8⟩, ⟨?_, qf3⟩, ⟨?_, ql8⟩⟩
    · rw [put_ne (by decide)]; exact addF_n (by rw [k0 17 (by decide)]; exact qv)
    · rw [put_ne (by decide), addF_l (by decide) (by decide), k0 19 (by decide)]; exact qc
    · rw [put_ne (by decide), addF_l (by decide) (by decide), k0 21 (by decide)]; exact qf
    · rw [put_ne (by decide), addF_l (by decide) (by decide), k0 23 (by decide)]; exact ql
  | 2, _ =>
    have hn := n2 rfl
    show (∀ l, l < 16 → (addF 19 5 nc (kp0 z)) l = z l) ∧ ∃ a b c d, CNT (addF 19 5 nc (kp0 z)) a b c d
    refine ⟨fun l hl => by rw [addF_l (by omega) (by omega), k0 l (by omega)], nv, nc + 1, nf, nl, ⟨?_, qv6⟩, ⟨?_, by omega⟩, ⟨?_, qf3⟩, ⟨?_, ql8⟩⟩
    · rw [addF_l (by decide) (by decide), k0 17 (by decide)]; exact qv
    · exact addF_n (by rw [k0 19 (by decide)]; exact qc)
    · rw [addF_l (by decide) (by decide), k0 21 (by decide)]; exact qf
    · rw [addF_l (by decide) (by decide), k0 23 (by decide)]; exact ql
  | 3, _ =>
    show (∀ l, l < 16 → (if inI (z 4 0) 30 = 0 then kp0 z else put (kp0 z) 25 (tcl (z 4 0)) (z 4 1)) l = z l) ∧ ∃ a b c d, CNT (if inI (z 4 0) 30 = 0 then kp0 z else put (kp0 z) 25 (tcl (z 4 0)) (z 4 1)) a b c d
    split
    · exact ⟨fun l hl => k0 l (by omega), nv, nc, nf, nl, kC⟩
    · refine ⟨fun l hl => by rw [put_ne (by omega), k0 l (by omega)], nv, nc, nf, nl, ⟨?_, qv6⟩, ⟨?_, qc8⟩, ⟨?_, qf3⟩, ⟨?_, ql8⟩⟩
      · rw [put_ne (by decide)]; exact kC.1.1
      · rw [put_ne (by decide)]; exact kC.2.1.1
      · rw [put_ne (by decide)]; exact kC.2.2.1.1
      · rw [put_ne (by decide)]; exact kC.2.2.2.1
  | 4, _ =>
    have hn := n4 rfl
    show (∀ l, l < 16 → (put (addF 21 4 nf (kp0 z)) 22 (4 * nf + 3) (-1)) l = z l) ∧ ∃ a b c d, CNT (put (addF 21 4 nf (kp0 z)) 22 (4 * nf + 3) (-1)) a b c d
    refine ⟨fun l hl => by rw [put_ne (by omega), addF_l (by omega) (by omega), k0 l (by omega)], nv, nc, nf + 1, nl, ⟨?_, qv6⟩, ⟨?_, qc8⟩, ⟨?_, by omega⟩, ⟨?_, ql8⟩⟩
    · rw [put_ne (by decide), addF_l (by decide) (by decide), k0 17 (by decide)]; exact qv
    · rw [put_ne (by decide), addF_l (by decide) (by decide), k0 19 (by decide)]; exact qc
    · rw [put_ne (by decide)]; exact addF_n (by rw [k0 21 (by decide)]; exact qf)
    · rw [put_ne (by decide), addF_l (by decide) (by decide), k0 23 (by decide)]; exact ql
  | 5, _ =>
    have hn := n5 rfl
    show (∀ l, l < 16 → (addF 23 5 nl (kp0 z)) l = z l) ∧ ∃ a b c d, CNT (addF 23 5 nl (kp0 z)) a b c d
    refine ⟨fun l hl => by rw [addF_l (by omega) (by omega), k0 l (by omega)], nv, nc, nf, nl + 1, ⟨?_, qv6⟩, ⟨?_, qc8⟩, ⟨?_, qf3⟩, ⟨?_, by omega⟩⟩
    · rw [addF_l (by decide) (by decide), k0 17 (by decide)]; exact qv
    · rw [addF_l (by decide) (by decide), k0 19 (by decide)]; exact qc
    · rw [addF_l (by decide) (by decide), k0 21 (by decide)]; exact qf
    · exact addF_n (by rw [k0 23 (by decide)]; exact ql)
  | 6, _ =>
    show (∀ l, l < 16 → (put (kp0 z) 18 (5 * tcl (z 4 0) + 4) (z 4 1)) l = z l) ∧ ∃ a b c d, CNT (put (kp0 z) 18 (5 * tcl (z 4 0) + 4) (z 4 1)) a b c d
    refine ⟨fun l hl => by rw [put_ne (by omega), k0 l (by omega)], nv, nc, nf, nl, ⟨?_, qv6⟩, ⟨?_, qc8⟩, ⟨?_, qf3⟩, ⟨?_, ql8⟩⟩
    · rw [put_ne (by decide)]; exact kC.1.1
    · rw [put_ne (by decide)]; exact kC.2.1.1
    · rw [put_ne (by decide)]; exact kC.2.2.1.1
    · rw [put_ne (by decide)]; exact kC.2.2.2.1
theorem stp_l {L : Nat} {c : CT} (h : PT L c) : PT L (stp L c) ∧ ∀ l, l ≠ 5 → stp L c l = c l := by
  obtain ⟨h1, hL, p, hp, hp2⟩ := h
  have := stp_I h1 hL hp hp2
  exact ⟨this.2.1, this.2.2.1⟩
theorem PT.to {L : Nat} {c y : CT} (h : PT L c) (e1 : y 1 = c 1) (e5 : y 5 = c 5) : PT L y := by
  unfold PT at *
  rw [e1, e5]
  exact h
theorem rlL_l {L : Nat} {t : Int32} {j : Nat} : ∀ (xs : List (Option (Nat × Nat))) (k : Nat) (c : CT), PT L c → PT L (rlL L t j xs k c).2 ∧ ∀ l, l ≠ 3 → l ≠ 4 → l ≠ 5 → (rlL L t j xs k c).2 l = c l
  | [], _, _, h => ⟨h, fun _ _ _ _ => rfl⟩
  | none :: xs, k, c, h => by
    obtain ⟨h1, h2⟩ := stp_l h
    have h3 : PT L (rnF t k (stp L c)).2 := h1.to (rnF_l (by decide) (by decide)) (rnF_l (by decide) (by decide))
    rw [rlL]
    have hu : ∀ l, l ≠ 3 → l ≠ 4 → (rnF t k (stp L c)).2 l = stp L c l := fun l a b => rnF_l a b
    generalize rnF t k (stp L c) = u at h3 hu ⊢
    obtain ⟨u1, u2⟩ := u
    split
    · exact ⟨h3, fun l a b d => (hu l a b).trans (h2 l d)⟩
    · obtain ⟨q1, q2⟩ := rlL_l xs (k + 1) u2 h3
      exact ⟨q1, fun l a b d => (q2 l a b d).trans ((hu l a b).trans (h2 l d))⟩
  | some (f, w) :: xs, k, c, h => by
    obtain ⟨h1, h2⟩ := stp_l h
    rw [rlL]
    split
    · have hf : ∀ l, l ≠ 3 → failF (stp L c) 1 l = stp L c l := fun l a => by rw [failF, put_ne a, put_ne a]
      generalize failF (stp L c) 1 = u at hf ⊢
      show PT L u ∧ ∀ l, l ≠ 3 → l ≠ 4 → l ≠ 5 → u l = c l
      exact ⟨h1.to (hf 1 (by decide)) (hf 5 (by decide)), fun l a b d => (hf l a).trans (h2 l d)⟩
    · obtain ⟨q1, q2⟩ := rlL_l xs k _ h1
      exact ⟨q1, fun l a b d => (q2 l a b d).trans (h2 l d)⟩
theorem rlA_ok {L : Nat} {c : CT} {nv nc nf nl : Nat} (hP : PT L c) (hC : CNT c nv nc nf nl) (h : ¬ (rlA L c).1 = 0) : PT L (rlA L c).2 ∧ (∀ l, l < 3 → (rlA L c).2 l = c l) ∧ ∃ a b e d, CNT (rlA L c).2 a b e d := by
  unfold rlA at h ⊢
  rcases lw_ix (c := c) 7 0 with eT | ⟨i, -, hi, eT, -⟩
  · rw [if_pos eT] at h; exact absurd rfl h
  · have hi7 : i < 7 := by omega
    rw [eT] at h ⊢
    have n1 : ¬ nI i = -1 := n1_ne (by omega)
    rw [if_neg n1] at h ⊢
    by_cases h2 : nI i = 0 ↔ c 16 5 = 0
    · rw [if_neg (fun w => w h2)] at h ⊢
      by_cases h3 : fullF c (nI i) = 0
      · rw [if_neg (fun w => w h3)] at h ⊢
        obtain ⟨m1, m2, m4, m5⟩ := full_no hi7 hC h3
        obtain ⟨q1, q2⟩ := rlL_l (t := nI i) (j := tcl (nI i)) (itJ (tcl (nI i))) 0 c hP
        generalize rlL L (nI i) (tcl (nI i)) (itJ (tcl (nI i))) 0 c = s at h q1 q2 ⊢
        obtain ⟨s1, s2⟩ := s
        cases s1 with
        | false => rw [rlE_f] at h; exact absurd rfl h
        | true =>
          have e1 : rlE L (nI i) (true, s2) = rlZ (nI i) (stp L s2) := if_neg (fun z => Bool.noConfusion z)
          rw [e1] at h ⊢
          obtain ⟨p1, p2⟩ := stp_l q1
          have zC : CNT (stp L s2) nv nc nf nl := hC.to (fun l hl => (p2 l (by omega)).trans (q2 l (by omega) (by omega) (by omega)))
          generalize stp L s2 = z at h p1 p2 zC ⊢
          by_cases h5 : z 5 1 = 3
          · obtain ⟨⟨qv, qv6⟩, ⟨qc, qc8⟩, ⟨qf, qf3⟩, ⟨ql, ql8⟩⟩ := id zC
            have e2 : rlZ (nI i) z = (1, keepF nv nc nf nl (nI i) z) := by rw [rlZ, if_pos h5, qv, qc, qf, ql, tcl_nI (by omega), tcl_nI (by omega), tcl_nI (by omega), tcl_nI (by omega)]
            rw [e2]
            obtain ⟨u1, u2⟩ := keep_C hi7 zC m1 m2 m4 m5
            exact ⟨p1.to (u1 1 (by decide)) (u1 5 (by decide)), fun l hl => (u1 l (by omega)).trans ((p2 l (by omega)).trans (q2 l (by omega) (by omega) (by omega))), u2⟩
          · rw [rlZ, if_neg h5] at h; exact absurd rfl h
      · rw [if_pos h3] at h; exact absurd rfl h
    · rw [if_pos h2] at h; exact absurd rfl h
def rdR (L : Nat) : Nat → CT → Int32 × CT
  | 0, c => (1, c)
  | k + 1, c => if stp L c 5 1 = 0 then (1, stp L c) else if (rlA L (stp L c)).1 = 0 then (0, (rlA L (stp L c)).2) else rdR L k (rlA L (stp L c)).2
def rd0 (c : CT) : CT := tbF (put (put (clrF c) 3 3 0) 3 4 (-1))
def readsF (L : Nat) (c : CT) : Int32 × CT := rdR L (L + 1) (rd0 c)
theorem rd0_l {c : CT} {l : Nat} (h : l < 3) : rd0 c l = c l := by
  rw [rd0, tbF, put_ne (by omega), put_ne (by omega), put_ne (by omega), put_ne (by omega), put_ne (by omega), put_ne (by omega), clrF, put_ne (by omega), put_ne (by omega), put_ne (by omega), put_ne (by omega), st1_ne (by omega), put_ne (by omega), put_ne (by omega), put_ne (by omega), put_ne (by omega)]
theorem rd0_C {c : CT} : CNT (rd0 c) 0 0 0 0 := by
  have e : ∀ l, l ≠ 3 → l ≠ 5 → rd0 c l = clrF c l := fun l a b => by rw [rd0, tbF, put_ne b, put_ne b, put_ne b, put_ne b, put_ne a, put_ne a]
  have z : (0 : Int32) = nI 0 := rfl
  refine ⟨⟨?_, by decide⟩, ⟨?_, by decide⟩, ⟨?_, by decide⟩, ⟨?_, by decide⟩⟩
  · rw [e 17 (by decide) (by decide), clrF, put_ne (by decide), put_ne (by decide), put_ne (by decide), put_ne (by decide), st1_ne (by decide), put_ne (by decide), put_ne (by decide), put_ne (by decide), put_at]; rfl
  · rw [e 19 (by decide) (by decide), clrF, put_ne (by decide), put_ne (by decide), put_ne (by decide), put_ne (by decide), st1_ne (by decide), put_ne (by decide), put_ne (by decide), put_at]; rfl
  · rw [e 21 (by decide) (by decide), clrF, put_ne (by decide), put_ne (by decide), put_ne (by decide), put_ne (by decide), st1_ne (by decide), put_ne (by decide), put_at]; rfl
  · rw [e 23 (by decide) (by decide), clrF, put_ne (by decide), put_ne (by decide), put_ne (by decide), put_ne (by decide), st1_ne (by decide), put_at]; rfl
theorem rd0_P {L : Nat} {c : CT} (h1 : c 1 1 = nI L) (hL : L ≤ 1600) : PT L (rd0 c) := by
  refine ⟨by rw [rd0_l (by decide)]; exact h1, hL, 0, ?_, Nat.zero_le _⟩
  rw [rd0, tbF, put_no (by decide), put_at]; rfl
theorem rdR_s {L k : Nat} {y : CT} (z : CT) (ez : stp L y = z) : rdR L (k + 1) y = if z 5 1 = 0 then ((1 : Int32), z) else if (rlA L z).1 = 0 then (0, (rlA L z).2) else rdR L k (rlA L z).2 := by rw [← ez, rdR]
theorem rdR_C {L : Nat} : ∀ (k : Nat) (y : CT) (nv nc nf nl : Nat), PT L y → CNT y nv nc nf nl → ¬ (rdR L k y).1 = 0 → ∃ a b e d, CNT (rdR L k y).2 a b e d := by
  intro k
  induction k with
  | zero =>
    intro y nv nc nf nl _ hC _
    have e : rdR L 0 y = (1, y) := rfl
    rw [e]
    exact ⟨nv, nc, nf, nl, hC⟩
  | succ k ih =>
    intro y nv nc nf nl hP hC h
    obtain ⟨p1, p2⟩ := stp_l hP
    have zC : CNT (stp L y) nv nc nf nl := hC.to (fun l hl => p2 l (by omega))
    obtain ⟨z, ez⟩ : ∃ z, stp L y = z := ⟨_, rfl⟩
    rw [ez] at p1 zC
    have eR := rdR_s (k := k) z ez
    by_cases h1 : z 5 1 = 0
    · rw [if_pos h1] at eR
      rw [eR]
      exact ⟨nv, nc, nf, nl, zC⟩
    · rw [if_neg h1] at eR
      by_cases h2 : (rlA L z).1 = 0
      · rw [if_pos h2] at eR
        rw [eR] at h
        exact absurd rfl h
      · obtain ⟨v1, -, a1, a2, a3, a4, v2⟩ := rlA_ok p1 zC h2
        rw [if_neg h2] at eR
        obtain ⟨u, eu⟩ : ∃ u, (rlA L z).2 = u := ⟨_, rfl⟩
        rw [eu] at v1 v2 eR
        rw [eR] at h ⊢
        exact ih u a1 a2 a3 a4 v1 v2 h
theorem readsF_C {L : Nat} {c : CT} (h1 : c 1 1 = nI L) (hL : L ≤ 1600) (h : ¬ (readsF L c).1 = 0) : ∃ a b e d, CNT (readsF L c).2 a b e d := rdR_C (L + 1) (rd0 c) 0 0 0 0 (rd0_P h1 hL) rd0_C h
theorem CNT.pn {c : CT} {nv nc nf nl : Nat} (h : CNT c nv nc nf nl) : PN (fun k => c (16 + k)) 0 := by
  obtain ⟨⟨qv, qv6⟩, ⟨qc, qc8⟩, ⟨qf, qf3⟩, ⟨ql, ql8⟩⟩ := h
  refine ⟨?_, ?_, ?_, ?_⟩
  · show c 17 2 ≤ nI 6; rw [qv]; exact nI_le qv6 (by decide)
  · show c 19 2 ≤ nI 8; rw [qc]; exact nI_le qc8 (by decide)
  · show c 21 2 ≤ nI 3; rw [qf]; exact nI_le qf3 (by decide)
  · show c 23 2 ≤ nI 8; rw [ql]; exact nI_le ql8 (by decide)
theorem IX.pn {c : CT} {nv nc nf nl wk : Nat} (h : IX c nv nc nf nl wk) : PN (fun k => c (6 + k)) 0 := by
  obtain ⟨qv, qv6, qc, qc8, qf, qf3, ql, ql8, -⟩ := h
  refine ⟨?_, ?_, ?_, ?_⟩
  · show c 7 2 ≤ nI 6; rw [qv]; exact nI_le qv6 (by decide)
  · show c 9 2 ≤ nI 8; rw [qc]; exact nI_le qc8 (by decide)
  · show c 11 2 ≤ nI 3; rw [qf]; exact nI_le qf3 (by decide)
  · show c 13 2 ≤ nI 8; rw [ql]; exact nI_le ql8 (by decide)
theorem reads_w (G : GX) (X : XC) {b : Nat} {co : Nat → Nat → Option Nat} {r : Nat → Option AE} {n : Nat} {L : Nat} {R : Int32 × CT} (hL2 : L ≤ 1600) : ∀ (k i : Nat) (y : CT) (nv nc nf nl : Nat), i + k = L + 1 → PT L y → CNT y nv nc nf nl → rdR L k y = R → WA X G RX4 cX4_reads false (some .boolean) (qI fun x9 h1 => x9 = R.1 ∧ h1 = HC b R.2 co r n) 9 0 0 (HC b y co r n) 0 0 23 [some (.ref (b + 3)), some (.ref (b + 16)), some (.int (nI i))] [] := by
  intro k
  induction k with
  | zero =>
    intro i y nv nc nf nl hk hP hC hT
    obtain ⟨hy1, -, p, hp, hp2⟩ := id hP
    refine A_iload_n dX4_reads_23 rfl rfl ?_
    refine A_aload_n dX4_reads_24 rfl rfl ?_
    refine A_get dX4_reads_25 f_X4_15 (HC_at (by decide)) rfl ?_
    refine A_get dX4_reads_28 f_X4_43 (HC_at (by decide)) rfl ?_
    refine A_icmp_gt 69 dX4_reads_31 (by decide) (fun c31 => ?_) (fun c31 => ?_)
    · refine A_iconst (v := 1) dX4_reads_69 (by decide) ?_
      exact A_zret dX4_reads_70 rfl ⟨by rw [← hT]; rfl, by rw [← hT]; rfl⟩ ⟨by decide, by decide⟩
    · exact absurd (by rw [hy1]; exact nI_lt (by omega) (by omega)) c31
  | succ k ih =>
    intro i y nv nc nf nl hk hP hC hT
    obtain ⟨hy1, -, p, hp, hp2⟩ := id hP
    refine A_iload_n dX4_reads_23 rfl rfl ?_
    refine A_aload_n dX4_reads_24 rfl rfl ?_
    refine A_get dX4_reads_25 f_X4_15 (HC_at (by decide)) rfl ?_
    refine A_get dX4_reads_28 f_X4_43 (HC_at (by decide)) rfl ?_
    refine A_icmp_gt 69 dX4_reads_31 (by decide) (fun c31 => ?_) (fun c31 => ?_)
    · exact absurd c31 (by rw [hy1]; exact nI_nlt (by omega) (by omega))
    · refine A_aload_n dX4_reads_34 rfl rfl ?_
      refine A_get dX4_reads_35 f_X4_24 (HC_at (by decide)) rfl ?_
      refine A_callVv dX4_reads_38 m_X4_48 cb_X7_step (As := []) rfl (HC_at (by decide)) rfl (c_step G (L := L) hy1 hL2 hp hp2) rfl ⟨by decide, by decide⟩ (Nat.le_of_ble_eq_true rfl) ⟨by decide, by decide⟩ (fun h38 hq => ?_)
      obtain rfl := hq
      obtain ⟨TK, PZ, zl, es⟩ := stp_I hy1 hL2 hp hp2
      rw [es]
      have hz1 := PZ.1
      have hT2 : (if stp L y 5 1 = 0 then ((1 : Int32), stp L y) else if (rlA L (stp L y)).1 = 0 then (0, (rlA L (stp L y)).2) else rdR L k (rlA L (stp L y)).2) = R := by rw [← hT, rdR]
      obtain ⟨z, ez⟩ : ∃ z, stp L y = z := ⟨_, rfl⟩
      rw [ez] at PZ zl hz1 hT2 ⊢
      have hzC : CNT z nv nc nf nl := hC.to (fun l hl => zl l (by omega))
      refine A_aload_n dX4_reads_41 rfl rfl ?_
      refine A_get dX4_reads_42 f_X4_24 (HC_at (by decide)) rfl ?_
      refine A_get dX4_reads_45 f_X4_51 (HC_at (by decide)) rfl ?_
      refine A_if_ne 53 dX4_reads_48 (by decide) (fun c48 => ?_) (fun c48 => ?_)
      · refine A_aload_n dX4_reads_53 rfl rfl ?_
        refine A_aload_n dX4_reads_54 rfl rfl ?_
        obtain ⟨-, -, p2, hp3, hp4⟩ := id PZ
        rw [if_neg c48] at hT2
        refine A_callVi dX4_reads_55 m_X4_54 cb_X4_readsLine (As := [_]) rfl (HC_at (by decide)) rfl (c_readsLine G hz1 hL2 hp3 hp4 hzC) rfl ⟨by decide, by decide⟩ (Nat.le_of_ble_eq_true rfl) ⟨by decide, by decide⟩ (fun x55 h55 hq => ?_)
        obtain ⟨rfl, rfl⟩ := hq
        refine A_if_ne 63 dX4_reads_58 (by decide) (fun c58 => ?_) (fun c58 => ?_)
        · refine A_inc 1 (lv1 := [_, _, _]) dX4_reads_63 rfl (by decide) rfl rfl ?_
          refine A_goto 23 dX4_reads_66 (by decide) ?_
          rw [nI_1]
          obtain ⟨v1, -, a1, a2, a3, a4, v2⟩ := rlA_ok PZ hzC c58
          exact ih (i + 1) _ a1 a2 a3 a4 (by omega) v1 v2 (by rw [← hT2, if_neg c58])
        · refine A_iconst (v := 0) dX4_reads_61 (by decide) ?_
          exact A_zret dX4_reads_62 rfl ⟨by rw [← hT2, if_pos c58], by rw [← hT2, if_pos c58]⟩ ⟨by decide, by decide⟩
      · refine A_iconst (v := 1) dX4_reads_51 (by decide) ?_
        exact A_zret dX4_reads_52 rfl ⟨by rw [← hT2, if_pos c48], by rw [← hT2, if_pos c48]⟩ ⟨by decide, by decide⟩

theorem c_reads (G : GX) {b : Nat} {c : CT} {co : Nat → Nat → Option Nat} {r : Nat → Option AE} {n : Nat} {L : Nat} (hL : c 1 1 = nI L) (hL2 : L ≤ 1600) : MA G 9 yX4_reads cX4_reads 3 (some .boolean) 0 0 [.ref (b + 3), .ref (b + 16)] (HC b c co r n) (qI fun x9 h1 => x9 = (readsF L c).1 ∧ h1 = HC b (readsF L c).2 co r n) := by
  refine MA.of (own := RX4) false [some (.ref (b + 3)), some (.ref (b + 16)), none] (by decide +kernel) rfl (fun h => by cases h) (Nat.le_of_ble_eq_true rfl) rfl (fun X => ?_)
  refine A_aload_n dX4_reads_0 rfl rfl ?_
  refine A_callVv dX4_reads_1 m_X4_32 cb_X2_clear (As := []) rfl (HC_at (by decide)) rfl (c_clear G) rfl ⟨by decide, by decide⟩ (Nat.le_of_ble_eq_true rfl) ⟨by decide, by decide⟩ (fun h1 hq => ?_)
  obtain rfl := hq
  refine A_aload_n dX4_reads_4 rfl rfl ?_
  refine A_iconst (v := 0) dX4_reads_5 (by decide) ?_
  refine A_putC 3 dX4_reads_6 p_X4_37 (by decide) rfl (Nat.le_of_ble_eq_true rfl) rfl ?_
  refine A_aload_n dX4_reads_9 rfl rfl ?_
  refine A_iconst (v := (-1)) dX4_reads_10 (by decide) ?_
  refine A_putC 4 dX4_reads_11 p_X4_28 (by decide) rfl (Nat.le_of_ble_eq_true rfl) rfl ?_
  refine A_aload_n dX4_reads_14 rfl rfl ?_
  refine A_get dX4_reads_15 f_X4_24 (HC_at (by decide)) rfl ?_
  refine A_callVv dX4_reads_18 m_X4_40 cb_X7_begin (As := []) rfl (HC_at (by decide)) rfl (c_tokBegin G) rfl ⟨by decide, by decide⟩ (Nat.le_of_ble_eq_true rfl) ⟨by decide, by decide⟩ (fun h18 hq => ?_)
  obtain rfl := hq
  refine A_iconst (v := 0) dX4_reads_21 (by decide) ?_
  refine A_istore_n (lv1 := [_, _, _]) dX4_reads_22 rfl (Nat.le_of_ble_eq_true rfl) rfl rfl ?_
  exact reads_w G X hL2 (L + 1) 0 (rd0 c) 0 0 0 0 (by omega) (rd0_P hL hL2) rd0_C rfl
