/-! THE REFERENCE: MARKS -/
def SL (S : Nat → Option ST) (m : CT) (ml : Nat → Nat → Int64) : Prop := ∀ j, j < 4 → (S j = none → m 17 j = -1) ∧ ∀ a q w N f, S j = some (a, q, w, N, f) → m 17 j = nI N ∧ N ≤ 60 ∧ m 18 j = w ∧ (w = 0 ∨ w = 1 ∨ w = 2 ∨ w = 3) ∧ ∀ i, i < 60 → ml 19 (60 * j + i) = f i
theorem SL.to {S : Nat → Option ST} {m m1 : CT} {ml ml1 : Nat → Nat → Int64} (h : SL S m ml) (e1 : m1 17 = m 17) (e2 : m1 18 = m 18) (e3 : ml1 19 = ml 19) : SL S m1 ml1 := by unfold SL at *; rw [e1, e2, e3]; exact h
theorem inL_l {v : Int64} {k : Nat} (hk : k < 2 ^ 31) : inL v 0 (nI k - 1).toInt64 = if ¬ v < 0 ∧ v < (nI k).toInt64 then 1 else 0 := by
  have e : ((nI k - 1).toInt64 < v) ↔ ¬ v < (nI k).toInt64 := by
    rw [Int64.lt_iff_toInt_lt, Int64.lt_iff_toInt_lt, Int32.toInt_toInt64, Int32.toInt_toInt64, nI_toInt hk, show (1 : Int32) = nI 1 from rfl, nI_m1_toInt hk]
    omega
  simp only [inL, e]
  by_cases a : v < 0 <;> by_cases b : v < (nI k).toInt64 <;> simp [a, b]
theorem mk_e {f : Nat → Int64} {nv wk i : Nat} (h1 : ¬ inL (f (3 * i)) 0 (nI nv - 1).toInt64 = 0) (h2 : ¬ inL (f (3 * i + 1)) 0 (nI wk - 1).toInt64 = 0) (hv : nv < 2 ^ 31) (hw : wk < 2 ^ 31) : mkOk f nv wk i = true := by
  rw [inL_l hv] at h1
  rw [inL_l hw] at h2
  have a : ¬ f (3 * i) < 0 ∧ f (3 * i) < (nI nv).toInt64 := by by_cases z : ¬ f (3 * i) < 0 ∧ f (3 * i) < (nI nv).toInt64; exact z; exact absurd (if_neg z) h1
  have b : ¬ f (3 * i + 1) < 0 ∧ f (3 * i + 1) < (nI wk).toInt64 := by by_cases z : ¬ f (3 * i + 1) < 0 ∧ f (3 * i + 1) < (nI wk).toInt64; exact z; exact absurd (if_neg z) h2
  rw [mkOk, decide_eq_true_eq]
  exact ⟨a.1, a.2, b.1, b.2⟩
theorem mk_n1 {f : Nat → Int64} {nv wk i : Nat} (h1 : inL (f (3 * i)) 0 (nI nv - 1).toInt64 = 0) (hv : nv < 2 ^ 31) : ¬ mkOk f nv wk i = true := by
  rw [inL_l hv] at h1
  intro z
  rw [mkOk, decide_eq_true_eq] at z
  rw [if_pos ⟨z.1, z.2.1⟩] at h1
  exact absurd h1 (by decide)
theorem mk_n2 {f : Nat → Int64} {nv wk i : Nat} (h1 : inL (f (3 * i + 1)) 0 (nI wk - 1).toInt64 = 0) (hw : wk < 2 ^ 31) : ¬ mkOk f nv wk i = true := by
  rw [inL_l hw] at h1
  intro z
  rw [mkOk, decide_eq_true_eq] at z
  rw [if_pos z.2.2] at h1
  exact absurd h1 (by decide)
theorem k_isSlot (G : GX) {h : AH} {v : Int32} : MA G 1 yX10_isSlot cX10_isSlot 1 (some .boolean) 0 0 [.int v] h (qI fun x9 h1 => x9 = inI v 4 ∧ h1 = h) := by
  refine MA.of (own := RX10) false [some (.int v)] (by decide +kernel) rfl (fun h => by cases h) (Nat.le_of_ble_eq_true rfl) rfl (fun X => ?_)
  refine A_iload_n dX10_isSlot_0 rfl rfl ?_
  refine A_i2l dX10_isSlot_1 ?_
  refine A_lconst (v := 0) dX10_isSlot_2 (by decide) ?_
  refine A_ldc2 dX10_isSlot_3 w_1504 ?_
  refine A_callSi dX10_isSlot_6 m_X10_85 cb_X10_in (As := [_, _, _]) rfl (k_in G) rfl ⟨by decide, by decide⟩ (Nat.le_of_ble_eq_true rfl) ⟨by decide, by decide⟩ (fun x6 h6 hq => ?_)
  obtain ⟨rfl, rfl⟩ := hq
  exact A_zret dX10_isSlot_9 (by unfold inL; split <;> rfl) ⟨inL_n 3 (by decide) (by decide), rfl⟩ ⟨by decide, by decide⟩

theorem k_asksMarks (G : GX) {b : Nat} {c m : CT} {ml : Nat → Nat → Int64} {r : Nat → Option AE} {n : Nat} {nv nc nf nl wk : Nat} {S : Nat → Option ST} {s is : Int32} (h : BL nv nc nf nl wk c m) (hS : SL S m ml) : MA G 2 yX10_asksMarks cX10_asksMarks 4 (some .int) 0 0 [.ref b, .int s, .int is] (HM b m ml r n) (qI fun x9 h1 => x9 = mwA c S nv wk s (¬ is = 0) ∧ h1 = HM b m ml r n) := by
  refine MA.of (own := RX10) false [some (.ref b), some (.int s), some (.int is), none] (by decide +kernel) rfl (fun h => by cases h) (Nat.le_of_ble_eq_true rfl) rfl (fun X => ?_)
  have hX := h.ix
  obtain ⟨xv, xv6, xc, xc8, xf, xf3, xl, xl8, xw, xw30, xC, xL⟩ := id hX
  have hI := h.im
  obtain ⟨hv, hv6, hc, hc8, hf, hf3, hl, hl8, hw, hw30, gC, gL⟩ := id hI
  have hT := h.tm
  refine A_iload_n dX10_asksMarks_0 rfl rfl ?_
  refine A_callSi dX10_asksMarks_1 m_X10_383 cb_X10_isSlot (As := [_]) rfl (k_isSlot G) rfl ⟨by decide, by decide⟩ (Nat.le_of_ble_eq_true rfl) ⟨by decide, by decide⟩ (fun x1 h1 hq => ?_)
  obtain ⟨rfl, rfl⟩ := hq
  refine A_if_eq 18 dX10_asksMarks_4 (by decide) (fun c4 => ?_) (fun c4 => ?_)
  · refine A_bipush (v := (-2)) dX10_asksMarks_18 (by decide) ?_
    exact A_iret dX10_asksMarks_20 ⟨by rw [mwA, if_neg (fun z => z.2.1 c4)], rfl⟩ ⟨by decide, by decide⟩
  · refine A_aload_n dX10_asksMarks_7 rfl rfl ?_
    refine A_callVi dX10_asksMarks_8 m_X10_322 cb_X10_isPlain (As := []) rfl HM_at0 rfl (k_isPlain G) rfl ⟨by decide, by decide⟩ (Nat.le_of_ble_eq_true rfl) ⟨by decide, by decide⟩ (fun x8 h8 hq => ?_)
    obtain ⟨rfl, rfl⟩ := hq
    refine A_eqI (pl_i h) ?_
    refine A_if_eq 18 dX10_asksMarks_11 (by decide) (fun c11 => ?_) (fun c11 => ?_)
    · refine A_bipush (v := (-2)) dX10_asksMarks_18 (by decide) ?_
      exact A_iret dX10_asksMarks_20 ⟨by rw [mwA, if_neg (fun z => by rw [if_pos z.1] at c11; exact absurd c11 (by decide))], rfl⟩ ⟨by decide, by decide⟩
    · refine A_iload_n dX10_asksMarks_14 rfl rfl ?_
      refine A_if_ne 21 dX10_asksMarks_15 (by decide) (fun c15 => ?_) (fun c15 => ?_)
      · have hp : 0 < c 6 5 := by by_cases z : 0 < c 6 5; exact z; exact absurd (if_neg z) c11
        obtain ⟨j, hj, rfl⟩ := inI_of (k := 4) rfl c4 (by decide)
        have hsj := hS j hj
        rcases hs : S j with _ | ⟨a, q, w, N, f⟩
        · have eA : mwA c S nv wk (nI j) (¬ is = 0) = -6 := by rw [mwA, if_pos ⟨hp, c4, c15⟩, tcl_nI (by omega), hs]
          rw [eA]
          refine A_aload_n dX10_asksMarks_21 rfl rfl ?_
          refine A_get dX10_asksMarks_22 f_X10_67 HM_at0 rfl ?_
          refine A_iload_n dX10_asksMarks_25 rfl rfl ?_
          refine A_ialdK (i := j) dX10_asksMarks_26 (HM_at (by decide)) rfl (by omega) (by decide) ?_
          refine A_eqI (hsj.1 hs) ?_
          refine A_iconst (v := (-1)) dX10_asksMarks_27 (by decide) ?_
          refine A_icmp_ne 34 dX10_asksMarks_28 (by decide) (fun c28 => ?_) (fun c28 => ?_)
          · exact absurd rfl c28
          · refine A_bipush (v := (-6)) dX10_asksMarks_31 (by decide) ?_
            exact A_iret dX10_asksMarks_33 ⟨rfl, rfl⟩ ⟨by decide, by decide⟩
        · obtain ⟨e17, hN60, e18, hw3, e19⟩ := hsj.2 a q w N f hs
          have eA : mwA c S nv wk (nI j) (¬ is = 0) = if N % 3 = 0 then mwR f nv wk 0 (N / 3) else -2 := by rw [mwA, if_pos ⟨hp, c4, c15⟩, tcl_nI (by omega), hs]
          rw [eA]
          refine A_aload_n dX10_asksMarks_21 rfl rfl ?_
          refine A_get dX10_asksMarks_22 f_X10_67 HM_at0 rfl ?_
          refine A_iload_n dX10_asksMarks_25 rfl rfl ?_
          refine A_ialdK (i := j) dX10_asksMarks_26 (HM_at (by decide)) rfl (by omega) (by decide) ?_
          refine A_eqI e17 ?_
          refine A_iconst (v := (-1)) dX10_asksMarks_27 (by decide) ?_
          refine A_icmp_ne 34 dX10_asksMarks_28 (by decide) (fun c28 => ?_) (fun c28 => ?_)
          · refine A_aload_n dX10_asksMarks_34 rfl rfl ?_
            refine A_get dX10_asksMarks_35 f_X10_67 HM_at0 rfl ?_
            refine A_iload_n dX10_asksMarks_38 rfl rfl ?_
            refine A_ialdK (i := j) dX10_asksMarks_39 (HM_at (by decide)) rfl (by omega) (by decide) ?_
            refine A_eqI e17 ?_
            refine A_iconst (v := 3) dX10_asksMarks_40 (by decide) ?_
            refine A_irem dX10_asksMarks_41 (by decide) ?_
            refine A_eqI (y := nI (N % 3)) (pk_rem (d := 3) (by omega) (by decide) (by decide)) ?_
            refine A_if_eq 48 dX10_asksMarks_42 (by decide) (fun c42 => ?_) (fun c42 => ?_)
            · have q9 : N % 3 = 0 := (nI_eq (b := 0) (by omega) (by decide)).mp c42
              refine A_iconst (v := 0) dX10_asksMarks_48 (by decide) ?_
              refine A_istore_n (lv1 := [_, _, _, _]) dX10_asksMarks_49 rfl (Nat.le_of_ble_eq_true rfl) rfl rfl ?_
              rw [if_pos q9]
              have loop : ∀ (k i : Nat), i + k = N / 3 → mwR f nv wk i k = mwR f nv wk 0 (N / 3) → WA X G RX10 cX10_asksMarks false (some .int) (qI fun x9 h1 => x9 = mwR f nv wk 0 (N / 3) ∧ h1 = HM b m ml r n) 2 0 0 (HM b m ml r n) 0 0 50 [some (.ref b), some (.int (nI j)), some (.int is), some (.int (nI (3 * i)))] [] := by
                intro k
                induction k with
                | zero =>
                  intro i hk hR
                  refine A_iload_n dX10_asksMarks_50 rfl rfl ?_
                  refine A_aload_n dX10_asksMarks_51 rfl rfl ?_
                  refine A_get dX10_asksMarks_52 f_X10_67 HM_at0 rfl ?_
                  refine A_iload_n dX10_asksMarks_55 rfl rfl ?_
                  refine A_ialdK (i := j) dX10_asksMarks_56 (HM_at (by decide)) rfl (by omega) (by decide) ?_
                  refine A_eqI e17 ?_
                  refine A_icmp_ge 123 dX10_asksMarks_57 (by decide) (fun c57 => ?_) (fun c57 => ?_)
                  · refine A_iconst (v := 0) dX10_asksMarks_123 (by decide) ?_
                    exact A_iret dX10_asksMarks_124 ⟨by rw [← hR, mwR], rfl⟩ ⟨by decide, by decide⟩
                  · exact absurd (nI_le (a := N) (b := 3 * i) (by omega) (by omega)) c57
                | succ k ih =>
                  intro i hk hR
                  have f1 : ml 19 (60 * j + 3 * i) = f (3 * i) := e19 (3 * i) (by omega)
                  have f2 : ml 19 (60 * j + 3 * i + 1) = f (3 * i + 1) := e19 (3 * i + 1) (by omega)
                  refine A_iload_n dX10_asksMarks_50 rfl rfl ?_
                  refine A_aload_n dX10_asksMarks_51 rfl rfl ?_
                  refine A_get dX10_asksMarks_52 f_X10_67 HM_at0 rfl ?_
                  refine A_iload_n dX10_asksMarks_55 rfl rfl ?_
                  refine A_ialdK (i := j) dX10_asksMarks_56 (HM_at (by decide)) rfl (by omega) (by decide) ?_
                  refine A_eqI e17 ?_
                  refine A_icmp_ge 123 dX10_asksMarks_57 (by decide) (fun c57 => ?_) (fun c57 => ?_)
                  · exact absurd c57 (nI_ge (by omega) (by omega))
                  · refine A_aload_n dX10_asksMarks_60 rfl rfl ?_
                    refine A_get dX10_asksMarks_61 f_X10_73 HM_at0 rfl ?_
                    refine A_bipush (v := 60) dX10_asksMarks_64 (by decide) ?_
                    refine A_iload_n dX10_asksMarks_66 rfl rfl ?_
                    refine A_imul dX10_asksMarks_67 ?_
                    refine A_iload_n dX10_asksMarks_68 rfl rfl ?_
                    refine A_iadd dX10_asksMarks_69 ?_
                    refine A_laldK (i := ((60 * j) + (3 * i))) dX10_asksMarks_70 (HM_at (by decide)) (ixA (ixU rfl rfl) rfl) (by omega) (by decide) ?_
                    refine A_eqL f1 ?_
                    refine A_lconst (v := 0) dX10_asksMarks_71 (by decide) ?_
                    refine A_aload_n dX10_asksMarks_72 rfl rfl ?_
                    refine A_callVi dX10_asksMarks_73 m_X10_89 cb_X10_villages (As := []) rfl HM_at0 rfl (k_villages G) rfl ⟨by decide, by decide⟩ (Nat.le_of_ble_eq_true rfl) ⟨by decide, by decide⟩ (fun x73 h73 hq => ?_)
                    obtain ⟨rfl, rfl⟩ := hq
                    rw [hv]
                    refine A_iconst (v := 1) dX10_asksMarks_76 (by decide) ?_
                    refine A_isub dX10_asksMarks_77 ?_
                    refine A_i2l dX10_asksMarks_78 ?_
                    refine A_callSi dX10_asksMarks_79 m_X10_85 cb_X10_in (As := [_, _, _]) rfl (k_in G) rfl ⟨by decide, by decide⟩ (Nat.le_of_ble_eq_true rfl) ⟨by decide, by decide⟩ (fun x79 h79 hq => ?_)
                    obtain ⟨rfl, rfl⟩ := hq
                    refine A_if_eq 114 dX10_asksMarks_82 (by decide) (fun c82 => ?_) (fun c82 => ?_)
                    · refine A_bipush (v := (-2)) dX10_asksMarks_114 (by decide) ?_
                      exact A_iret dX10_asksMarks_116 ⟨by rw [← hR, mwR, if_neg (mk_n1 c82 (by omega))], rfl⟩ ⟨by decide, by decide⟩
                    · refine A_aload_n dX10_asksMarks_85 rfl rfl ?_
                      refine A_get dX10_asksMarks_86 f_X10_73 HM_at0 rfl ?_
                      refine A_bipush (v := 60) dX10_asksMarks_89 (by decide) ?_
                      refine A_iload_n dX10_asksMarks_91 rfl rfl ?_
                      refine A_imul dX10_asksMarks_92 ?_
                      refine A_iload_n dX10_asksMarks_93 rfl rfl ?_
                      refine A_iadd dX10_asksMarks_94 ?_
                      refine A_iconst (v := 1) dX10_asksMarks_95 (by decide) ?_
                      refine A_iadd dX10_asksMarks_96 ?_
                      refine A_laldK (i := (((60 * j) + (3 * i)) + 1)) dX10_asksMarks_97 (HM_at (by decide)) (ixA (ixA (ixU rfl rfl) rfl) rfl) (by omega) (by decide) ?_
                      refine A_eqL f2 ?_
                      refine A_lconst (v := 0) dX10_asksMarks_98 (by decide) ?_
                      refine A_aload_n dX10_asksMarks_99 rfl rfl ?_
                      refine A_get dX10_asksMarks_100 f_X10_9 HM_at0 rfl ?_
                      refine A_iconst (v := 5) dX10_asksMarks_103 (by decide) ?_
                      refine A_ialdK (i := 5) dX10_asksMarks_104 (HM_at (by decide)) rfl (by omega) (by decide) ?_
                      rw [hw]
                      refine A_iconst (v := 1) dX10_asksMarks_105 (by decide) ?_
                      refine A_isub dX10_asksMarks_106 ?_
                      refine A_i2l dX10_asksMarks_107 ?_
                      refine A_callSi dX10_asksMarks_108 m_X10_85 cb_X10_in (As := [_, _, _]) rfl (k_in G) rfl ⟨by decide, by decide⟩ (Nat.le_of_ble_eq_true rfl) ⟨by decide, by decide⟩ (fun x108 h108 hq => ?_)
                      obtain ⟨rfl, rfl⟩ := hq
                      refine A_if_ne 117 dX10_asksMarks_111 (by decide) (fun c111 => ?_) (fun c111 => ?_)
                      · refine A_inc 3 (lv1 := [_, _, _, _]) dX10_asksMarks_117 rfl (by decide) rfl rfl ?_
                        refine A_goto 50 dX10_asksMarks_120 (by decide) ?_
                        rw [nI_3]
                        exact ih (i + 1) (by omega) (by rw [← hR, mwR, if_pos (mk_e c82 c111 (by omega) (by omega))])
                      · refine A_bipush (v := (-2)) dX10_asksMarks_114 (by decide) ?_
                        exact A_iret dX10_asksMarks_116 ⟨by rw [← hR, mwR, if_neg (mk_n2 c111 (by omega))], rfl⟩ ⟨by decide, by decide⟩
              exact loop (N / 3) 0 (by omega) rfl
            · have q9 : ¬ N % 3 = 0 := fun z => c42 (by rw [z]; rfl)
              refine A_bipush (v := (-2)) dX10_asksMarks_45 (by decide) ?_
              exact A_iret dX10_asksMarks_47 ⟨by rw [if_neg q9], rfl⟩ ⟨by decide, by decide⟩
          · exact absurd c28 (fun z => by have e := congrArg Int32.toInt z; rw [nI_toInt (by omega)] at e; have : (-1 : Int32).toInt = -1 := rfl; omega)
      · refine A_bipush (v := (-2)) dX10_asksMarks_18 (by decide) ?_
        exact A_iret dX10_asksMarks_20 ⟨by rw [mwA, if_neg (fun z => z.2.2 c15)], rfl⟩ ⟨by decide, by decide⟩

def agQ (e : Nat → Int32) (f : Nat → Int64) (but : Int32) : Nat → Bool
  | 0 => true
  | i + 1 => agQ e f but i && (decide (nI i = but) || decide (f (3 * i + 2) = (e (tcl (f (3 * i)).toInt32 * 30 + tcl (f (3 * i + 1)).toInt32)).toInt64))
theorem ag_f {e : Nat → Int32} {f : Nat → Int64} {but : Int32} {i : Nat} (h : ¬ (nI i = but)) (h2 : ¬ f (3 * i + 2) = (e (tcl (f (3 * i)).toInt32 * 30 + tcl (f (3 * i + 1)).toInt32)).toInt64) : ∀ k, agQ e f but (i + 1 + k) = false
  | 0 => by rw [Nat.add_zero, agQ, decide_eq_false h, decide_eq_false h2]; simp
  | k + 1 => by rw [← Nat.add_assoc, agQ, ag_f h h2 k]; rfl
theorem k_agrees (G : GX) {b : Nat} {m : CT} {e : Nat → Int32} {ml : Nat → Nat → Int64} {r : Nat → Option AE} {n j N nv wk : Nat} {f : Nat → Int64} {but : Int32} (hj : j < 4) (e17 : m 17 j = nI N) (hN : N ≤ 60) (h3 : N = 3 * (N / 3)) (e19 : ∀ i, i < 60 → ml 19 (60 * j + i) = f i) (hok : ∀ i, i < N / 3 → mkOk f nv wk i = true) (hv6 : nv ≤ 6) (hw30 : wk ≤ 30) (he : ∀ v w, v < nv → w < wk → m 8 (30 * v + w) = e (v * 30 + w)) : MA G 0 yX10_agrees cX10_agrees 5 (some .boolean) 0 0 [.ref b, .int (nI j), .int but] (HM b m ml r n) (qI fun x9 h1 => x9 = (if agQ e f but (N / 3) = true then 1 else 0) ∧ h1 = HM b m ml r n) := by
  refine MA.of (own := RX10) false [some (.ref b), some (.int (nI j)), some (.int but), none, none] (by decide +kernel) rfl (fun h => by cases h) (Nat.le_of_ble_eq_true rfl) rfl (fun X => ?_)
  have loop : ∀ (k i : Nat), i + k = N / 3 → agQ e f but i = true → WA X G RX10 cX10_agrees false (some .boolean) (qI fun x9 h1 => x9 = (if agQ e f but (N / 3) = true then 1 else 0) ∧ h1 = HM b m ml r n) 0 0 0 (HM b m ml r n) 0 0 2 [some (.ref b), some (.int (nI j)), some (.int but), some (.int (nI i)), none] [] := by
    intro k
    induction k with
    | zero =>
      intro i hk hQ
      refine A_iconst (v := 3) dX10_agrees_2 (by decide) ?_
      refine A_iload_n dX10_agrees_3 rfl rfl ?_
      refine A_imul dX10_agrees_4 ?_
      refine A_aload_n dX10_agrees_5 rfl rfl ?_
      refine A_get dX10_agrees_6 f_X10_67 HM_at0 rfl ?_
      refine A_iload_n dX10_agrees_9 rfl rfl ?_
      refine A_ialdK (i := j) dX10_agrees_10 (HM_at (by decide)) rfl (by omega) (by decide) ?_
      refine A_eqI e17 ?_
      refine A_eqI (y := nI N) rfl ?_
      refine A_icmp_ge 78 dX10_agrees_11 (by decide) (fun c11 => ?_) (fun c11 => ?_)
      · refine A_iconst (v := 1) dX10_agrees_78 (by decide) ?_
        exact A_zret dX10_agrees_79 rfl ⟨by rw [show N / 3 = i by omega, if_pos hQ], rfl⟩ ⟨by decide, by decide⟩
      · exact absurd (nI_le (a := N) (b := 3 * i) (by omega) (by omega)) (fun z => c11 (by rw [show (3 : Int32) = nI 3 from rfl, pk_mul]; exact z))
    | succ k ih =>
      intro i hk hQ
      have hi : i < N / 3 := by omega
      obtain ⟨v, w, hv1, hw1, g1, g2⟩ := mkV (hok i hi) hv6 hw30
      have f0 : ml 19 (60 * j + 3 * i) = f (3 * i) := e19 (3 * i) (by omega)
      have f1 : ml 19 (60 * j + 3 * i + 1) = f (3 * i + 1) := e19 (3 * i + 1) (by omega)
      have f2 : ml 19 (60 * j + 3 * i + 2) = f (3 * i + 2) := e19 (3 * i + 2) (by omega)
      have es : agQ e f but (i + 1) = (decide (nI i = but) || decide (f (3 * i + 2) = (e (v * 30 + w)).toInt64)) := by rw [agQ, hQ, g1, g2, tcl_nI (by omega), tcl_nI (by omega)]; rfl
      refine A_iconst (v := 3) dX10_agrees_2 (by decide) ?_
      refine A_iload_n dX10_agrees_3 rfl rfl ?_
      refine A_imul dX10_agrees_4 ?_
      refine A_aload_n dX10_agrees_5 rfl rfl ?_
      refine A_get dX10_agrees_6 f_X10_67 HM_at0 rfl ?_
      refine A_iload_n dX10_agrees_9 rfl rfl ?_
      refine A_ialdK (i := j) dX10_agrees_10 (HM_at (by decide)) rfl (by omega) (by decide) ?_
      refine A_eqI e17 ?_
      refine A_icmp_ge 78 dX10_agrees_11 (by decide) (fun c11 => ?_) (fun c11 => ?_)
      · exact absurd c11 (fun z => by rw [show (3 : Int32) = nI 3 from rfl, pk_mul] at z; exact nI_ge (by omega) (by omega) z)
      · refine A_bipush (v := 60) dX10_agrees_14 (by decide) ?_
        refine A_iload_n dX10_agrees_16 rfl rfl ?_
        refine A_imul dX10_agrees_17 ?_
        refine A_iconst (v := 3) dX10_agrees_18 (by decide) ?_
        refine A_iload_n dX10_agrees_19 rfl rfl ?_
        refine A_imul dX10_agrees_20 ?_
        refine A_iadd dX10_agrees_21 ?_
        refine A_eqI (y := nI (60 * j + 3 * i)) (ixA (ixU (a := 60) rfl rfl) (ixU (a := 3) rfl rfl)) ?_
        refine A_istore (lv1 := [_, _, _, _, _]) dX10_agrees_22 (Nat.le_of_ble_eq_true rfl) rfl rfl ?_
        refine A_iload_n dX10_agrees_24 rfl rfl ?_
        refine A_iload_n dX10_agrees_25 rfl rfl ?_
        refine A_icmp_eq 72 dX10_agrees_26 (by decide) (fun c26 => ?_) (fun c26 => ?_)
        · refine A_inc 1 (lv1 := [_, _, _, _, _]) dX10_agrees_72 rfl (by decide) rfl rfl ?_
          refine A_goto 2 dX10_agrees_75 (by decide) ?_
          refine A_fg 4 (lv1 := [_, _, _, _, _]) rfl ?_
          rw [nI_1]
          exact ih (i + 1) (by omega) (by rw [es, decide_eq_true c26, Bool.true_or])
        · refine A_aload_n dX10_agrees_29 rfl rfl ?_
          refine A_get dX10_agrees_30 f_X10_37 HM_at0 rfl ?_
          refine A_bipush (v := 30) dX10_agrees_33 (by decide) ?_
          refine A_aload_n dX10_agrees_35 rfl rfl ?_
          refine A_get dX10_agrees_36 f_X10_73 HM_at0 rfl ?_
          refine A_iload dX10_agrees_39 rfl ?_
          refine A_laldK (i := (60 * j + 3 * i)) dX10_agrees_41 (HM_at (by decide)) rfl (by omega) (by decide) ?_
          refine A_eqL f0 ?_
          refine A_l2i dX10_agrees_42 ?_
          refine A_eqI g1 ?_
          refine A_imul dX10_agrees_43 ?_
          refine A_aload_n dX10_agrees_44 rfl rfl ?_
          refine A_get dX10_agrees_45 f_X10_73 HM_at0 rfl ?_
          refine A_iload dX10_agrees_48 rfl ?_
          refine A_iconst (v := 1) dX10_agrees_50 (by decide) ?_
          refine A_iadd dX10_agrees_51 ?_
          refine A_laldK (i := ((60 * j + 3 * i) + 1)) dX10_agrees_52 (HM_at (by decide)) (ixA rfl rfl) (by omega) (by decide) ?_
          refine A_eqL f1 ?_
          refine A_l2i dX10_agrees_53 ?_
          refine A_eqI g2 ?_
          refine A_iadd dX10_agrees_54 ?_
          refine A_eqI (y := nI (30 * v + w)) (ixA (ixU (a := 30) rfl rfl) rfl) ?_
          refine A_ialdN dX10_agrees_55 (HM_at (by decide)) (by omega) (by decide) ?_
          refine A_eqI (he v w hv1 hw1) ?_
          refine A_i2l dX10_agrees_56 ?_
          refine A_aload_n dX10_agrees_57 rfl rfl ?_
          refine A_get dX10_agrees_58 f_X10_73 HM_at0 rfl ?_
          refine A_iload dX10_agrees_61 rfl ?_
          refine A_iconst (v := 2) dX10_agrees_63 (by decide) ?_
          refine A_iadd dX10_agrees_64 ?_
          refine A_laldK (i := ((60 * j + 3 * i) + 2)) dX10_agrees_65 (HM_at (by decide)) (ixA rfl rfl) (by omega) (by decide) ?_
          refine A_eqL f2 ?_
          refine A_lcmp dX10_agrees_66 ?_
          refine A_if_eq 72 dX10_agrees_67 (by decide) (fun c67 => ?_) (fun c67 => ?_)
          · refine A_inc 1 (lv1 := [_, _, _, _, _]) dX10_agrees_72 rfl (by decide) rfl rfl ?_
            refine A_goto 2 dX10_agrees_75 (by decide) ?_
            refine A_fg 4 (lv1 := [_, _, _, _, _]) rfl ?_
            rw [nI_1]
            exact ih (i + 1) (by omega) (by rw [es, decide_eq_true (show f (3 * i + 2) = (e (v * 30 + w)).toInt64 from ((lgc_eq _ _).mp c67).symm), Bool.or_true])
          · refine A_iconst (v := 0) dX10_agrees_70 (by decide) ?_
            exact A_zret dX10_agrees_71 rfl ⟨by rw [if_neg]; rw [show N / 3 = i + 1 + k by omega, ag_f (fun z => c26 z) (fun z => c67 ((lgc_eq _ _).mpr (by rw [z, g1, g2, tcl_nI (by omega), tcl_nI (by omega)])))]; decide, rfl⟩ ⟨by decide, by decide⟩
  refine A_iconst (v := 0) dX10_agrees_0 (by decide) ?_
  refine A_istore_n (lv1 := [_, _, _, _, _]) dX10_agrees_1 rfl (Nat.le_of_ble_eq_true rfl) rfl rfl ?_
  exact loop (N / 3) 0 (by omega) rfl
