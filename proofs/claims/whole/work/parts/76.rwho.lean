/-! THE REFERENCE: who, sure -/
theorem who_loop (G : GX) (X : XC) {b : Nat} {c m : CT} {ml : Nat → Nat → Int64} {r : Nat → Option AE} {n : Nat} {nv nc nf nl wk j N : Nat} {f : Nat → Int64} {A x0 : Int32} {fl : Nat} {u1 u2 : Nat} (hu : u1 = 0 ∧ u2 = 0) (h : BL nv nc nf nl wk c m) (hj : j < 4) (e17 : m 17 j = nI N) (hN : N ≤ 60) (h3 : N = 3 * (N / 3)) (e19 : ∀ i, i < 60 → ml 19 (60 * j + i) = f i) (hok : ∀ i, i < N / 3 → mkOk f nv wk i = true) (hfl : fl < nf) : ∀ (k i : Nat) (m' : CT) (x sm : Int32), i + k = tot nv nf → EM m m' → ((sm = 1 ∧ whM (PM c (N / 3, f)) (sdW nv nf fl) i k x = A) ∨ (sm = 0 ∧ A = -1)) → WA X G RX10 cX10_who false (some .int) (qI fun x9 h1 => x9 = A ∧ ∃ m1 ml1, h1 = HM b m1 ml1 r n ∧ KM m ml m1 ml1) 5 0 0 (HM b m' ml r n) u1 u2 36 [some (.ref b), some (.int (nI j)), some (.int (nI fl)), some (.int x0), some (.int (x)), some (.int (sm)), some (.int (nI (tot nv nf))), some (.int (nI (i))), none] [] := by
  obtain ⟨rfl, rfl⟩ := hu
  have hb := h.nb
  have hw30 := h.ix.2.2.2.2.2.2.2.2.2.1
  have ht := tot_343 (nv := nv) (nf := nf) hb.1 hb.2.2.1
  intro k
  induction k with
  | zero =>
    intro i m' x sm hk E hst
    have e9 : i = tot nv nf := by omega
    subst e9
    refine A_iload dX10_who_36 rfl ?_
    refine A_iload dX10_who_38 rfl ?_
    refine A_icmp_ge 131 dX10_who_40 (by decide) (fun c40 => ?_) (fun c40 => ?_)
    · refine A_aload_n dX10_who_131 rfl rfl ?_
      refine A_callVv dX10_who_132 m_X10_348 cb_X10_bringsTakersBack (As := []) rfl HM_at0 rfl (k_bringsTakersBack G) rfl ⟨by decide, by decide⟩ (Nat.le_of_ble_eq_true rfl) ⟨by decide, by decide⟩ (fun h132 hq => ?_)
      obtain ⟨g, rfl, hg⟩ := hq
      refine A_iload dX10_who_135 rfl ?_
      refine A_if_eq 145 dX10_who_137 (by decide) (fun c137 => ?_) (fun c137 => ?_)
      · refine A_iconst (v := (-1)) dX10_who_145 (by decide) ?_
        exact A_iret dX10_who_146 ⟨by rcases hst with ⟨z1, z2⟩ | ⟨z1, z2⟩; (rw [z1] at c137; exact absurd c137 (by decide)); (exact z2.symm), _, _, rfl, E.back hg, rfl⟩ ⟨by decide, by decide⟩
      · refine A_iload dX10_who_140 rfl ?_
        refine A_goto 146 dX10_who_142 (by decide) ?_
        exact A_iret dX10_who_146 ⟨by rcases hst with ⟨z1, z2⟩ | ⟨z1, z2⟩; (rw [whM] at z2; exact z2); (exact absurd z1 c137), _, _, rfl, E.back hg, rfl⟩ ⟨by decide, by decide⟩
    · exact absurd (nI_le (Nat.le_refl _) (by omega)) c40
  | succ k ih =>
    intro i m' x sm hk E hst
    have hi : i < tot nv nf := by omega
    obtain ⟨S, D⟩ := tk_sim (k := i) h E
    have E2 := (E.tk (nv := nv) (nf := nf) (k := i) hb.2.2.1).run (fl := 7)
    have e172 : runM 7 (st1 m' 1 (tkW m' nv nf i)) 17 j = nI N := by rw [E2.2.2.1 17 (by decide)]; exact e17
    have he : ∀ v w, v < nv → w < wk → runM 7 (st1 m' 1 (tkW m' nv nf i)) 8 (30 * v + w) = runF (leadF c i) 31 (v * 30 + w) := fun v w hv hw => (S.f0 v hv w hw).symm
    have ew : runM 7 (st1 m' 1 (tkW m' nv nf i)) 1 (157 + fl) = nI (tkc nv nf i fl) - 1 := by rw [runM_R.w]; exact tk_tn hfl
    have hsw : sdW nv nf fl i = if nI (tkc nv nf i fl) - 1 = -1 then 9 else nI (tkc nv nf i fl) - 1 := rfl
    have hwm : ∀ x, whM (PM c (N / 3, f)) (sdW nv nf fl) i (k + 1) x = if PM c (N / 3, f) i = -1 then if x = -1 then whM (PM c (N / 3, f)) (sdW nv nf fl) (i + 1) k (sdW nv nf fl i) else if x = sdW nv nf fl i then whM (PM c (N / 3, f)) (sdW nv nf fl) (i + 1) k (sdW nv nf fl i) else -1 else whM (PM c (N / 3, f)) (sdW nv nf fl) (i + 1) k x := fun x => rfl
    rcases hst with ⟨rfl, hA⟩ | ⟨rfl, hA⟩
    · refine A_iload dX10_who_36 rfl ?_
      refine A_iload dX10_who_38 rfl ?_
      refine A_icmp_ge 131 dX10_who_40 (by decide) (fun c40 => ?_) (fun c40 => ?_)
      · exact absurd c40 (nI_ge (by omega) (by omega))
      · refine A_aload_n dX10_who_43 rfl rfl ?_
        refine A_iload dX10_who_44 rfl ?_
        refine A_callVv dX10_who_46 m_X10_342 cb_X10_takersAre (As := [_]) rfl HM_at0 rfl (k_takersAre G (E.im h.im) (by omega)) rfl ⟨by decide, by decide⟩ (Nat.le_of_ble_eq_true rfl) ⟨by decide, by decide⟩ (fun h46 hq => ?_)
        obtain rfl := hq
        refine A_aload_n dX10_who_49 rfl rfl ?_
        refine A_callVv dX10_who_50 m_X10_317 cb_X10_year (As := []) rfl HM_at0 rfl (k_year G ((E.tk hb.2.2.1).im h.im) (tk_TM hb.1)) rfl ⟨by decide, by decide⟩ (Nat.le_of_ble_eq_true rfl) ⟨by decide, by decide⟩ (fun h50 hq => ?_)
        obtain rfl := hq
        obtain ⟨y, ey⟩ : ∃ y, runM 7 (st1 m' 1 (tkW m' nv nf i)) = y := ⟨_, rfl⟩
        rw [ey] at E2 e172 he ew ⊢
        refine A_aload_n dX10_who_53 rfl rfl ?_
        refine A_iload_n dX10_who_54 rfl rfl ?_
        refine A_iconst (v := (-1)) dX10_who_55 (by decide) ?_
        refine A_callVi dX10_who_56 m_X10_386 cb_X10_agrees (As := [_, _]) rfl HM_at0 rfl (k_agrees G (but := -1) hj e172 hN h3 e19 hok hb.1 hw30 he) rfl ⟨by decide, by decide⟩ (Nat.le_of_ble_eq_true rfl) ⟨by decide, by decide⟩ (fun x56 h56 hq => ?_)
        obtain ⟨rfl, rfl⟩ := hq
        refine A_if_ne 65 dX10_who_59 (by decide) (fun c59 => ?_) (fun c59 => ?_)
        · have q9 : PM c (N / 3, f) i = -1 := (ag_none (by omega)).mp (by by_cases z : agQ (runF (leadF c i) 31) f (-1) (N / 3) = true; exact z; exact absurd (if_neg z) c59)
          refine A_aload_n dX10_who_65 rfl rfl ?_
          refine A_get dX10_who_66 f_X10_9 HM_at0 rfl ?_
          refine A_sipush (v := 157) dX10_who_69 (by decide) ?_
          refine A_iload_n dX10_who_72 rfl rfl ?_
          refine A_iadd dX10_who_73 ?_
          refine A_ialdK (i := (157 + fl)) dX10_who_74 (HM_at (by decide)) (ixA rfl rfl) (by omega) (by decide) ?_
          refine A_eqI ew ?_
          refine A_iconst (v := (-1)) dX10_who_75 (by decide) ?_
          refine A_icmp_ne 84 dX10_who_76 (by decide) (fun c76 => ?_) (fun c76 => ?_)
          · refine A_aload_n dX10_who_84 rfl rfl ?_
            refine A_get dX10_who_85 f_X10_9 HM_at0 rfl ?_
            refine A_sipush (v := 157) dX10_who_88 (by decide) ?_
            refine A_iload_n dX10_who_91 rfl rfl ?_
            refine A_iadd dX10_who_92 ?_
            refine A_ialdK (i := (157 + fl)) dX10_who_93 (HM_at (by decide)) (ixA rfl rfl) (by omega) (by decide) ?_
            refine A_eqI ew ?_
            refine A_eqI (y := sdW nv nf fl i) (by rw [hsw, if_neg c76]) ?_
            refine A_istore (lv1 := [_, _, _, _, _, _, _, _, _]) dX10_who_94 (Nat.le_of_ble_eq_true rfl) rfl rfl ?_
            refine A_iload dX10_who_96 rfl ?_
            refine A_if_eq 118 dX10_who_98 (by decide) (fun c98 => ?_) (fun c98 => ?_)
            · exact absurd c98 (by decide)
            · refine A_iload dX10_who_101 rfl ?_
              refine A_iconst (v := (-1)) dX10_who_103 (by decide) ?_
              refine A_icmp_eq 114 dX10_who_104 (by decide) (fun c104 => ?_) (fun c104 => ?_)
              · refine A_iconst (v := 1) dX10_who_114 (by decide) ?_
                refine A_goto 119 dX10_who_115 (by decide) ?_
                refine A_istore (lv1 := [_, _, _, _, _, _, _, _, _]) dX10_who_119 (Nat.le_of_ble_eq_true rfl) rfl rfl ?_
                refine A_iload dX10_who_121 rfl ?_
                refine A_istore (lv1 := [_, _, _, _, _, _, _, _, _]) dX10_who_123 (Nat.le_of_ble_eq_true rfl) rfl rfl ?_
                refine A_inc 1 (lv1 := [_, _, _, _, _, _, _, _, _]) dX10_who_125 rfl (by decide) rfl rfl ?_
                refine A_goto 36 dX10_who_128 (by decide) ?_
                refine A_fg 8 (lv1 := [_, _, _, _, _, _, _, _, _]) rfl ?_
                rw [nI_1]
                exact ih (i + 1) _ _ _ (by omega) E2 (Or.inl ⟨rfl, by rw [← hA, hwm, if_pos q9, if_pos c104]⟩)
              · refine A_iload dX10_who_107 rfl ?_
                refine A_iload dX10_who_109 rfl ?_
                refine A_icmp_ne 118 dX10_who_111 (by decide) (fun c111 => ?_) (fun c111 => ?_)
                · refine A_iconst (v := 0) dX10_who_118 (by decide) ?_
                  refine A_istore (lv1 := [_, _, _, _, _, _, _, _, _]) dX10_who_119 (Nat.le_of_ble_eq_true rfl) rfl rfl ?_
                  refine A_iload dX10_who_121 rfl ?_
                  refine A_istore (lv1 := [_, _, _, _, _, _, _, _, _]) dX10_who_123 (Nat.le_of_ble_eq_true rfl) rfl rfl ?_
                  refine A_inc 1 (lv1 := [_, _, _, _, _, _, _, _, _]) dX10_who_125 rfl (by decide) rfl rfl ?_
                  refine A_goto 36 dX10_who_128 (by decide) ?_
                  refine A_fg 8 (lv1 := [_, _, _, _, _, _, _, _, _]) rfl ?_
                  rw [nI_1]
                  exact ih (i + 1) _ _ _ (by omega) E2 (Or.inr ⟨rfl, by rw [← hA, hwm, if_pos q9, if_neg c104, if_neg c111]⟩)
                · refine A_iconst (v := 1) dX10_who_114 (by decide) ?_
                  refine A_goto 119 dX10_who_115 (by decide) ?_
                  refine A_istore (lv1 := [_, _, _, _, _, _, _, _, _]) dX10_who_119 (Nat.le_of_ble_eq_true rfl) rfl rfl ?_
                  refine A_iload dX10_who_121 rfl ?_
                  refine A_istore (lv1 := [_, _, _, _, _, _, _, _, _]) dX10_who_123 (Nat.le_of_ble_eq_true rfl) rfl rfl ?_
                  refine A_inc 1 (lv1 := [_, _, _, _, _, _, _, _, _]) dX10_who_125 rfl (by decide) rfl rfl ?_
                  refine A_goto 36 dX10_who_128 (by decide) ?_
                  refine A_fg 8 (lv1 := [_, _, _, _, _, _, _, _, _]) rfl ?_
                  rw [nI_1]
                  exact ih (i + 1) _ _ _ (by omega) E2 (Or.inl ⟨rfl, by rw [← hA, hwm, if_pos q9, if_neg c104, if_pos c111]⟩)
          · refine A_bipush (v := 9) dX10_who_79 (by decide) ?_
            refine A_goto 94 dX10_who_81 (by decide) ?_
            refine A_eqI (y := sdW nv nf fl i) (by rw [hsw, if_pos c76]) ?_
            refine A_istore (lv1 := [_, _, _, _, _, _, _, _, _]) dX10_who_94 (Nat.le_of_ble_eq_true rfl) rfl rfl ?_
            refine A_iload dX10_who_96 rfl ?_
            refine A_if_eq 118 dX10_who_98 (by decide) (fun c98 => ?_) (fun c98 => ?_)
            · exact absurd c98 (by decide)
            · refine A_iload dX10_who_101 rfl ?_
              refine A_iconst (v := (-1)) dX10_who_103 (by decide) ?_
              refine A_icmp_eq 114 dX10_who_104 (by decide) (fun c104 => ?_) (fun c104 => ?_)
              · refine A_iconst (v := 1) dX10_who_114 (by decide) ?_
                refine A_goto 119 dX10_who_115 (by decide) ?_
                refine A_istore (lv1 := [_, _, _, _, _, _, _, _, _]) dX10_who_119 (Nat.le_of_ble_eq_true rfl) rfl rfl ?_
                refine A_iload dX10_who_121 rfl ?_
                refine A_istore (lv1 := [_, _, _, _, _, _, _, _, _]) dX10_who_123 (Nat.le_of_ble_eq_true rfl) rfl rfl ?_
                refine A_inc 1 (lv1 := [_, _, _, _, _, _, _, _, _]) dX10_who_125 rfl (by decide) rfl rfl ?_
                refine A_goto 36 dX10_who_128 (by decide) ?_
                refine A_fg 8 (lv1 := [_, _, _, _, _, _, _, _, _]) rfl ?_
                rw [nI_1]
                exact ih (i + 1) _ _ _ (by omega) E2 (Or.inl ⟨rfl, by rw [← hA, hwm, if_pos q9, if_pos c104]⟩)
              · refine A_iload dX10_who_107 rfl ?_
                refine A_iload dX10_who_109 rfl ?_
                refine A_icmp_ne 118 dX10_who_111 (by decide) (fun c111 => ?_) (fun c111 => ?_)
                · refine A_iconst (v := 0) dX10_who_118 (by decide) ?_
                  refine A_istore (lv1 := [_, _, _, _, _, _, _, _, _]) dX10_who_119 (Nat.le_of_ble_eq_true rfl) rfl rfl ?_
                  refine A_iload dX10_who_121 rfl ?_
                  refine A_istore (lv1 := [_, _, _, _, _, _, _, _, _]) dX10_who_123 (Nat.le_of_ble_eq_true rfl) rfl rfl ?_
                  refine A_inc 1 (lv1 := [_, _, _, _, _, _, _, _, _]) dX10_who_125 rfl (by decide) rfl rfl ?_
                  refine A_goto 36 dX10_who_128 (by decide) ?_
                  refine A_fg 8 (lv1 := [_, _, _, _, _, _, _, _, _]) rfl ?_
                  rw [nI_1]
                  exact ih (i + 1) _ _ _ (by omega) E2 (Or.inr ⟨rfl, by rw [← hA, hwm, if_pos q9, if_neg c104, if_neg c111]⟩)
                · refine A_iconst (v := 1) dX10_who_114 (by decide) ?_
                  refine A_goto 119 dX10_who_115 (by decide) ?_
                  refine A_istore (lv1 := [_, _, _, _, _, _, _, _, _]) dX10_who_119 (Nat.le_of_ble_eq_true rfl) rfl rfl ?_
                  refine A_iload dX10_who_121 rfl ?_
                  refine A_istore (lv1 := [_, _, _, _, _, _, _, _, _]) dX10_who_123 (Nat.le_of_ble_eq_true rfl) rfl rfl ?_
                  refine A_inc 1 (lv1 := [_, _, _, _, _, _, _, _, _]) dX10_who_125 rfl (by decide) rfl rfl ?_
                  refine A_goto 36 dX10_who_128 (by decide) ?_
                  refine A_fg 8 (lv1 := [_, _, _, _, _, _, _, _, _]) rfl ?_
                  rw [nI_1]
                  exact ih (i + 1) _ _ _ (by omega) E2 (Or.inl ⟨rfl, by rw [← hA, hwm, if_pos q9, if_neg c104, if_pos c111]⟩)
        · have q9 : ¬ PM c (N / 3, f) i = -1 := fun z => by rw [if_pos ((ag_none (by omega)).mpr z)] at c59; exact absurd c59 (by decide)
          refine A_goto 125 dX10_who_62 (by decide) ?_
          refine A_inc 1 (lv1 := [_, _, _, _, _, _, _, _, _]) dX10_who_125 rfl (by decide) rfl rfl ?_
          refine A_goto 36 dX10_who_128 (by decide) ?_
          refine A_fg 8 (lv1 := [_, _, _, _, _, _, _, _, _]) rfl ?_
          rw [nI_1]
          exact ih (i + 1) _ _ _ (by omega) E2 (Or.inl ⟨rfl, by rw [← hA, hwm, if_neg q9]⟩)
    · refine A_iload dX10_who_36 rfl ?_
      refine A_iload dX10_who_38 rfl ?_
      refine A_icmp_ge 131 dX10_who_40 (by decide) (fun c40 => ?_) (fun c40 => ?_)
      · exact absurd c40 (nI_ge (by omega) (by omega))
      · refine A_aload_n dX10_who_43 rfl rfl ?_
        refine A_iload dX10_who_44 rfl ?_
        refine A_callVv dX10_who_46 m_X10_342 cb_X10_takersAre (As := [_]) rfl HM_at0 rfl (k_takersAre G (E.im h.im) (by omega)) rfl ⟨by decide, by decide⟩ (Nat.le_of_ble_eq_true rfl) ⟨by decide, by decide⟩ (fun h46 hq => ?_)
        obtain rfl := hq
        refine A_aload_n dX10_who_49 rfl rfl ?_
        refine A_callVv dX10_who_50 m_X10_317 cb_X10_year (As := []) rfl HM_at0 rfl (k_year G ((E.tk hb.2.2.1).im h.im) (tk_TM hb.1)) rfl ⟨by decide, by decide⟩ (Nat.le_of_ble_eq_true rfl) ⟨by decide, by decide⟩ (fun h50 hq => ?_)
        obtain rfl := hq
        obtain ⟨y, ey⟩ : ∃ y, runM 7 (st1 m' 1 (tkW m' nv nf i)) = y := ⟨_, rfl⟩
        rw [ey] at E2 e172 he ew ⊢
        refine A_aload_n dX10_who_53 rfl rfl ?_
        refine A_iload_n dX10_who_54 rfl rfl ?_
        refine A_iconst (v := (-1)) dX10_who_55 (by decide) ?_
        refine A_callVi dX10_who_56 m_X10_386 cb_X10_agrees (As := [_, _]) rfl HM_at0 rfl (k_agrees G (but := -1) hj e172 hN h3 e19 hok hb.1 hw30 he) rfl ⟨by decide, by decide⟩ (Nat.le_of_ble_eq_true rfl) ⟨by decide, by decide⟩ (fun x56 h56 hq => ?_)
        obtain ⟨rfl, rfl⟩ := hq
        refine A_if_ne 65 dX10_who_59 (by decide) (fun c59 => ?_) (fun c59 => ?_)
        · have q9 : PM c (N / 3, f) i = -1 := (ag_none (by omega)).mp (by by_cases z : agQ (runF (leadF c i) 31) f (-1) (N / 3) = true; exact z; exact absurd (if_neg z) c59)
          refine A_aload_n dX10_who_65 rfl rfl ?_
          refine A_get dX10_who_66 f_X10_9 HM_at0 rfl ?_
          refine A_sipush (v := 157) dX10_who_69 (by decide) ?_
          refine A_iload_n dX10_who_72 rfl rfl ?_
          refine A_iadd dX10_who_73 ?_
          refine A_ialdK (i := (157 + fl)) dX10_who_74 (HM_at (by decide)) (ixA rfl rfl) (by omega) (by decide) ?_
          refine A_eqI ew ?_
          refine A_iconst (v := (-1)) dX10_who_75 (by decide) ?_
          refine A_icmp_ne 84 dX10_who_76 (by decide) (fun c76 => ?_) (fun c76 => ?_)
          · refine A_aload_n dX10_who_84 rfl rfl ?_
            refine A_get dX10_who_85 f_X10_9 HM_at0 rfl ?_
            refine A_sipush (v := 157) dX10_who_88 (by decide) ?_
            refine A_iload_n dX10_who_91 rfl rfl ?_
            refine A_iadd dX10_who_92 ?_
            refine A_ialdK (i := (157 + fl)) dX10_who_93 (HM_at (by decide)) (ixA rfl rfl) (by omega) (by decide) ?_
            refine A_eqI ew ?_
            refine A_eqI (y := sdW nv nf fl i) (by rw [hsw, if_neg c76]) ?_
            refine A_istore (lv1 := [_, _, _, _, _, _, _, _, _]) dX10_who_94 (Nat.le_of_ble_eq_true rfl) rfl rfl ?_
            refine A_iload dX10_who_96 rfl ?_
            refine A_if_eq 118 dX10_who_98 (by decide) (fun c98 => ?_) (fun c98 => ?_)
            · refine A_iconst (v := 0) dX10_who_118 (by decide) ?_
              refine A_istore (lv1 := [_, _, _, _, _, _, _, _, _]) dX10_who_119 (Nat.le_of_ble_eq_true rfl) rfl rfl ?_
              refine A_iload dX10_who_121 rfl ?_
              refine A_istore (lv1 := [_, _, _, _, _, _, _, _, _]) dX10_who_123 (Nat.le_of_ble_eq_true rfl) rfl rfl ?_
              refine A_inc 1 (lv1 := [_, _, _, _, _, _, _, _, _]) dX10_who_125 rfl (by decide) rfl rfl ?_
              refine A_goto 36 dX10_who_128 (by decide) ?_
              refine A_fg 8 (lv1 := [_, _, _, _, _, _, _, _, _]) rfl ?_
              rw [nI_1]
              exact ih (i + 1) _ _ _ (by omega) E2 (Or.inr ⟨rfl, hA⟩)
            · exact absurd rfl c98
          · refine A_bipush (v := 9) dX10_who_79 (by decide) ?_
            refine A_goto 94 dX10_who_81 (by decide) ?_
            refine A_eqI (y := sdW nv nf fl i) (by rw [hsw, if_pos c76]) ?_
            refine A_istore (lv1 := [_, _, _, _, _, _, _, _, _]) dX10_who_94 (Nat.le_of_ble_eq_true rfl) rfl rfl ?_
            refine A_iload dX10_who_96 rfl ?_
            refine A_if_eq 118 dX10_who_98 (by decide) (fun c98 => ?_) (fun c98 => ?_)
            · refine A_iconst (v := 0) dX10_who_118 (by decide) ?_
              refine A_istore (lv1 := [_, _, _, _, _, _, _, _, _]) dX10_who_119 (Nat.le_of_ble_eq_true rfl) rfl rfl ?_
              refine A_iload dX10_who_121 rfl ?_
              refine A_istore (lv1 := [_, _, _, _, _, _, _, _, _]) dX10_who_123 (Nat.le_of_ble_eq_true rfl) rfl rfl ?_
              refine A_inc 1 (lv1 := [_, _, _, _, _, _, _, _, _]) dX10_who_125 rfl (by decide) rfl rfl ?_
              refine A_goto 36 dX10_who_128 (by decide) ?_
              refine A_fg 8 (lv1 := [_, _, _, _, _, _, _, _, _]) rfl ?_
              rw [nI_1]
              exact ih (i + 1) _ _ _ (by omega) E2 (Or.inr ⟨rfl, hA⟩)
            · exact absurd rfl c98
        · have q9 : ¬ PM c (N / 3, f) i = -1 := fun z => by rw [if_pos ((ag_none (by omega)).mpr z)] at c59; exact absurd c59 (by decide)
          refine A_goto 125 dX10_who_62 (by decide) ?_
          refine A_inc 1 (lv1 := [_, _, _, _, _, _, _, _, _]) dX10_who_125 rfl (by decide) rfl rfl ?_
          refine A_goto 36 dX10_who_128 (by decide) ?_
          refine A_fg 8 (lv1 := [_, _, _, _, _, _, _, _, _]) rfl ?_
          rw [nI_1]
          exact ih (i + 1) _ _ _ (by omega) E2 (Or.inr ⟨rfl, hA⟩)

theorem k_who (G : GX) {b : Nat} {c m : CT} {ml : Nat → Nat → Int64} {r : Nat → Option AE} {n : Nat} {nv nc nf nl wk : Nat} {S : Nat → Option ST} {s fl : Int32} (h : BL nv nc nf nl wk c m) (hS : SL S m ml) : MA G 5 yX10_who cX10_who 9 (some .int) 0 0 [.ref b, .int s, .int fl] (HM b m ml r n) (qI fun x9 h1 => x9 = whoA c S nv nf wk s fl ∧ ∃ m1 ml1, h1 = HM b m1 ml1 r n ∧ KM m ml m1 ml1) := by
  refine MA.of (own := RX10) false [some (.ref b), some (.int s), some (.int fl), none, none, none, none, none, none] (by decide +kernel) rfl (fun h => by cases h) (Nat.le_of_ble_eq_true rfl) rfl (fun X => ?_)
  have hX := h.ix
  obtain ⟨xv, xv6, xc, xc8, xf, xf3, xl, xl8, xw, xw30, xC, xL⟩ := id hX
  have hI := h.im
  obtain ⟨hv, hv6, hc, hc8, hf, hf3, hl, hl8, hw, hw30, gC, gL⟩ := id hI
  have hT := h.tm
  refine A_aload_n dX10_who_0 rfl rfl ?_
  refine A_iload_n dX10_who_1 rfl rfl ?_
  refine A_aload_n dX10_who_2 rfl rfl ?_
  refine A_iload_n dX10_who_3 rfl rfl ?_
  refine A_callVi dX10_who_4 m_X10_311 cb_X10_isFlood (As := [_]) rfl HM_at0 rfl (k_isFlood G hf (by omega)) rfl ⟨by decide, by decide⟩ (Nat.le_of_ble_eq_true rfl) ⟨by decide, by decide⟩ (fun x4 h4 hq => ?_)
  obtain ⟨rfl, rfl⟩ := hq
  refine A_callVi dX10_who_7 m_X10_390 cb_X10_asksMarks (As := [_, _]) rfl HM_at0 rfl (k_asksMarks G h hS) rfl ⟨by decide, by decide⟩ (Nat.le_of_ble_eq_true rfl) ⟨by decide, by decide⟩ (fun x7 h7 hq => ?_)
  obtain ⟨rfl, rfl⟩ := hq
  refine A_istore_n (lv1 := [_, _, _, _, _, _, _, _, _]) dX10_who_10 rfl (Nat.le_of_ble_eq_true rfl) rfl rfl ?_
  refine A_iload_n dX10_who_11 rfl rfl ?_
  refine A_if_ge 17 dX10_who_12 (by decide) (fun c12 => ?_) (fun c12 => ?_)
  · have q0 : mwA c S nv wk s (¬ inI fl (nI nf) = 0) = 0 := by by_cases z : mwA c S nv wk s (¬ inI fl (nI nf) = 0) = 0; exact z; exact absurd (mw_neg.mpr z) (Int32.not_lt.mpr c12)
    obtain ⟨j, N, f, hj, rfl, e17, hN, h3, e19, hok, hfl0, hSF⟩ := SF_3 hS q0
    obtain ⟨u, hu9, rfl⟩ := inI_of rfl hfl0 (by omega)
    have eA : whoA c S nv nf wk (nI j) (nI u) = whM (PM c (N / 3, f)) (sdW nv nf u) 0 (tot nv nf) (-1) := by rw [whoA, xf, if_pos q0, hSF, tcl_nI (by omega)]
    rw [eA]
    refine A_aload_n dX10_who_17 rfl rfl ?_
    refine A_callVv dX10_who_18 m_X10_333 cb_X10_keepsTakers (As := []) rfl HM_at0 rfl (k_keepsTakers G) rfl ⟨by decide, by decide⟩ (Nat.le_of_ble_eq_true rfl) ⟨by decide, by decide⟩ (fun h18 hq => ?_)
    obtain ⟨g, rfl, hg⟩ := hq
    refine A_iconst (v := (-1)) dX10_who_21 (by decide) ?_
    refine A_istore (lv1 := [_, _, _, _, _, _, _, _, _]) dX10_who_22 (Nat.le_of_ble_eq_true rfl) rfl rfl ?_
    refine A_iconst (v := 1) dX10_who_24 (by decide) ?_
    refine A_istore (lv1 := [_, _, _, _, _, _, _, _, _]) dX10_who_25 (Nat.le_of_ble_eq_true rfl) rfl rfl ?_
    refine A_aload_n dX10_who_27 rfl rfl ?_
    refine A_callVi dX10_who_28 m_X10_339 cb_X10_takersMany (As := []) rfl HM_at0 rfl (k_takersMany G ((EM.mk hg).im h.im)) rfl ⟨by decide, by decide⟩ (Nat.le_of_ble_eq_true rfl) ⟨by decide, by decide⟩ (fun x28 h28 hq => ?_)
    obtain ⟨rfl, rfl⟩ := hq
    refine A_istore (lv1 := [_, _, _, _, _, _, _, _, _]) dX10_who_31 (Nat.le_of_ble_eq_true rfl) rfl rfl ?_
    refine A_iconst (v := 0) dX10_who_33 (by decide) ?_
    refine A_istore (lv1 := [_, _, _, _, _, _, _, _, _]) dX10_who_34 (Nat.le_of_ble_eq_true rfl) rfl rfl ?_
    exact who_loop G X ⟨rfl, rfl⟩ h hj e17 hN h3 e19 hok hu9 (tot nv nf) 0 _ _ _ (by omega) (EM.mk hg) (Or.inl ⟨rfl, rfl⟩)
  · have q0 : ¬ mwA c S nv wk s (¬ inI fl (nI nf) = 0) = 0 := mw_neg.mp (Int32.not_le.mp c12)
    refine A_iload_n dX10_who_15 rfl rfl ?_
    exact A_iret dX10_who_16 ⟨by rw [whoA, xf, if_neg q0], ⟨_, _, rfl, KM.rf⟩⟩ ⟨by decide, by decide⟩

theorem sure_loop (G : GX) (X : XC) {b : Nat} {c m : CT} {ml : Nat → Nat → Int64} {r : Nat → Option AE} {n : Nat} {nv nc nf nl wk j N : Nat} {f : Nat → Int64} {A x0 : Int32} {v w : Nat} {u1 u2 : Nat} (hu : u1 = 0 ∧ u2 = 0) (h : BL nv nc nf nl wk c m) (hj : j < 4) (e17 : m 17 j = nI N) (hN : N ≤ 60) (h3 : N = 3 * (N / 3)) (e19 : ∀ i, i < 60 → ml 19 (60 * j + i) = f i) (hok : ∀ i, i < N / 3 → mkOk f nv wk i = true) (hv9 : v < nv) (hw9 : w < wk) : ∀ (k i : Nat) (m' : CT) (x sm : Int32), i + k = tot nv nf → EM m m' → ((sm = 1 ∧ whM (PM c (N / 3, f)) (sdS c v w) i k x = A) ∨ (sm = 0 ∧ A = -1)) → WA X G RX10 cX10_sure false (some .int) (qI fun x9 h1 => x9 = A ∧ ∃ m1 ml1, h1 = HM b m1 ml1 r n ∧ KM m ml m1 ml1) 5 0 0 (HM b m' ml r n) u1 u2 55 [some (.ref b), some (.int (nI j)), some (.int (nI v)), some (.int (nI w)), some (.int x0), some (.int (x)), some (.int (sm)), some (.int (nI (tot nv nf))), some (.int (nI (i)))] [] := by
  obtain ⟨rfl, rfl⟩ := hu
  have hb := h.nb
  have hw30 := h.ix.2.2.2.2.2.2.2.2.2.1
  have ht := tot_343 (nv := nv) (nf := nf) hb.1 hb.2.2.1
  intro k
  induction k with
  | zero =>
    intro i m' x sm hk E hst
    have e9 : i = tot nv nf := by omega
    subst e9
    refine A_iload dX10_sure_55 rfl ?_
    refine A_iload dX10_sure_57 rfl ?_
    refine A_icmp_ge 137 dX10_sure_59 (by decide) (fun c59 => ?_) (fun c59 => ?_)
    · refine A_aload_n dX10_sure_137 rfl rfl ?_
      refine A_callVv dX10_sure_138 m_X10_348 cb_X10_bringsTakersBack (As := []) rfl HM_at0 rfl (k_bringsTakersBack G) rfl ⟨by decide, by decide⟩ (Nat.le_of_ble_eq_true rfl) ⟨by decide, by decide⟩ (fun h138 hq => ?_)
      obtain ⟨g, rfl, hg⟩ := hq
      refine A_iload dX10_sure_141 rfl ?_
      refine A_if_eq 151 dX10_sure_143 (by decide) (fun c143 => ?_) (fun c143 => ?_)
      · refine A_iconst (v := (-1)) dX10_sure_151 (by decide) ?_
        exact A_iret dX10_sure_152 ⟨by rcases hst with ⟨z1, z2⟩ | ⟨z1, z2⟩; (rw [z1] at c143; exact absurd c143 (by decide)); (exact z2.symm), _, _, rfl, E.back hg, rfl⟩ ⟨by decide, by decide⟩
      · refine A_iload dX10_sure_146 rfl ?_
        refine A_goto 152 dX10_sure_148 (by decide) ?_
        exact A_iret dX10_sure_152 ⟨by rcases hst with ⟨z1, z2⟩ | ⟨z1, z2⟩; (rw [whM] at z2; exact z2); (exact absurd z1 c143), _, _, rfl, E.back hg, rfl⟩ ⟨by decide, by decide⟩
    · exact absurd (nI_le (Nat.le_refl _) (by omega)) c59
  | succ k ih =>
    intro i m' x sm hk E hst
    have hi : i < tot nv nf := by omega
    obtain ⟨S, D⟩ := tk_sim (k := i) h E
    have E2 := (E.tk (nv := nv) (nf := nf) (k := i) hb.2.2.1).run (fl := 7)
    have e172 : runM 7 (st1 m' 1 (tkW m' nv nf i)) 17 j = nI N := by rw [E2.2.2.1 17 (by decide)]; exact e17
    have he : ∀ v w, v < nv → w < wk → runM 7 (st1 m' 1 (tkW m' nv nf i)) 8 (30 * v + w) = runF (leadF c i) 31 (v * 30 + w) := fun v w hv hw => (S.f0 v hv w hw).symm
    have ew : runM 7 (st1 m' 1 (tkW m' nv nf i)) 8 (30 * v + w) = sdS c v w i := he v w hv9 hw9
    have hwm : ∀ x, whM (PM c (N / 3, f)) (sdS c v w) i (k + 1) x = if PM c (N / 3, f) i = -1 then if x = -1 then whM (PM c (N / 3, f)) (sdS c v w) (i + 1) k (sdS c v w i) else if x = sdS c v w i then whM (PM c (N / 3, f)) (sdS c v w) (i + 1) k (sdS c v w i) else -1 else whM (PM c (N / 3, f)) (sdS c v w) (i + 1) k x := fun x => rfl
    rcases hst with ⟨rfl, hA⟩ | ⟨rfl, hA⟩
    · refine A_iload dX10_sure_55 rfl ?_
      refine A_iload dX10_sure_57 rfl ?_
      refine A_icmp_ge 137 dX10_sure_59 (by decide) (fun c59 => ?_) (fun c59 => ?_)
      · exact absurd c59 (nI_ge (by omega) (by omega))
      · refine A_aload_n dX10_sure_62 rfl rfl ?_
        refine A_iload dX10_sure_63 rfl ?_
        refine A_callVv dX10_sure_65 m_X10_342 cb_X10_takersAre (As := [_]) rfl HM_at0 rfl (k_takersAre G (E.im h.im) (by omega)) rfl ⟨by decide, by decide⟩ (Nat.le_of_ble_eq_true rfl) ⟨by decide, by decide⟩ (fun h65 hq => ?_)
        obtain rfl := hq
        refine A_aload_n dX10_sure_68 rfl rfl ?_
        refine A_callVv dX10_sure_69 m_X10_317 cb_X10_year (As := []) rfl HM_at0 rfl (k_year G ((E.tk hb.2.2.1).im h.im) (tk_TM hb.1)) rfl ⟨by decide, by decide⟩ (Nat.le_of_ble_eq_true rfl) ⟨by decide, by decide⟩ (fun h69 hq => ?_)
        obtain rfl := hq
        obtain ⟨y, ey⟩ : ∃ y, runM 7 (st1 m' 1 (tkW m' nv nf i)) = y := ⟨_, rfl⟩
        rw [ey] at E2 e172 he ew ⊢
        refine A_aload_n dX10_sure_72 rfl rfl ?_
        refine A_iload_n dX10_sure_73 rfl rfl ?_
        refine A_iconst (v := (-1)) dX10_sure_74 (by decide) ?_
        refine A_callVi dX10_sure_75 m_X10_386 cb_X10_agrees (As := [_, _]) rfl HM_at0 rfl (k_agrees G (but := -1) hj e172 hN h3 e19 hok hb.1 hw30 he) rfl ⟨by decide, by decide⟩ (Nat.le_of_ble_eq_true rfl) ⟨by decide, by decide⟩ (fun x75 h75 hq => ?_)
        obtain ⟨rfl, rfl⟩ := hq
        refine A_if_ne 84 dX10_sure_78 (by decide) (fun c78 => ?_) (fun c78 => ?_)
        · have q9 : PM c (N / 3, f) i = -1 := (ag_none (by omega)).mp (by by_cases z : agQ (runF (leadF c i) 31) f (-1) (N / 3) = true; exact z; exact absurd (if_neg z) c78)
          refine A_iload dX10_sure_84 rfl ?_
          refine A_if_eq 115 dX10_sure_86 (by decide) (fun c86 => ?_) (fun c86 => ?_)
          · exact absurd c86 (by decide)
          · refine A_iload dX10_sure_89 rfl ?_
            refine A_iconst (v := (-1)) dX10_sure_91 (by decide) ?_
            refine A_icmp_eq 111 dX10_sure_92 (by decide) (fun c92 => ?_) (fun c92 => ?_)
            · refine A_iconst (v := 1) dX10_sure_111 (by decide) ?_
              refine A_goto 116 dX10_sure_112 (by decide) ?_
              refine A_istore (lv1 := [_, _, _, _, _, _, _, _, _]) dX10_sure_116 (Nat.le_of_ble_eq_true rfl) rfl rfl ?_
              refine A_aload_n dX10_sure_118 rfl rfl ?_
              refine A_get dX10_sure_119 f_X10_37 HM_at0 rfl ?_
              refine A_bipush (v := 30) dX10_sure_122 (by decide) ?_
              refine A_iload_n dX10_sure_124 rfl rfl ?_
              refine A_imul dX10_sure_125 ?_
              refine A_iload_n dX10_sure_126 rfl rfl ?_
              refine A_iadd dX10_sure_127 ?_
              refine A_ialdK (i := ((30 * v) + w)) dX10_sure_128 (HM_at (by decide)) (ixA (ixU rfl rfl) rfl) (by omega) (by decide) ?_
              refine A_eqI ew ?_
              refine A_istore (lv1 := [_, _, _, _, _, _, _, _, _]) dX10_sure_129 (Nat.le_of_ble_eq_true rfl) rfl rfl ?_
              refine A_inc 1 (lv1 := [_, _, _, _, _, _, _, _, _]) dX10_sure_131 rfl (by decide) rfl rfl ?_
              refine A_goto 55 dX10_sure_134 (by decide) ?_
              rw [nI_1]
              exact ih (i + 1) _ _ _ (by omega) E2 (Or.inl ⟨rfl, by rw [← hA, hwm, if_pos q9, if_pos c92]⟩)
            · refine A_iload dX10_sure_95 rfl ?_
              refine A_aload_n dX10_sure_97 rfl rfl ?_
              refine A_get dX10_sure_98 f_X10_37 HM_at0 rfl ?_
              refine A_bipush (v := 30) dX10_sure_101 (by decide) ?_
              refine A_iload_n dX10_sure_103 rfl rfl ?_
              refine A_imul dX10_sure_104 ?_
              refine A_iload_n dX10_sure_105 rfl rfl ?_
              refine A_iadd dX10_sure_106 ?_
              refine A_ialdK (i := ((30 * v) + w)) dX10_sure_107 (HM_at (by decide)) (ixA (ixU rfl rfl) rfl) (by omega) (by decide) ?_
              refine A_eqI ew ?_
              refine A_icmp_ne 115 dX10_sure_108 (by decide) (fun c108 => ?_) (fun c108 => ?_)
              · refine A_iconst (v := 0) dX10_sure_115 (by decide) ?_
                refine A_istore (lv1 := [_, _, _, _, _, _, _, _, _]) dX10_sure_116 (Nat.le_of_ble_eq_true rfl) rfl rfl ?_
                refine A_aload_n dX10_sure_118 rfl rfl ?_
                refine A_get dX10_sure_119 f_X10_37 HM_at0 rfl ?_
                refine A_bipush (v := 30) dX10_sure_122 (by decide) ?_
                refine A_iload_n dX10_sure_124 rfl rfl ?_
                refine A_imul dX10_sure_125 ?_
                refine A_iload_n dX10_sure_126 rfl rfl ?_
                refine A_iadd dX10_sure_127 ?_
                refine A_ialdK (i := ((30 * v) + w)) dX10_sure_128 (HM_at (by decide)) (ixA (ixU rfl rfl) rfl) (by omega) (by decide) ?_
                refine A_eqI ew ?_
                refine A_istore (lv1 := [_, _, _, _, _, _, _, _, _]) dX10_sure_129 (Nat.le_of_ble_eq_true rfl) rfl rfl ?_
                refine A_inc 1 (lv1 := [_, _, _, _, _, _, _, _, _]) dX10_sure_131 rfl (by decide) rfl rfl ?_
                refine A_goto 55 dX10_sure_134 (by decide) ?_
                rw [nI_1]
                exact ih (i + 1) _ _ _ (by omega) E2 (Or.inr ⟨rfl, by rw [← hA, hwm, if_pos q9, if_neg c92, if_neg c108]⟩)
              · refine A_iconst (v := 1) dX10_sure_111 (by decide) ?_
                refine A_goto 116 dX10_sure_112 (by decide) ?_
                refine A_istore (lv1 := [_, _, _, _, _, _, _, _, _]) dX10_sure_116 (Nat.le_of_ble_eq_true rfl) rfl rfl ?_
                refine A_aload_n dX10_sure_118 rfl rfl ?_
                refine A_get dX10_sure_119 f_X10_37 HM_at0 rfl ?_
                refine A_bipush (v := 30) dX10_sure_122 (by decide) ?_
                refine A_iload_n dX10_sure_124 rfl rfl ?_
                refine A_imul dX10_sure_125 ?_
                refine A_iload_n dX10_sure_126 rfl rfl ?_
                refine A_iadd dX10_sure_127 ?_
                refine A_ialdK (i := ((30 * v) + w)) dX10_sure_128 (HM_at (by decide)) (ixA (ixU rfl rfl) rfl) (by omega) (by decide) ?_
                refine A_eqI ew ?_
                refine A_istore (lv1 := [_, _, _, _, _, _, _, _, _]) dX10_sure_129 (Nat.le_of_ble_eq_true rfl) rfl rfl ?_
                refine A_inc 1 (lv1 := [_, _, _, _, _, _, _, _, _]) dX10_sure_131 rfl (by decide) rfl rfl ?_
                refine A_goto 55 dX10_sure_134 (by decide) ?_
                rw [nI_1]
                exact ih (i + 1) _ _ _ (by omega) E2 (Or.inl ⟨rfl, by rw [← hA, hwm, if_pos q9, if_neg c92, if_pos c108]⟩)
        · have q9 : ¬ PM c (N / 3, f) i = -1 := fun z => by rw [if_pos ((ag_none (by omega)).mpr z)] at c78; exact absurd c78 (by decide)
          refine A_goto 131 dX10_sure_81 (by decide) ?_
          refine A_inc 1 (lv1 := [_, _, _, _, _, _, _, _, _]) dX10_sure_131 rfl (by decide) rfl rfl ?_
          refine A_goto 55 dX10_sure_134 (by decide) ?_
          rw [nI_1]
          exact ih (i + 1) _ _ _ (by omega) E2 (Or.inl ⟨rfl, by rw [← hA, hwm, if_neg q9]⟩)
    · refine A_iload dX10_sure_55 rfl ?_
      refine A_iload dX10_sure_57 rfl ?_
      refine A_icmp_ge 137 dX10_sure_59 (by decide) (fun c59 => ?_) (fun c59 => ?_)
      · exact absurd c59 (nI_ge (by omega) (by omega))
      · refine A_aload_n dX10_sure_62 rfl rfl ?_
        refine A_iload dX10_sure_63 rfl ?_
        refine A_callVv dX10_sure_65 m_X10_342 cb_X10_takersAre (As := [_]) rfl HM_at0 rfl (k_takersAre G (E.im h.im) (by omega)) rfl ⟨by decide, by decide⟩ (Nat.le_of_ble_eq_true rfl) ⟨by decide, by decide⟩ (fun h65 hq => ?_)
        obtain rfl := hq
        refine A_aload_n dX10_sure_68 rfl rfl ?_
        refine A_callVv dX10_sure_69 m_X10_317 cb_X10_year (As := []) rfl HM_at0 rfl (k_year G ((E.tk hb.2.2.1).im h.im) (tk_TM hb.1)) rfl ⟨by decide, by decide⟩ (Nat.le_of_ble_eq_true rfl) ⟨by decide, by decide⟩ (fun h69 hq => ?_)
        obtain rfl := hq
        obtain ⟨y, ey⟩ : ∃ y, runM 7 (st1 m' 1 (tkW m' nv nf i)) = y := ⟨_, rfl⟩
        rw [ey] at E2 e172 he ew ⊢
        refine A_aload_n dX10_sure_72 rfl rfl ?_
        refine A_iload_n dX10_sure_73 rfl rfl ?_
        refine A_iconst (v := (-1)) dX10_sure_74 (by decide) ?_
        refine A_callVi dX10_sure_75 m_X10_386 cb_X10_agrees (As := [_, _]) rfl HM_at0 rfl (k_agrees G (but := -1) hj e172 hN h3 e19 hok hb.1 hw30 he) rfl ⟨by decide, by decide⟩ (Nat.le_of_ble_eq_true rfl) ⟨by decide, by decide⟩ (fun x75 h75 hq => ?_)
        obtain ⟨rfl, rfl⟩ := hq
        refine A_if_ne 84 dX10_sure_78 (by decide) (fun c78 => ?_) (fun c78 => ?_)
        · have q9 : PM c (N / 3, f) i = -1 := (ag_none (by omega)).mp (by by_cases z : agQ (runF (leadF c i) 31) f (-1) (N / 3) = true; exact z; exact absurd (if_neg z) c78)
          refine A_iload dX10_sure_84 rfl ?_
          refine A_if_eq 115 dX10_sure_86 (by decide) (fun c86 => ?_) (fun c86 => ?_)
          · refine A_iconst (v := 0) dX10_sure_115 (by decide) ?_
            refine A_istore (lv1 := [_, _, _, _, _, _, _, _, _]) dX10_sure_116 (Nat.le_of_ble_eq_true rfl) rfl rfl ?_
            refine A_aload_n dX10_sure_118 rfl rfl ?_
            refine A_get dX10_sure_119 f_X10_37 HM_at0 rfl ?_
            refine A_bipush (v := 30) dX10_sure_122 (by decide) ?_
            refine A_iload_n dX10_sure_124 rfl rfl ?_
            refine A_imul dX10_sure_125 ?_
            refine A_iload_n dX10_sure_126 rfl rfl ?_
            refine A_iadd dX10_sure_127 ?_
            refine A_ialdK (i := ((30 * v) + w)) dX10_sure_128 (HM_at (by decide)) (ixA (ixU rfl rfl) rfl) (by omega) (by decide) ?_
            refine A_eqI ew ?_
            refine A_istore (lv1 := [_, _, _, _, _, _, _, _, _]) dX10_sure_129 (Nat.le_of_ble_eq_true rfl) rfl rfl ?_
            refine A_inc 1 (lv1 := [_, _, _, _, _, _, _, _, _]) dX10_sure_131 rfl (by decide) rfl rfl ?_
            refine A_goto 55 dX10_sure_134 (by decide) ?_
            rw [nI_1]
            exact ih (i + 1) _ _ _ (by omega) E2 (Or.inr ⟨rfl, hA⟩)
          · exact absurd rfl c86
        · have q9 : ¬ PM c (N / 3, f) i = -1 := fun z => by rw [if_pos ((ag_none (by omega)).mpr z)] at c78; exact absurd c78 (by decide)
          refine A_goto 131 dX10_sure_81 (by decide) ?_
          refine A_inc 1 (lv1 := [_, _, _, _, _, _, _, _, _]) dX10_sure_131 rfl (by decide) rfl rfl ?_
          refine A_goto 55 dX10_sure_134 (by decide) ?_
          rw [nI_1]
          exact ih (i + 1) _ _ _ (by omega) E2 (Or.inr ⟨rfl, hA⟩)

theorem k_sure (G : GX) {b : Nat} {c m : CT} {ml : Nat → Nat → Int64} {r : Nat → Option AE} {n : Nat} {nv nc nf nl wk : Nat} {S : Nat → Option ST} {s v w : Int32} (h : BL nv nc nf nl wk c m) (hS : SL S m ml) : MA G 5 yX10_sure cX10_sure 9 (some .int) 0 0 [.ref b, .int s, .int v, .int w] (HM b m ml r n) (qI fun x9 h1 => x9 = sureA c S nv nf wk s v w ∧ ∃ m1 ml1, h1 = HM b m1 ml1 r n ∧ KM m ml m1 ml1) := by
  refine MA.of (own := RX10) false [some (.ref b), some (.int s), some (.int v), some (.int w), none, none, none, none, none] (by decide +kernel) rfl (fun h => by cases h) (Nat.le_of_ble_eq_true rfl) rfl (fun X => ?_)
  have hX := h.ix
  obtain ⟨xv, xv6, xc, xc8, xf, xf3, xl, xl8, xw, xw30, xC, xL⟩ := id hX
  have hI := h.im
  obtain ⟨hv, hv6, hc, hc8, hf, hf3, hl, hl8, hw, hw30, gC, gL⟩ := id hI
  have hT := h.tm
  refine A_aload_n dX10_sure_0 rfl rfl ?_
  refine A_iload_n dX10_sure_1 rfl rfl ?_
  refine A_aload_n dX10_sure_2 rfl rfl ?_
  refine A_iload_n dX10_sure_3 rfl rfl ?_
  refine A_callVi dX10_sure_4 m_X10_93 cb_X10_isVillage (As := [_]) rfl HM_at0 rfl (k_isVillage G hv (by omega)) rfl ⟨by decide, by decide⟩ (Nat.le_of_ble_eq_true rfl) ⟨by decide, by decide⟩ (fun x4 h4 hq => ?_)
  obtain ⟨rfl, rfl⟩ := hq
  refine A_if_eq 22 dX10_sure_7 (by decide) (fun c7 => ?_) (fun c7 => ?_)
  · refine A_iconst (v := 0) dX10_sure_22 (by decide) ?_
    refine A_eqI (y := rI c v w) (by rw [rI, xv, xw, if_pos c7]) ?_
    refine A_callVi dX10_sure_23 m_X10_390 cb_X10_asksMarks (As := [_, _]) rfl HM_at0 rfl (k_asksMarks G h hS) rfl ⟨by decide, by decide⟩ (Nat.le_of_ble_eq_true rfl) ⟨by decide, by decide⟩ (fun x23 h23 hq => ?_)
    obtain ⟨rfl, rfl⟩ := hq
    refine A_istore (lv1 := [_, _, _, _, _, _, _, _, _]) dX10_sure_26 (Nat.le_of_ble_eq_true rfl) rfl rfl ?_
    refine A_iload dX10_sure_28 rfl ?_
    refine A_if_ge 36 dX10_sure_30 (by decide) (fun c30 => ?_) (fun c30 => ?_)
    · have q0 : mwA c S nv wk s (¬ rI c v w = 0) = 0 := by by_cases z : mwA c S nv wk s (¬ rI c v w = 0) = 0; exact z; exact absurd (mw_neg.mpr z) (Int32.not_lt.mpr c30)
      obtain ⟨j, N, f, hj, rfl, e17, hN, h3, e19, hok, hr0, hSF⟩ := SF_3 hS q0
      obtain ⟨hr1, hr2⟩ := rI_of hr0
      obtain ⟨u, hu9, rfl⟩ := inI_of xv hr1 (by omega)
      obtain ⟨u2, hu2, rfl⟩ := inI_of xw hr2 (by omega)
      have eA : sureA c S nv nf wk (nI j) (nI u) (nI u2) = whM (PM c (N / 3, f)) (sdS c u u2) 0 (tot nv nf) (-1) := by rw [sureA, if_pos q0, hSF, tcl_nI (by omega), tcl_nI (by omega)]
      rw [eA]
      refine A_aload_n dX10_sure_36 rfl rfl ?_
      refine A_callVv dX10_sure_37 m_X10_333 cb_X10_keepsTakers (As := []) rfl HM_at0 rfl (k_keepsTakers G) rfl ⟨by decide, by decide⟩ (Nat.le_of_ble_eq_true rfl) ⟨by decide, by decide⟩ (fun h37 hq => ?_)
      obtain ⟨g, rfl, hg⟩ := hq
      refine A_iconst (v := (-1)) dX10_sure_40 (by decide) ?_
      refine A_istore (lv1 := [_, _, _, _, _, _, _, _, _]) dX10_sure_41 (Nat.le_of_ble_eq_true rfl) rfl rfl ?_
      refine A_iconst (v := 1) dX10_sure_43 (by decide) ?_
      refine A_istore (lv1 := [_, _, _, _, _, _, _, _, _]) dX10_sure_44 (Nat.le_of_ble_eq_true rfl) rfl rfl ?_
      refine A_aload_n dX10_sure_46 rfl rfl ?_
      refine A_callVi dX10_sure_47 m_X10_339 cb_X10_takersMany (As := []) rfl HM_at0 rfl (k_takersMany G ((EM.mk hg).im h.im)) rfl ⟨by decide, by decide⟩ (Nat.le_of_ble_eq_true rfl) ⟨by decide, by decide⟩ (fun x47 h47 hq => ?_)
      obtain ⟨rfl, rfl⟩ := hq
      refine A_istore (lv1 := [_, _, _, _, _, _, _, _, _]) dX10_sure_50 (Nat.le_of_ble_eq_true rfl) rfl rfl ?_
      refine A_iconst (v := 0) dX10_sure_52 (by decide) ?_
      refine A_istore (lv1 := [_, _, _, _, _, _, _, _, _]) dX10_sure_53 (Nat.le_of_ble_eq_true rfl) rfl rfl ?_
      exact sure_loop G X ⟨rfl, rfl⟩ h hj e17 hN h3 e19 hok hu9 hu2 (tot nv nf) 0 _ _ _ (by omega) (EM.mk hg) (Or.inl ⟨rfl, rfl⟩)
    · have q0 : ¬ mwA c S nv wk s (¬ rI c v w = 0) = 0 := mw_neg.mp (Int32.not_le.mp c30)
      refine A_iload dX10_sure_33 rfl ?_
      exact A_iret dX10_sure_35 ⟨by rw [sureA, if_neg q0], ⟨_, _, rfl, KM.rf⟩⟩ ⟨by decide, by decide⟩
  · refine A_aload_n dX10_sure_10 rfl rfl ?_
    refine A_iload_n dX10_sure_11 rfl rfl ?_
    refine A_callVi dX10_sure_12 m_X10_314 cb_X10_isWeek (As := [_]) rfl HM_at0 rfl (k_isWeek G hw (by omega)) rfl ⟨by decide, by decide⟩ (Nat.le_of_ble_eq_true rfl) ⟨by decide, by decide⟩ (fun x12 h12 hq => ?_)
    obtain ⟨rfl, rfl⟩ := hq
    refine A_if_eq 22 dX10_sure_15 (by decide) (fun c15 => ?_) (fun c15 => ?_)
    · refine A_iconst (v := 0) dX10_sure_22 (by decide) ?_
      refine A_eqI (y := rI c v w) (by rw [rI, xv, xw, if_neg c7, if_pos c15]) ?_
      refine A_callVi dX10_sure_23 m_X10_390 cb_X10_asksMarks (As := [_, _]) rfl HM_at0 rfl (k_asksMarks G h hS) rfl ⟨by decide, by decide⟩ (Nat.le_of_ble_eq_true rfl) ⟨by decide, by decide⟩ (fun x23 h23 hq => ?_)
      obtain ⟨rfl, rfl⟩ := hq
      refine A_istore (lv1 := [_, _, _, _, _, _, _, _, _]) dX10_sure_26 (Nat.le_of_ble_eq_true rfl) rfl rfl ?_
      refine A_iload dX10_sure_28 rfl ?_
      refine A_if_ge 36 dX10_sure_30 (by decide) (fun c30 => ?_) (fun c30 => ?_)
      · have q0 : mwA c S nv wk s (¬ rI c v w = 0) = 0 := by by_cases z : mwA c S nv wk s (¬ rI c v w = 0) = 0; exact z; exact absurd (mw_neg.mpr z) (Int32.not_lt.mpr c30)
        obtain ⟨j, N, f, hj, rfl, e17, hN, h3, e19, hok, hr0, hSF⟩ := SF_3 hS q0
        obtain ⟨hr1, hr2⟩ := rI_of hr0
        obtain ⟨u, hu9, rfl⟩ := inI_of xv hr1 (by omega)
        obtain ⟨u2, hu2, rfl⟩ := inI_of xw hr2 (by omega)
        have eA : sureA c S nv nf wk (nI j) (nI u) (nI u2) = whM (PM c (N / 3, f)) (sdS c u u2) 0 (tot nv nf) (-1) := by rw [sureA, if_pos q0, hSF, tcl_nI (by omega), tcl_nI (by omega)]
        rw [eA]
        refine A_aload_n dX10_sure_36 rfl rfl ?_
        refine A_callVv dX10_sure_37 m_X10_333 cb_X10_keepsTakers (As := []) rfl HM_at0 rfl (k_keepsTakers G) rfl ⟨by decide, by decide⟩ (Nat.le_of_ble_eq_true rfl) ⟨by decide, by decide⟩ (fun h37 hq => ?_)
        obtain ⟨g, rfl, hg⟩ := hq
        refine A_iconst (v := (-1)) dX10_sure_40 (by decide) ?_
        refine A_istore (lv1 := [_, _, _, _, _, _, _, _, _]) dX10_sure_41 (Nat.le_of_ble_eq_true rfl) rfl rfl ?_
        refine A_iconst (v := 1) dX10_sure_43 (by decide) ?_
        refine A_istore (lv1 := [_, _, _, _, _, _, _, _, _]) dX10_sure_44 (Nat.le_of_ble_eq_true rfl) rfl rfl ?_
        refine A_aload_n dX10_sure_46 rfl rfl ?_
        refine A_callVi dX10_sure_47 m_X10_339 cb_X10_takersMany (As := []) rfl HM_at0 rfl (k_takersMany G ((EM.mk hg).im h.im)) rfl ⟨by decide, by decide⟩ (Nat.le_of_ble_eq_true rfl) ⟨by decide, by decide⟩ (fun x47 h47 hq => ?_)
        obtain ⟨rfl, rfl⟩ := hq
        refine A_istore (lv1 := [_, _, _, _, _, _, _, _, _]) dX10_sure_50 (Nat.le_of_ble_eq_true rfl) rfl rfl ?_
        refine A_iconst (v := 0) dX10_sure_52 (by decide) ?_
        refine A_istore (lv1 := [_, _, _, _, _, _, _, _, _]) dX10_sure_53 (Nat.le_of_ble_eq_true rfl) rfl rfl ?_
        exact sure_loop G X ⟨rfl, rfl⟩ h hj e17 hN h3 e19 hok hu9 hu2 (tot nv nf) 0 _ _ _ (by omega) (EM.mk hg) (Or.inl ⟨rfl, rfl⟩)
      · have q0 : ¬ mwA c S nv wk s (¬ rI c v w = 0) = 0 := mw_neg.mp (Int32.not_le.mp c30)
        refine A_iload dX10_sure_33 rfl ?_
        exact A_iret dX10_sure_35 ⟨by rw [sureA, if_neg q0], ⟨_, _, rfl, KM.rf⟩⟩ ⟨by decide, by decide⟩
    · refine A_iconst (v := 1) dX10_sure_18 (by decide) ?_
      refine A_goto 23 dX10_sure_19 (by decide) ?_
      refine A_eqI (y := rI c v w) (by rw [rI, xv, xw, if_neg c7, if_neg c15]) ?_
      refine A_callVi dX10_sure_23 m_X10_390 cb_X10_asksMarks (As := [_, _]) rfl HM_at0 rfl (k_asksMarks G h hS) rfl ⟨by decide, by decide⟩ (Nat.le_of_ble_eq_true rfl) ⟨by decide, by decide⟩ (fun x23 h23 hq => ?_)
      obtain ⟨rfl, rfl⟩ := hq
      refine A_istore (lv1 := [_, _, _, _, _, _, _, _, _]) dX10_sure_26 (Nat.le_of_ble_eq_true rfl) rfl rfl ?_
      refine A_iload dX10_sure_28 rfl ?_
      refine A_if_ge 36 dX10_sure_30 (by decide) (fun c30 => ?_) (fun c30 => ?_)
      · have q0 : mwA c S nv wk s (¬ rI c v w = 0) = 0 := by by_cases z : mwA c S nv wk s (¬ rI c v w = 0) = 0; exact z; exact absurd (mw_neg.mpr z) (Int32.not_lt.mpr c30)
        obtain ⟨j, N, f, hj, rfl, e17, hN, h3, e19, hok, hr0, hSF⟩ := SF_3 hS q0
        obtain ⟨hr1, hr2⟩ := rI_of hr0
        obtain ⟨u, hu9, rfl⟩ := inI_of xv hr1 (by omega)
        obtain ⟨u2, hu2, rfl⟩ := inI_of xw hr2 (by omega)
        have eA : sureA c S nv nf wk (nI j) (nI u) (nI u2) = whM (PM c (N / 3, f)) (sdS c u u2) 0 (tot nv nf) (-1) := by rw [sureA, if_pos q0, hSF, tcl_nI (by omega), tcl_nI (by omega)]
        rw [eA]
        refine A_aload_n dX10_sure_36 rfl rfl ?_
        refine A_callVv dX10_sure_37 m_X10_333 cb_X10_keepsTakers (As := []) rfl HM_at0 rfl (k_keepsTakers G) rfl ⟨by decide, by decide⟩ (Nat.le_of_ble_eq_true rfl) ⟨by decide, by decide⟩ (fun h37 hq => ?_)
        obtain ⟨g, rfl, hg⟩ := hq
        refine A_iconst (v := (-1)) dX10_sure_40 (by decide) ?_
        refine A_istore (lv1 := [_, _, _, _, _, _, _, _, _]) dX10_sure_41 (Nat.le_of_ble_eq_true rfl) rfl rfl ?_
        refine A_iconst (v := 1) dX10_sure_43 (by decide) ?_
        refine A_istore (lv1 := [_, _, _, _, _, _, _, _, _]) dX10_sure_44 (Nat.le_of_ble_eq_true rfl) rfl rfl ?_
        refine A_aload_n dX10_sure_46 rfl rfl ?_
        refine A_callVi dX10_sure_47 m_X10_339 cb_X10_takersMany (As := []) rfl HM_at0 rfl (k_takersMany G ((EM.mk hg).im h.im)) rfl ⟨by decide, by decide⟩ (Nat.le_of_ble_eq_true rfl) ⟨by decide, by decide⟩ (fun x47 h47 hq => ?_)
        obtain ⟨rfl, rfl⟩ := hq
        refine A_istore (lv1 := [_, _, _, _, _, _, _, _, _]) dX10_sure_50 (Nat.le_of_ble_eq_true rfl) rfl rfl ?_
        refine A_iconst (v := 0) dX10_sure_52 (by decide) ?_
        refine A_istore (lv1 := [_, _, _, _, _, _, _, _, _]) dX10_sure_53 (Nat.le_of_ble_eq_true rfl) rfl rfl ?_
        exact sure_loop G X ⟨rfl, rfl⟩ h hj e17 hN h3 e19 hok hu9 hu2 (tot nv nf) 0 _ _ _ (by omega) (EM.mk hg) (Or.inl ⟨rfl, rfl⟩)
      · have q0 : ¬ mwA c S nv wk s (¬ rI c v w = 0) = 0 := mw_neg.mp (Int32.not_le.mp c30)
        refine A_iload dX10_sure_33 rfl ?_
        exact A_iret dX10_sure_35 ⟨by rw [sureA, if_neg q0], ⟨_, _, rfl, KM.rf⟩⟩ ⟨by decide, by decide⟩
