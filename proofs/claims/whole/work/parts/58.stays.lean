/-! each step of the YEAR stays in bounds -/
theorem lendS_Y9 {nv nc nf nl wk w i : Nat} {y : CT} (hI : IX y nv nc nf nl wk) (hP : PRC nv nc nf nl wk y) (hp : 0 ≤ (y 28 2).toInt ∧ (y 28 2).toInt ≤ 100) (hW : YW nv y) (hL : YL nl y) (hZ : LZ nl w 0 y) (hYZ : YZ nv nc nf nl y) (hi : i < nl) (hw : w < 30) : YW nv (lendS (nI w) i y) ∧ YL nl (lendS (nI w) i y) ∧ LZ nl w 0 (lendS (nI w) i y) ∧ YZ nv nc nf nl (lendS (nI w) i y) := by
  unfold lendS
  by_cases z : y 14 (5 * i + 3) = nI w
  · rw [if_pos z]
    split
    · exact ⟨hW, hL, hZ, hYZ⟩
    · obtain ⟨gA, gB⟩ := hI.2.2.2.2.2.2.2.2.2.2.2 i hi
      have hne := tcl_ne gA gB (by have := hI.2.1; omega) (hP.2.2.2.1 i hi).1
      have hv := vp_tcl gA
      have ht := vp_tcl gB
      have hc := (hP.2.2.2.1 i hi).2.1
      have hot := (hP.2.2.2.1 i hi).2.2
      have eW : (w : Int) = (y 14 (5 * i + 3)).toInt := by rw [z, nI_toInt (by omega)]
      have z4 := hZ i hi (Or.inl (by omega))
      dsimp only
      generalize tcl (y 14 (5 * i + 0)) = v at hv hne ⊢
      generalize tcl (y 14 (5 * i + 1)) = t at ht hne ⊢
      have hr := room_b hP hW ht
      have hwv := hW v hv
      have hwt := hW t ht
      have hpv := (hP.1 v hv).1
      have hpt := (hP.1 t ht).1
      have q1 := mn_le1 (mn (y 14 (5 * i + 2)) (y 30 v)) (roomF y t)
      have q2 := mn_le2 (mn (y 14 (5 * i + 2)) (y 30 v)) (roomF y t)
      have q3 := mn_le2 (y 14 (5 * i + 2)) (y 30 v)
      have q4 := mn_le1 (y 14 (5 * i + 2)) (y 30 v)
      have q0 : 0 ≤ (mn (mn (y 14 (5 * i + 2)) (y 30 v)) (roomF y t)).toInt := mn_ge (mn_ge (by omega) hwv.1) hr.2.1
      generalize mn (mn (y 14 (5 * i + 2)) (y 30 v)) (roomF y t) = q at q0 q1 q2 ⊢
      rw [put_at]
      have mb := more_b (y := put y 35 i q) (x := q) (by rw [put_ne (by decide)]; exact hp) q0 (by omega)
      generalize moreF (put y 35 i q) q = o at mb ⊢
      simp (decide := true) only [put_ne, put_at]
      rw [put_no (Ne.symm hne)]
      simp (decide := true) only [put_ne, put_at]
      have eS : (y 30 v - q).toInt = (y 30 v).toInt - q.toInt := subT (by omega) (by omega)
      have eA : (y 30 t + q).toInt = (y 30 t).toInt + q.toInt := addT (by omega) (by omega)
      refine ⟨?_, ?_, ?_, ?_⟩
      · refine YW.pu (YW.pu ((hW.ot (by decide)).ot (by decide)) (by omega) (fun _ => ?_)) (by omega) (fun _ => ?_)
        · simp (decide := true) only [put_ne]; omega
        · simp (decide := true) only [put_ne]; omega
      · intro j hj
        simp (decide := true) only [put_ne]
        by_cases e : j = i
        · subst e
          rw [put_at, z4]
          exact ⟨by decide, by rw [T0]; exact mb.1, mb.2⟩
        · rw [put_no e]
          simp (decide := true) only [put_ne]
          exact hL j hj
      · exact hZ.to (by simp (decide := true) only [put_ne]) (by simp (decide := true) only [put_ne])
      · refine ⟨fun j hj => ?_, fun j hj => ?_, fun j hj => ?_, fun u hu => ?_⟩
        · simp (decide := true) only [put_ne]; exact hYZ.1 j hj
        · simp (decide := true) only [put_ne]
          rw [put_no (by omega), put_no (by omega)]
          simp (decide := true) only [put_ne]
          exact hYZ.2.1 j hj
        · simp (decide := true) only [put_ne]; exact hYZ.2.2.1 j hj
        · rw [put_no (by omega), put_no (by omega)]
          simp (decide := true) only [put_ne]
          exact hYZ.2.2.2 u hu
  · rw [if_neg z]; exact ⟨hW, hL, hZ, hYZ⟩
theorem noteF_ne {w : Int32} {y : CT} {l : Nat} (h : l ≠ 28) : noteF w y l = y l := by
  unfold noteF; split
  · exact put_ne h
  · rfl
theorem repayS_Y9 {nv nc nf nl wk w i : Nat} {y : CT} (hI : IX y nv nc nf nl wk) (hP : PRC nv nc nf nl wk y) (hW : YW nv y) (hL : YL nl y) (hZ : LZ nl w i y) (hYZ : YZ nv nc nf nl y) (hi : i < nl) (hw : w < 30) : YW nv (repayS (nI w) i y) ∧ YL nl (repayS (nI w) i y) ∧ LZ nl w (i + 1) (repayS (nI w) i y) ∧ YZ nv nc nf nl (repayS (nI w) i y) := by
  have wk1 : LZ nl w (i + 1) y := fun j hj z => hZ j hj (z.imp id (fun z => ⟨by omega, z.2⟩))
  unfold repayS
  by_cases z : y 14 (5 * i + 4) = nI w
  · rw [if_pos z]
    obtain ⟨gA, gB⟩ := hI.2.2.2.2.2.2.2.2.2.2.2 i hi
    have hne := tcl_ne gA gB (by have := hI.2.1; omega) (hP.2.2.2.1 i hi).1
    have hv := vp_tcl gA
    have ht := vp_tcl gB
    have eW : (w : Int) = (y 14 (5 * i + 4)).toInt := by rw [z, nI_toInt (by omega)]
    dsimp only
    generalize tcl (y 14 (5 * i + 0)) = v at hv hne ⊢
    generalize tcl (y 14 (5 * i + 1)) = t at ht hne ⊢
    have hr := room_b hP hW hv
    have hwv := hW v hv
    have hwt := hW t ht
    have hLi := hL i hi
    have hpv := (hP.1 v hv).1
    have hpt := (hP.1 t ht).1
    have q1 := mn_le1 (mn (y 36 i) (y 30 t)) (roomF y v)
    have q2 := mn_le2 (mn (y 36 i) (y 30 t)) (roomF y v)
    have q3 := mn_le2 (y 36 i) (y 30 t)
    have q4 := mn_le1 (y 36 i) (y 30 t)
    have q0 : 0 ≤ (mn (mn (y 36 i) (y 30 t)) (roomF y v)).toInt := mn_ge (mn_ge (by omega) hwt.1) hr.2.1
    generalize mn (mn (y 36 i) (y 30 t)) (roomF y v) = q at q0 q1 q2 ⊢
    simp (decide := true) only [put_ne, put_at]
    rw [put_no (c := put y 37 i q) (i := t) hne]
    simp (decide := true) only [put_ne]
    have eS : (y 30 t - q).toInt = (y 30 t).toInt - q.toInt := subT (by omega) (by omega)
    have eA : (y 30 v + q).toInt = (y 30 v).toInt + q.toInt := addT (by omega) (by omega)
    have key : ∀ Y : CT, (∀ l, l ≠ 28 → Y l = (put (put (put y 37 i q) 30 t (y 30 t - q)) 30 v (y 30 v + q)) l) → YW nv Y ∧ YL nl Y ∧ LZ nl w (i + 1) Y ∧ YZ nv nc nf nl Y := by
      intro Y hY
      refine ⟨?_, ?_, ?_, ?_⟩
      · have h1 : YW nv (put (put (put y 37 i q) 30 t (y 30 t - q)) 30 v (y 30 v + q)) := by
          refine YW.pu (YW.pu (hW.ot (by decide)) (by omega) (fun _ => ?_)) (by omega) (fun _ => ?_)
          · simp (decide := true) only [put_ne]; omega
          · simp (decide := true) only [put_ne]; omega
        exact h1.to (hY 30 (by decide)) (hY 8 (by decide))
      · intro j hj
        rw [hY 36 (by decide), hY 37 (by decide)]
        simp (decide := true) only [put_ne]
        by_cases e : j = i
        · subst e
          rw [put_at]
          omega
        · rw [put_no e]
          exact hL j hj
      · intro j hj zz
        rw [hY 14 (by decide)] at zz
        rw [hY 37 (by decide)]
        simp (decide := true) only [put_ne] at zz ⊢
        by_cases e : j = i
        · subst e
          rcases zz with zz | zz <;> omega
        · rw [put_no e]
          exact wk1 j hj zz
      · refine ⟨fun j hj => ?_, fun j hj => ?_, fun j hj => ?_, fun u hu => ?_⟩
        · rw [hY 32 (by decide), hY 33 (by decide), hY 34 (by decide)]; simp (decide := true) only [put_ne]; exact hYZ.1 j hj
        · rw [hY 35 (by decide), hY 36 (by decide), hY 37 (by decide)]; simp (decide := true) only [put_ne]
          rw [put_no (by omega)]
          exact hYZ.2.1 j hj
        · rw [hY 38 (by decide)]; simp (decide := true) only [put_ne]; exact hYZ.2.2.1 j hj
        · rw [hY 30 (by decide), put_no (by omega), put_no (by omega)]
          simp (decide := true) only [put_ne]
          exact hYZ.2.2.2 u hu
    split
    · exact key _ (fun _ _ => rfl)
    · exact key _ (fun l hl => noteF_ne hl)
  · rw [if_neg z]
    refine ⟨hW, hL, fun j hj zz => ?_, hYZ⟩
    exact wk1 j hj zz
theorem giveS_Y9 {nv nc nf nl wk w i : Nat} {y : CT} (hP : PRC nv nc nf nl wk y) (hT : TX y nv nf) (hW : YW nv y) (hF : YF nf y) (hZ : FZ nf w nf y) (hYZ : YZ nv nc nf nl y) (hi : i < nf) (hw : w < 30) : YW nv (giveS (nI w) i y) ∧ YF nf (giveS (nI w) i y) ∧ FZ nf w nf (giveS (nI w) i y) ∧ YZ nv nc nf nl (giveS (nI w) i y) := by
  unfold giveS
  by_cases z : y 29 i = -1
  · rw [if_pos z]; exact ⟨hW, hF, hZ, hYZ⟩
  · rw [if_neg z]
    have hv := vp_tcl (hT i hi z)
    dsimp only
    generalize tcl (y 29 i) = v at hv ⊢
    have hwv := hW v hv
    have hpv := (hP.1 v hv).1
    have hFi := hF i hi
    have q3 := mn_le2 (y 33 i) (y 30 v)
    have q4 := mn_le1 (y 33 i) (y 30 v)
    have q0 : 0 ≤ (mn (y 33 i) (y 30 v)).toInt := mn_ge (by omega) hwv.1
    generalize mn (y 33 i) (y 30 v) = q at q0 q3 q4 ⊢
    simp (decide := true) only [put_ne, put_at]
    have eS : (y 30 v - q).toInt = (y 30 v).toInt - q.toInt := subT (by omega) (by omega)
    have key : ∀ Y : CT, (∀ l, l ≠ 28 → Y l = (put (put y 34 i q) 30 v (y 30 v - q)) l) → YW nv Y ∧ YF nf Y ∧ FZ nf w nf Y ∧ YZ nv nc nf nl Y := by
      intro Y hY
      refine ⟨?_, ?_, ?_, ?_⟩
      · have h1 : YW nv (put (put y 34 i q) 30 v (y 30 v - q)) := by
          refine YW.pu (hW.ot (by decide)) (by omega) (fun _ => ?_)
          simp (decide := true) only [put_ne]; omega
        exact h1.to (hY 30 (by decide)) (hY 8 (by decide))
      · intro j hj
        rw [hY 33 (by decide), hY 34 (by decide)]
        simp (decide := true) only [put_ne]
        by_cases e : j = i
        · subst e
          rw [put_at]
          omega
        · rw [put_no e]
          exact hF j hj
      · intro j hj zz
        rw [hY 12 (by decide)] at zz
        rw [hY 33 (by decide), hY 34 (by decide)]
        simp (decide := true) only [put_ne] at zz ⊢
        have h2 := hZ j hj zz
        by_cases e : j = i
        · subst e
          rw [put_at]
          have : (y 33 j).toInt = 0 := eqT0.mp h2.1
          exact ⟨h2.1, eqT0.mpr (by omega)⟩
        · rw [put_no e]
          exact h2
      · refine ⟨fun j hj => ?_, fun j hj => ?_, fun j hj => ?_, fun u hu => ?_⟩
        · rw [hY 32 (by decide), hY 33 (by decide), hY 34 (by decide)]; simp (decide := true) only [put_ne]; rw [put_no (by omega)]; exact hYZ.1 j hj
        · rw [hY 35 (by decide), hY 36 (by decide), hY 37 (by decide)]; simp (decide := true) only [put_ne]
          exact hYZ.2.1 j hj
        · rw [hY 38 (by decide)]; simp (decide := true) only [put_ne]; exact hYZ.2.2.1 j hj
        · rw [hY 30 (by decide), put_no (by omega)]
          simp (decide := true) only [put_ne]
          exact hYZ.2.2.2 u hu
    split
    · exact key _ (fun _ _ => rfl)
    · exact key _ (fun l hl => noteF_ne hl)
theorem YC.nx {nc w i : Nat} {y : CT} (h : YC nc w i y) : YC nc w (i + 1) y := by
  intro j hj
  have h1 := h j hj
  by_cases a : j < i
  · rw [if_pos a] at h1; rw [if_pos (by omega)]; exact h1
  · rw [if_neg a] at h1
    refine ⟨h1.1, ?_, h1.2.2.1, ?_, h1.2.2.2.2⟩ <;> (have := h1.2.1; have := h1.2.2.2.1; split <;> omega)
theorem YD.nx {nv nc w i : Nat} {y : CT} (h : YD nv nc w i y) : YD nv nc w (i + 1) y := by
  intro v hv
  have h1 := h v hv
  exact ⟨h1.1, by have := h1.2.1; omega, h1.2.2⟩
theorem drinkS_Y9 {nv nc nf nl wk w i : Nat} {y : CT} (hI : IX y nv nc nf nl wk) (hP : PRC nv nc nf nl wk y) (hW : YW nv y) (hC : YC nc w i y) (hD : YD nv nc w i y) (hYZ : YZ nv nc nf nl y) (hi : i < nc) (hw : w < 30) : YW nv (drinkS (nI w) i y) ∧ YC nc w (i + 1) (drinkS (nI w) i y) ∧ YD nv nc w (i + 1) (drinkS (nI w) i y) ∧ YZ nv nc nf nl (drinkS (nI w) i y) := by
  have hc8 := hI.2.2.2.1
  have hCi := hC i hi
  rw [if_neg (Nat.lt_irrefl i)] at hCi
  have gV := hI.2.2.2.2.2.2.2.2.2.2.1 i hi
  have hv := vp_tcl gV
  have eV : tcl (y 10 (5 * i + 0)) = tcl (y 10 (5 * i + 0)) := rfl
  generalize hVe : tcl (y 10 (5 * i + 0)) = v at hv
  have hwv := hW v hv
  have hpv := (hP.1 v hv).1
  have hci := hP.2.1 i hi
  unfold drinkS
  split
  · exact ⟨hW, hC.nx, hD.nx, hYZ⟩
  · split
    · exact ⟨hW, hC.nx, hD.nx, hYZ⟩
    · split
      · rw [hVe]
        have hDv := hD v hv
        unfold dryF
        dsimp only
        -- the dry one
        have key : ∀ Y Z : CT, (∀ l, l ≠ 28 → Y l = (put (put Z 39 i (Z 39 i + 1)) 41 v 1) l) → Z = (if y 39 i = 0 then put y 40 i (nI w) else y) → YW nv Y ∧ YC nc w (i + 1) Y ∧ YD nv nc w (i + 1) Y ∧ YZ nv nc nf nl Y := by
          intro Y Z hY hZ
          have hl : ∀ l, l ≠ 40 → Z l = y l := by
            intro l hl; rw [hZ]; split
            · exact put_ne hl
            · rfl
          have e39 : (y 39 i + 1).toInt = (y 39 i).toInt + 1 := addT (by show (-2147483648 : Int) ≤ _ + 1; omega) (by show (_ : Int) + 1 ≤ _; omega)
          have e41 : (1 : Int32).toInt = 1 := rfl
          have n39 : ¬ y 39 i + 1 = 0 := fun z => by have := eqT0.mp z; omega
          have n41 : ¬ (1 : Int32) = 0 := by decide
          refine ⟨?_, ?_, ?_, ?_⟩
          · refine hW.to ?_ ?_
            · rw [hY 30 (by decide)]; simp (decide := true) only [put_ne]; exact hl 30 (by decide)
            · rw [hY 8 (by decide)]; simp (decide := true) only [put_ne]; exact hl 8 (by decide)
          · intro j hj
            rw [hY 38 (by decide), hY 39 (by decide), hY 40 (by decide)]
            simp (decide := true) only [put_ne]
            rw [hl 38 (by decide), hl 39 (by decide)]
            have h1 := hC.nx j hj
            by_cases e : j = i
            · subst e
              rw [put_at, if_pos (by omega)]
              rw [if_pos (by omega)] at h1
              refine ⟨h1.1, h1.2.1, by omega, by omega, ?_⟩
              refine ⟨fun z => absurd z n39, fun z => ?_⟩
              rw [hZ] at z
              split at z
              · next q => rw [put_at] at z; exact absurd z (by
                  intro z
                  have e9 := congrArg Int32.toInt z
                  rw [nI_toInt (by omega)] at e9
                  have : (-1 : Int32).toInt = -1 := rfl
                  omega)
              · next q => exact absurd (h1.2.2.2.2.mpr z) q
            · have e40 : Z 40 j = y 40 j := by
                rw [hZ]; split
                · exact put_no e
                · rfl
              rw [put_no e, hl 39 (by decide), e40]
              exact h1
          · intro u hu
            rw [hY 41 (by decide), hY 39 (by decide), hY 10 (by decide)]
            simp (decide := true) only [put_ne]
            rw [hl 39 (by decide), hl 10 (by decide)]
            have h1 := hD u hu
            by_cases e : u = v
            · subst e
              rw [put_at]
              refine ⟨by omega, by omega, ⟨fun z => absurd z n41, fun z => ?_⟩⟩
              have := z i hi hVe
              rw [put_at] at this
              exact absurd this n39
            · rw [put_no e]
              simp (decide := true) only [put_ne]
              rw [hl 41 (by decide)]
              refine ⟨h1.1, by omega, ?_⟩
              rw [h1.2.2]
              constructor
              · intro z j hj hq
                have : j ≠ i := fun q => by subst q; exact e (hq.symm.trans hVe)
                rw [put_no this, hl 39 (by decide)]
                exact z j hj hq
              · intro z j hj hq
                have h3 := z j hj hq
                have : j ≠ i := fun q => by subst q; exact e (hq.symm.trans hVe)
                rw [put_no this, hl 39 (by decide)] at h3
                exact h3
          · refine hYZ.to ?_ ?_ ?_ ?_ ?_ ?_ ?_ ?_
            · rw [hY 30 (by decide)]; simp (decide := true) only [put_ne]; exact hl 30 (by decide)
            · rw [hY 32 (by decide)]; simp (decide := true) only [put_ne]; exact hl 32 (by decide)
            · rw [hY 33 (by decide)]; simp (decide := true) only [put_ne]; exact hl 33 (by decide)
            · rw [hY 34 (by decide)]; simp (decide := true) only [put_ne]; exact hl 34 (by decide)
            · rw [hY 35 (by decide)]; simp (decide := true) only [put_ne]; exact hl 35 (by decide)
            · rw [hY 36 (by decide)]; simp (decide := true) only [put_ne]; exact hl 36 (by decide)
            · rw [hY 37 (by decide)]; simp (decide := true) only [put_ne]; exact hl 37 (by decide)
            · rw [hY 38 (by decide)]; simp (decide := true) only [put_ne]; exact hl 38 (by decide)
        refine key _ _ (fun l hl => (noteF_ne hl).trans ?_) rfl
        rfl
      · next hlt =>
        rw [hVe] at hlt
        rw [hVe]
        have hge : (y 10 (5 * i + 1)).toInt ≤ (y 30 v).toInt := by
          have := Int32.lt_iff_toInt_lt (x := y 30 v) (y := y 10 (5 * i + 1))
          rw [this] at hlt; omega
        dsimp only
        simp (decide := true) only [put_ne]
        have eS : (y 30 v - y 10 (5 * i + 1)).toInt = (y 30 v).toInt - (y 10 (5 * i + 1)).toInt := subT (by omega) (by omega)
        have eA : (y 38 i + y 10 (5 * i + 2)).toInt = (y 38 i).toInt + (y 10 (5 * i + 2)).toInt := addT (by omega) (by omega)
        refine ⟨?_, ?_, ?_, ?_⟩
        · refine YW.ot (YW.ot (YW.pu hW (by omega) (fun _ => by omega)) (by decide)) (by decide)
        · intro j hj
          simp (decide := true) only [put_ne]
          have h1 := hC.nx j hj
          by_cases e : j = i
          · subst e
            rw [put_at, if_pos (by omega)]
            rw [if_pos (by omega)] at h1
            exact ⟨by omega, by omega, h1.2.2.1, h1.2.2.2.1, h1.2.2.2.2⟩
          · rw [put_no e]
            simp (decide := true) only [put_ne]
            exact h1
        · exact hD.nx.to (by simp (decide := true) only [put_ne]) (by simp (decide := true) only [put_ne]) (by simp (decide := true) only [put_ne])
        · refine ⟨fun j hj => ?_, fun j hj => ?_, fun j hj => ?_, fun u hu => ?_⟩
          · simp (decide := true) only [put_ne]; exact hYZ.1 j hj
          · simp (decide := true) only [put_ne]; exact hYZ.2.1 j hj
          · rw [put_no (by omega)]; simp (decide := true) only [put_ne]; exact hYZ.2.2.1 j hj
          · simp (decide := true) only [put_ne]; rw [put_no (by omega)]; exact hYZ.2.2.2 u hu
theorem skyS_Y9 {nv nc nf nl wk i : Nat} {y : CT} {w : Nat} (hP : PRC nv nc nf nl wk y) (hW : YW nv y) (hYZ : YZ nv nc nf nl y) (hi : i < nv) (hw : w < 30) : YW nv (skyS (y 15 w) i y) ∧ YZ nv nc nf nl (skyS (y 15 w) i y) := by
  unfold skyS
  dsimp only
  have hwv := hW i hi
  have hpv := hP.1 i hi
  have hs := hP.2.2.2.2 w hw
  have hm0 : 0 ≤ (y 8 (5 * i + 2)).toInt * (y 15 w).toInt := Int.mul_nonneg hpv.2.2.1.1 hs.1
  have hm1 : (y 8 (5 * i + 2)).toInt * (y 15 w).toInt ≤ 99 * 99 := Int.mul_le_mul hpv.2.2.1.2 hs.2 hs.1 (by decide)
  have e1 : (y 8 (5 * i + 2) * y 15 w).toInt = (y 8 (5 * i + 2)).toInt * (y 15 w).toInt := mulT (by omega) (by omega)
  have e100 : (100 : Int32).toInt = 100 := rfl
  have e2 : (y 8 (5 * i + 2) * y 15 w / 100).toInt = (y 8 (5 * i + 2)).toInt * (y 15 w).toInt / 100 := by rw [divT (by omega) (by decide), e1, e100]
  have q1 := mn_le1 (y 30 i) (y 8 (5 * i + 2) * y 15 w / 100)
  have q0 : 0 ≤ (mn (y 30 i) (y 8 (5 * i + 2) * y 15 w / 100)).toInt := mn_ge hwv.1 (by rw [e2]; omega)
  generalize mn (y 30 i) (y 8 (5 * i + 2) * y 15 w / 100) = q at q0 q1 ⊢
  have eS : (y 30 i - q).toInt = (y 30 i).toInt - q.toInt := subT (by omega) (by omega)
  refine ⟨YW.ot (YW.pu hW (by omega) (fun _ => by omega)) (by decide), ⟨fun j hj => ?_, fun j hj => ?_, fun j hj => ?_, fun u hu => ?_⟩⟩
  · simp (decide := true) only [put_ne]; exact hYZ.1 j hj
  · simp (decide := true) only [put_ne]; exact hYZ.2.1 j hj
  · simp (decide := true) only [put_ne]; exact hYZ.2.2.1 j hj
  · simp (decide := true) only [put_ne]; rw [put_no (by omega)]; exact hYZ.2.2.2 u hu
theorem seepS_Y9 {nv nc nf nl wk i : Nat} {y : CT} (hP : PRC nv nc nf nl wk y) (hW : YW nv y) (hYZ : YZ nv nc nf nl y) (hi : i < nv) : (YW nv (seepS nv i y) ∧ YZ nv nc nf nl (seepS nv i y)) ∧ ∀ q : Int32, mn (mn (y 30 i) (y 8 (5 * i + 3))) (roomF y (i + 1)) = q → i + 1 < nv → q ≤ 0 → q = 0 := by
  unfold seepS
  dsimp only
  have hwv := hW i hi
  have hpv := hP.1 i hi
  have q1 := mn_le1 (y 30 i) (y 8 (5 * i + 3))
  have q0 : 0 ≤ (mn (y 30 i) (y 8 (5 * i + 3))).toInt := mn_ge hwv.1 hpv.2.2.2.1.1
  generalize mn (y 30 i) (y 8 (5 * i + 3)) = l at q0 q1 ⊢
  have eS : (y 30 i - l).toInt = (y 30 i).toInt - l.toInt := subT (by omega) (by omega)
  by_cases z : i + 1 < nv
  · rw [if_pos z]
    have hr := room_b hP hW z
    have hw2 := hW (i + 1) z
    have hp2 := (hP.1 (i + 1) z).1
    have r1 := mn_le1 l (roomF y (i + 1))
    have r2 := mn_le2 l (roomF y (i + 1))
    have r0 : 0 ≤ (mn l (roomF y (i + 1))).toInt := mn_ge q0 hr.2.1
    generalize mn l (roomF y (i + 1)) = q at r0 r1 r2 ⊢
    have e30 : (put y 30 i (y 30 i - l)) 30 (i + 1) = y 30 (i + 1) := put_no (by omega)
    rw [e30]
    have eA : (y 30 (i + 1) + q).toInt = (y 30 (i + 1)).toInt + q.toInt := addT (by omega) (by omega)
    refine ⟨⟨YW.ot (YW.pu (YW.pu hW (by omega) (fun _ => by omega)) (by omega) (fun _ => by rw [put_ne (by decide)]; omega)) (by decide), ⟨fun j hj => ?_, fun j hj => ?_, fun j hj => ?_, fun u hu => ?_⟩⟩, fun q' e _ h0 => ?_⟩
    · simp (decide := true) only [put_ne]; exact hYZ.1 j hj
    · simp (decide := true) only [put_ne]; exact hYZ.2.1 j hj
    · simp (decide := true) only [put_ne]; exact hYZ.2.2.1 j hj
    · simp (decide := true) only [put_ne]; rw [put_no (by omega), put_no (by omega)]; exact hYZ.2.2.2 u hu
    · subst e
      rw [Int32.le_iff_toInt_le, T0] at h0
      exact eqT0.mpr (by omega)
  · rw [if_neg z]
    refine ⟨⟨YW.ot (YW.pu hW (by omega) (fun _ => by omega)) (by decide), ⟨fun j hj => ?_, fun j hj => ?_, fun j hj => ?_, fun u hu => ?_⟩⟩, fun q' e z2 h0 => absurd z2 z⟩
    · simp (decide := true) only [put_ne]; exact hYZ.1 j hj
    · simp (decide := true) only [put_ne]; exact hYZ.2.1 j hj
    · simp (decide := true) only [put_ne]; exact hYZ.2.2.1 j hj
    · simp (decide := true) only [put_ne]; rw [put_no (by omega)]; exact hYZ.2.2.2 u hu