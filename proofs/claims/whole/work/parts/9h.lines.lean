/-! a LINE goes alike: all forms -/
theorem lw_f {c y : CT} {L p : Nat} {f : Nat → Int32} (h : CP L f p c) (T : TokAt c y L p) : lwF y 7 0 = if wdB f L p 7 = true then nI 0 else if wdB f L p 11 = true then nI 1 else if wdB f L p 12 = true then nI 2 else if wdB f L p 13 = true then nI 3 else if wdB f L p 14 = true then nI 4 else if wdB f L p 15 = true then nI 5 else if wdB f L p 16 = true then nI 6 else -1 := by
  have e := lw_eq T h.1 h.2.1 h.2.2.1
  rw [h.cg.2.2.2.2, h.cg.2.2.2.2, h.cg.2.2.2.2, h.cg.2.2.2.2, h.cg.2.2.2.2, h.cg.2.2.2.2, h.cg.2.2.2.2] at e
  exact e
theorem nx_11 {f g : Nat → Int32} {L p : Nat} (w : wdB f L p 11 = true) (hn : ¬ g 0 = 6) : nxS f L ((0, p), g) = viS f L (tcl (g 0)) ((0, nxP f L p), g) := by
  have no : ∀ i, i < 31 → 11 ≠ i → ¬ wdB f L p i = true := fun i hi hne q => hne (wd_uniq (by decide) hi w q)
  have hk : knP f L p := Or.inl w
  have hf : ¬ fuP f L p g := by
    rintro (⟨q, e⟩ | ⟨q, e⟩ | ⟨q, e⟩ | ⟨q, e⟩)
    · exact hn e
    · exact no 12 (by decide) (by decide) q
    · exact no 14 (by decide) (by decide) q
    · exact no 15 (by decide) (by decide) q
  rw [nxS]
  try dsimp only
  rw [if_neg (fun z => z hk), if_neg hf, dsS]
  try dsimp only
  rw [if_pos w]
theorem nx_11f {f g : Nat → Int32} {L p : Nat} (w : wdB f L p 11 = true) (hn : g 0 = 6) : nxS f L ((0, p), g) = ((3, tkS f L p), g) := by
  have hk : knP f L p := Or.inl w
  have hf : fuP f L p g := Or.inl ⟨w, hn⟩
  rw [nxS]
  try dsimp only
  rw [if_neg (fun z => z hk), if_pos hf]
theorem nx_12 {f g : Nat → Int32} {L p : Nat} (w : wdB f L p 12 = true) (hn : ¬ g 1 = 8) : nxS f L ((0, p), g) = crS f L (tcl (g 1)) ((0, nxP f L p), g) := by
  have no : ∀ i, i < 31 → 12 ≠ i → ¬ wdB f L p i = true := fun i hi hne q => hne (wd_uniq (by decide) hi w q)
  have hk : knP f L p := Or.inr (Or.inl w)
  have hf : ¬ fuP f L p g := by
    rintro (⟨q, e⟩ | ⟨q, e⟩ | ⟨q, e⟩ | ⟨q, e⟩)
    · exact no 11 (by decide) (by decide) q
    · exact hn e
    · exact no 14 (by decide) (by decide) q
    · exact no 15 (by decide) (by decide) q
  rw [nxS]
  try dsimp only
  rw [if_neg (fun z => z hk), if_neg hf, dsS]
  try dsimp only
  rw [if_neg (no 11 (by decide) (by decide)), if_pos w]
theorem nx_12f {f g : Nat → Int32} {L p : Nat} (w : wdB f L p 12 = true) (hn : g 1 = 8) : nxS f L ((0, p), g) = ((3, tkS f L p), g) := by
  have hk : knP f L p := Or.inr (Or.inl w)
  have hf : fuP f L p g := Or.inr (Or.inl ⟨w, hn⟩)
  rw [nxS]
  try dsimp only
  rw [if_neg (fun z => z hk), if_pos hf]
theorem nx_13 {f g : Nat → Int32} {L p : Nat} (w : wdB f L p 13 = true) : nxS f L ((0, p), g) = suS f L ((0, nxP f L p), g) := by
  have no : ∀ i, i < 31 → 13 ≠ i → ¬ wdB f L p i = true := fun i hi hne q => hne (wd_uniq (by decide) hi w q)
  have hk : knP f L p := Or.inr (Or.inr (Or.inl w))
  have hf : ¬ fuP f L p g := by
    rintro (⟨q, e⟩ | ⟨q, e⟩ | ⟨q, e⟩ | ⟨q, e⟩)
    · exact no 11 (by decide) (by decide) q
    · exact no 12 (by decide) (by decide) q
    · exact no 14 (by decide) (by decide) q
    · exact no 15 (by decide) (by decide) q
  rw [nxS]
  try dsimp only
  rw [if_neg (fun z => z hk), if_neg hf, dsS]
  try dsimp only
  rw [if_neg (no 11 (by decide) (by decide)), if_neg (no 12 (by decide) (by decide)), if_pos w]
theorem nx_14 {f g : Nat → Int32} {L p : Nat} (w : wdB f L p 14 = true) (hn : ¬ g 2 = 3) : nxS f L ((0, p), g) = flS f L (tcl (g 2)) ((0, nxP f L p), g) := by
  have no : ∀ i, i < 31 → 14 ≠ i → ¬ wdB f L p i = true := fun i hi hne q => hne (wd_uniq (by decide) hi w q)
  have hk : knP f L p := Or.inr (Or.inr (Or.inr (Or.inl w)))
  have hf : ¬ fuP f L p g := by
    rintro (⟨q, e⟩ | ⟨q, e⟩ | ⟨q, e⟩ | ⟨q, e⟩)
    · exact no 11 (by decide) (by decide) q
    · exact no 12 (by decide) (by decide) q
    · exact hn e
    · exact no 15 (by decide) (by decide) q
  rw [nxS]
  try dsimp only
  rw [if_neg (fun z => z hk), if_neg hf, dsS]
  try dsimp only
  rw [if_neg (no 11 (by decide) (by decide)), if_neg (no 12 (by decide) (by decide)), if_neg (no 13 (by decide) (by decide)), if_pos w]
theorem nx_14f {f g : Nat → Int32} {L p : Nat} (w : wdB f L p 14 = true) (hn : g 2 = 3) : nxS f L ((0, p), g) = ((3, tkS f L p), g) := by
  have hk : knP f L p := Or.inr (Or.inr (Or.inr (Or.inl w)))
  have hf : fuP f L p g := Or.inr (Or.inr (Or.inl ⟨w, hn⟩))
  rw [nxS]
  try dsimp only
  rw [if_neg (fun z => z hk), if_pos hf]
theorem nx_15 {f g : Nat → Int32} {L p : Nat} (w : wdB f L p 15 = true) (hn : ¬ g 3 = 8) : nxS f L ((0, p), g) = loS f L (tcl (g 3)) ((0, nxP f L p), g) := by
  have no : ∀ i, i < 31 → 15 ≠ i → ¬ wdB f L p i = true := fun i hi hne q => hne (wd_uniq (by decide) hi w q)
  have hk : knP f L p := Or.inr (Or.inr (Or.inr (Or.inr (Or.inl w))))
  have hf : ¬ fuP f L p g := by
    rintro (⟨q, e⟩ | ⟨q, e⟩ | ⟨q, e⟩ | ⟨q, e⟩)
    · exact no 11 (by decide) (by decide) q
    · exact no 12 (by decide) (by decide) q
    · exact no 14 (by decide) (by decide) q
    · exact hn e
  rw [nxS]
  try dsimp only
  rw [if_neg (fun z => z hk), if_neg hf, dsS]
  try dsimp only
  rw [if_neg (no 11 (by decide) (by decide)), if_neg (no 12 (by decide) (by decide)), if_neg (no 13 (by decide) (by decide)), if_neg (no 14 (by decide) (by decide)), if_pos w]
theorem nx_15f {f g : Nat → Int32} {L p : Nat} (w : wdB f L p 15 = true) (hn : g 3 = 8) : nxS f L ((0, p), g) = ((3, tkS f L p), g) := by
  have hk : knP f L p := Or.inr (Or.inr (Or.inr (Or.inr (Or.inl w))))
  have hf : fuP f L p g := Or.inr (Or.inr (Or.inr ⟨w, hn⟩))
  rw [nxS]
  try dsimp only
  rw [if_neg (fun z => z hk), if_pos hf]
theorem nx_16 {f g : Nat → Int32} {L p : Nat} (w : wdB f L p 16 = true) : nxS f L ((0, p), g) = caS f L ((0, nxP f L p), g) := by
  have no : ∀ i, i < 31 → 16 ≠ i → ¬ wdB f L p i = true := fun i hi hne q => hne (wd_uniq (by decide) hi w q)
  have hk : knP f L p := Or.inr (Or.inr (Or.inr (Or.inr (Or.inr w))))
  have hf : ¬ fuP f L p g := by
    rintro (⟨q, e⟩ | ⟨q, e⟩ | ⟨q, e⟩ | ⟨q, e⟩)
    · exact no 11 (by decide) (by decide) q
    · exact no 12 (by decide) (by decide) q
    · exact no 14 (by decide) (by decide) q
    · exact no 15 (by decide) (by decide) q
  rw [nxS]
  try dsimp only
  rw [if_neg (fun z => z hk), if_neg hf, dsS]
  try dsimp only
  rw [if_neg (no 11 (by decide) (by decide)), if_neg (no 12 (by decide) (by decide)), if_neg (no 13 (by decide) (by decide)), if_neg (no 14 (by decide) (by decide)), if_neg (no 15 (by decide) (by decide))]
theorem nx_no {f g : Nat → Int32} {L p : Nat} (h : ¬ knP f L p) : nxS f L ((0, p), g) = ((1, tkS f L p), g) := by
  rw [nxS]
  try dsimp only
  rw [if_pos h]
theorem lnE_bad {f : Nat → Int32} {L : Nat} {s : RS} {o : Int32 × Nat} (h : s.1 = o) (ho : ¬ o.1 = 0) : (lnE f L s).1 = o := by
  show smO f L s.1 = o
  rw [h]; exact smO_bad ho
theorem lw_11 {c y : CT} {L p : Nat} {f : Nat → Int32} (h : CP L f p c) (T : TokAt c y L p) (w : wdB f L p 11 = true) : lwF y 7 0 = nI 1 := by
  have no : ∀ i, i < 31 → 11 ≠ i → ¬ wdB f L p i = true := fun i hi hne q => hne (wd_uniq (by decide) hi w q)
  rw [lw_f h T, if_neg (no 7 (by decide) (by decide)), if_pos w]
theorem lw_12 {c y : CT} {L p : Nat} {f : Nat → Int32} (h : CP L f p c) (T : TokAt c y L p) (w : wdB f L p 12 = true) : lwF y 7 0 = nI 2 := by
  have no : ∀ i, i < 31 → 12 ≠ i → ¬ wdB f L p i = true := fun i hi hne q => hne (wd_uniq (by decide) hi w q)
  rw [lw_f h T, if_neg (no 7 (by decide) (by decide)), if_neg (no 11 (by decide) (by decide)), if_pos w]
theorem lw_13 {c y : CT} {L p : Nat} {f : Nat → Int32} (h : CP L f p c) (T : TokAt c y L p) (w : wdB f L p 13 = true) : lwF y 7 0 = nI 3 := by
  have no : ∀ i, i < 31 → 13 ≠ i → ¬ wdB f L p i = true := fun i hi hne q => hne (wd_uniq (by decide) hi w q)
  rw [lw_f h T, if_neg (no 7 (by decide) (by decide)), if_neg (no 11 (by decide) (by decide)), if_neg (no 12 (by decide) (by decide)), if_pos w]
theorem lw_14 {c y : CT} {L p : Nat} {f : Nat → Int32} (h : CP L f p c) (T : TokAt c y L p) (w : wdB f L p 14 = true) : lwF y 7 0 = nI 4 := by
  have no : ∀ i, i < 31 → 14 ≠ i → ¬ wdB f L p i = true := fun i hi hne q => hne (wd_uniq (by decide) hi w q)
  rw [lw_f h T, if_neg (no 7 (by decide) (by decide)), if_neg (no 11 (by decide) (by decide)), if_neg (no 12 (by decide) (by decide)), if_neg (no 13 (by decide) (by decide)), if_pos w]
theorem lw_15 {c y : CT} {L p : Nat} {f : Nat → Int32} (h : CP L f p c) (T : TokAt c y L p) (w : wdB f L p 15 = true) : lwF y 7 0 = nI 5 := by
  have no : ∀ i, i < 31 → 15 ≠ i → ¬ wdB f L p i = true := fun i hi hne q => hne (wd_uniq (by decide) hi w q)
  rw [lw_f h T, if_neg (no 7 (by decide) (by decide)), if_neg (no 11 (by decide) (by decide)), if_neg (no 12 (by decide) (by decide)), if_neg (no 13 (by decide) (by decide)), if_neg (no 14 (by decide) (by decide)), if_pos w]
theorem lw_16 {c y : CT} {L p : Nat} {f : Nat → Int32} (h : CP L f p c) (T : TokAt c y L p) (w : wdB f L p 16 = true) : lwF y 7 0 = nI 6 := by
  have no : ∀ i, i < 31 → 16 ≠ i → ¬ wdB f L p i = true := fun i hi hne q => hne (wd_uniq (by decide) hi w q)
  rw [lw_f h T, if_neg (no 7 (by decide) (by decide)), if_neg (no 11 (by decide) (by decide)), if_neg (no 12 (by decide) (by decide)), if_neg (no 13 (by decide) (by decide)), if_neg (no 14 (by decide) (by decide)), if_neg (no 15 (by decide) (by decide)), if_pos w]
theorem lc_11 {L p K nv nc nf nl wk : Nat} {f g : Nat → Int32} {c0 : CT} (h : CP L f p c0) (hF : FD nv nc nf nl wk K (stp L c0) g) (h0 : 0 < K) (hKl : K < 1600) (w : wdB f L p 11 = true) : LQ L f p K (stp L c0) (rlA L (stp L c0)) (lnE f L (nxS f L ((0, p), g))) := by
  obtain ⟨zP, T, zl, z52, z51⟩ := h.st
  have hb := nxP_b h
  have lw := lw_11 h T w
  obtain ⟨c, ec⟩ : ∃ c, stp L c0 = c := ⟨_, rfl⟩
  rw [ec] at hF zP T zl z52 z51 lw ⊢
  have hC := hF.cnt
  obtain ⟨⟨hv, hv6⟩, ⟨hc, hc8⟩, ⟨hf, hf3⟩, ⟨hl, hl8⟩⟩ := id hC
  obtain ⟨⟨gv, -⟩, ⟨gc, -⟩, ⟨gf, -⟩, ⟨gl, -⟩, g5, w30⟩ := hF.cf
  have hz : ¬ c 16 5 = 0 := by rw [hF.1.1.1]; exact nI_neN h0 (by omega)
  have hi : nI 1 = 0 ↔ c 16 5 = 0 := ⟨fun q => absurd q (by decide), fun q => absurd q hz⟩
  have b0 : (g 0 - 1).toInt < 99999 := by rw [gv, nv_m1 (by omega)]; omega
  have b5 : (g 5 - 1).toInt < 99999 := by rw [g5, nv_m1 (by omega)]; omega
  have q0 : c 17 2 = g 0 := hv.trans gv.symm
  have q5 : c 16 6 = g 5 := hF.1.2.1.1.trans g5.symm
  by_cases hn : nv < 6
  · have hg : ¬ g 0 = 6 := by rw [gv]; exact fun z => by have := (nI_eq (a := nv) (b := 6) (by omega) (by decide)).mp z; omega
    refine (fun (q : LQ L f (nxP f L p) K c (rlE L (nI 1) (rlL L (nI 1) 1 (itJ 1) 0 c)) (lnE f L (viS f L (nv) ((0, nxP f L p), g)))) => ?_) (ln_fin (K := K) (fo_1 (N := nv) zP) hC (fun y z g9 hV e4 el => ?_))
    · rw [rlA_go (by decide) lw hi ((fu_1 hv hv6).mpr hn), nx_11 w hg, gv, tcl_nI (by omega)]
      exact q.imp (fun u => ⟨u.1, u.2.1, u.2.2.1, by have := u.2.2.2.1; omega, u.2.2.2.2⟩) id
    · obtain ⟨v0, v1, v2, v3, e9, hz4, r0, r1, r2, r3⟩ := hV
      exact ⟨_, _, _, _, _, kp_1 (hF.to el) h0 hKl hn e9 (by rw [e4]; exact hz4) r0 r1 r2 r3⟩
  · have hg : g 0 = 6 := by rw [gv, show nv = 6 by omega]; rfl
    rw [rlA_n3 (by decide) lw hi (fun z => hn ((fu_1 hv hv6).mp z)), nx_11f w hg]
    obtain ⟨f1, f2, -⟩ := fail_f (y := c) (k := 3)
    exact Or.inr ⟨(by decide : ¬ (3 : Int32) = 0), rfl, f1, f2.trans z52⟩
theorem lc_12 {L p K nv nc nf nl wk : Nat} {f g : Nat → Int32} {c0 : CT} (h : CP L f p c0) (hF : FD nv nc nf nl wk K (stp L c0) g) (h0 : 0 < K) (hKl : K < 1600) (w : wdB f L p 12 = true) : LQ L f p K (stp L c0) (rlA L (stp L c0)) (lnE f L (nxS f L ((0, p), g))) := by
  obtain ⟨zP, T, zl, z52, z51⟩ := h.st
  have hb := nxP_b h
  have lw := lw_12 h T w
  obtain ⟨c, ec⟩ : ∃ c, stp L c0 = c := ⟨_, rfl⟩
  rw [ec] at hF zP T zl z52 z51 lw ⊢
  have hC := hF.cnt
  obtain ⟨⟨hv, hv6⟩, ⟨hc, hc8⟩, ⟨hf, hf3⟩, ⟨hl, hl8⟩⟩ := id hC
  obtain ⟨⟨gv, -⟩, ⟨gc, -⟩, ⟨gf, -⟩, ⟨gl, -⟩, g5, w30⟩ := hF.cf
  have hz : ¬ c 16 5 = 0 := by rw [hF.1.1.1]; exact nI_neN h0 (by omega)
  have hi : nI 2 = 0 ↔ c 16 5 = 0 := ⟨fun q => absurd q (by decide), fun q => absurd q hz⟩
  have b0 : (g 0 - 1).toInt < 99999 := by rw [gv, nv_m1 (by omega)]; omega
  have b5 : (g 5 - 1).toInt < 99999 := by rw [g5, nv_m1 (by omega)]; omega
  have q0 : c 17 2 = g 0 := hv.trans gv.symm
  have q5 : c 16 6 = g 5 := hF.1.2.1.1.trans g5.symm
  by_cases hn : nc < 8
  · have hg : ¬ g 1 = 8 := by rw [gc]; exact fun z => by have := (nI_eq (a := nc) (b := 8) (by omega) (by decide)).mp z; omega
    refine (fun (q : LQ L f (nxP f L p) K c (rlE L (nI 2) (rlL L (nI 2) 2 (itJ 2) 0 c)) (lnE f L (crS f L (nc) ((0, nxP f L p), g)))) => ?_) (ln_fin (K := K) (fo_2 (N := nc) zP q0 b0 q5 b5) hC (fun y z g9 hV e4 el => ?_))
    · rw [rlA_go (by decide) lw hi ((fu_2 hc hc8).mpr hn), nx_12 w hg, gc, tcl_nI (by omega)]
      exact q.imp (fun u => ⟨u.1, u.2.1, u.2.2.1, by have := u.2.2.2.1; omega, u.2.2.2.2⟩) id
    · obtain ⟨v0, v1, v2, v3, v4, e9, hz4, r0, r1, r2, r3, r4⟩ := hV
      exact ⟨_, _, _, _, _, kp_2 (hF.to el) h0 hKl hn e9 (by rw [e4]; exact hz4) r0 r1 r2⟩
  · have hg : g 1 = 8 := by rw [gc, show nc = 8 by omega]; rfl
    rw [rlA_n3 (by decide) lw hi (fun z => hn ((fu_2 hc hc8).mp z)), nx_12f w hg]
    obtain ⟨f1, f2, -⟩ := fail_f (y := c) (k := 3)
    exact Or.inr ⟨(by decide : ¬ (3 : Int32) = 0), rfl, f1, f2.trans z52⟩
theorem lc_13 {L p K nv nc nf nl wk : Nat} {f g : Nat → Int32} {c0 : CT} (h : CP L f p c0) (hF : FD nv nc nf nl wk K (stp L c0) g) (h0 : 0 < K) (hKl : K < 1600) (w : wdB f L p 13 = true) : LQ L f p K (stp L c0) (rlA L (stp L c0)) (lnE f L (nxS f L ((0, p), g))) := by
  obtain ⟨zP, T, zl, z52, z51⟩ := h.st
  have hb := nxP_b h
  have lw := lw_13 h T w
  obtain ⟨c, ec⟩ : ∃ c, stp L c0 = c := ⟨_, rfl⟩
  rw [ec] at hF zP T zl z52 z51 lw ⊢
  have hC := hF.cnt
  obtain ⟨⟨hv, hv6⟩, ⟨hc, hc8⟩, ⟨hf, hf3⟩, ⟨hl, hl8⟩⟩ := id hC
  obtain ⟨⟨gv, -⟩, ⟨gc, -⟩, ⟨gf, -⟩, ⟨gl, -⟩, g5, w30⟩ := hF.cf
  have hz : ¬ c 16 5 = 0 := by rw [hF.1.1.1]; exact nI_neN h0 (by omega)
  have hi : nI 3 = 0 ↔ c 16 5 = 0 := ⟨fun q => absurd q (by decide), fun q => absurd q hz⟩
  have b0 : (g 0 - 1).toInt < 99999 := by rw [gv, nv_m1 (by omega)]; omega
  have b5 : (g 5 - 1).toInt < 99999 := by rw [g5, nv_m1 (by omega)]; omega
  have q0 : c 17 2 = g 0 := hv.trans gv.symm
  have q5 : c 16 6 = g 5 := hF.1.2.1.1.trans g5.symm
  refine (fun (q : LQ L f (nxP f L p) K c (rlE L (nI 3) (rlL L (nI 3) 3 (itJ 3) 0 c)) (lnE f L (suS f L ((0, nxP f L p), g)))) => ?_) (ln_fin (K := K) (fo_3 zP q5 b5) hC (fun y z g9 hV e4 el => ?_))
  · rw [rlA_go (by decide) lw hi (fu_0.2.1), nx_13 w]
    exact q.imp (fun u => ⟨u.1, u.2.1, u.2.2.1, by have := u.2.2.2.1; omega, u.2.2.2.2⟩) id
  · obtain ⟨v0, v1, e9, hz4, r0, r1⟩ := hV
    exact ⟨_, _, _, _, _, kp_3 (hF.to el) h0 hKl e9 (by rw [e4]; exact hz4) r0 r1⟩
theorem lc_14 {L p K nv nc nf nl wk : Nat} {f g : Nat → Int32} {c0 : CT} (h : CP L f p c0) (hF : FD nv nc nf nl wk K (stp L c0) g) (h0 : 0 < K) (hKl : K < 1600) (w : wdB f L p 14 = true) : LQ L f p K (stp L c0) (rlA L (stp L c0)) (lnE f L (nxS f L ((0, p), g))) := by
  obtain ⟨zP, T, zl, z52, z51⟩ := h.st
  have hb := nxP_b h
  have lw := lw_14 h T w
  obtain ⟨c, ec⟩ : ∃ c, stp L c0 = c := ⟨_, rfl⟩
  rw [ec] at hF zP T zl z52 z51 lw ⊢
  have hC := hF.cnt
  obtain ⟨⟨hv, hv6⟩, ⟨hc, hc8⟩, ⟨hf, hf3⟩, ⟨hl, hl8⟩⟩ := id hC
  obtain ⟨⟨gv, -⟩, ⟨gc, -⟩, ⟨gf, -⟩, ⟨gl, -⟩, g5, w30⟩ := hF.cf
  have hz : ¬ c 16 5 = 0 := by rw [hF.1.1.1]; exact nI_neN h0 (by omega)
  have hi : nI 4 = 0 ↔ c 16 5 = 0 := ⟨fun q => absurd q (by decide), fun q => absurd q hz⟩
  have b0 : (g 0 - 1).toInt < 99999 := by rw [gv, nv_m1 (by omega)]; omega
  have b5 : (g 5 - 1).toInt < 99999 := by rw [g5, nv_m1 (by omega)]; omega
  have q0 : c 17 2 = g 0 := hv.trans gv.symm
  have q5 : c 16 6 = g 5 := hF.1.2.1.1.trans g5.symm
  by_cases hn : nf < 3
  · have hg : ¬ g 2 = 3 := by rw [gf]; exact fun z => by have := (nI_eq (a := nf) (b := 3) (by omega) (by decide)).mp z; omega
    refine (fun (q : LQ L f (nxP f L p) K c (rlE L (nI 4) (rlL L (nI 4) 4 (itJ 4) 0 c)) (lnE f L (flS f L (nf) ((0, nxP f L p), g)))) => ?_) (ln_fin (K := K) (fo_4 (N := nf) zP q5 b5) hC (fun y z g9 hV e4 el => ?_))
    · rw [rlA_go (by decide) lw hi ((fu_4 hf hf3).mpr hn), nx_14 w hg, gf, tcl_nI (by omega)]
      exact q.imp (fun u => ⟨u.1, u.2.1, u.2.2.1, by have := u.2.2.2.1; omega, u.2.2.2.2⟩) id
    · obtain ⟨v0, v1, v2, e9, hz4, r0, r1, r2⟩ := hV
      exact ⟨_, _, _, _, _, kp_4 (hF.to el) h0 hKl hn e9 (by rw [e4]; exact hz4) r1 r2⟩
  · have hg : g 2 = 3 := by rw [gf, show nf = 3 by omega]; rfl
    rw [rlA_n3 (by decide) lw hi (fun z => hn ((fu_4 hf hf3).mp z)), nx_14f w hg]
    obtain ⟨f1, f2, -⟩ := fail_f (y := c) (k := 3)
    exact Or.inr ⟨(by decide : ¬ (3 : Int32) = 0), rfl, f1, f2.trans z52⟩
theorem lc_15 {L p K nv nc nf nl wk : Nat} {f g : Nat → Int32} {c0 : CT} (h : CP L f p c0) (hF : FD nv nc nf nl wk K (stp L c0) g) (h0 : 0 < K) (hKl : K < 1600) (w : wdB f L p 15 = true) : LQ L f p K (stp L c0) (rlA L (stp L c0)) (lnE f L (nxS f L ((0, p), g))) := by
  obtain ⟨zP, T, zl, z52, z51⟩ := h.st
  have hb := nxP_b h
  have lw := lw_15 h T w
  obtain ⟨c, ec⟩ : ∃ c, stp L c0 = c := ⟨_, rfl⟩
  rw [ec] at hF zP T zl z52 z51 lw ⊢
  have hC := hF.cnt
  obtain ⟨⟨hv, hv6⟩, ⟨hc, hc8⟩, ⟨hf, hf3⟩, ⟨hl, hl8⟩⟩ := id hC
  obtain ⟨⟨gv, -⟩, ⟨gc, -⟩, ⟨gf, -⟩, ⟨gl, -⟩, g5, w30⟩ := hF.cf
  have hz : ¬ c 16 5 = 0 := by rw [hF.1.1.1]; exact nI_neN h0 (by omega)
  have hi : nI 5 = 0 ↔ c 16 5 = 0 := ⟨fun q => absurd q (by decide), fun q => absurd q hz⟩
  have b0 : (g 0 - 1).toInt < 99999 := by rw [gv, nv_m1 (by omega)]; omega
  have b5 : (g 5 - 1).toInt < 99999 := by rw [g5, nv_m1 (by omega)]; omega
  have q0 : c 17 2 = g 0 := hv.trans gv.symm
  have q5 : c 16 6 = g 5 := hF.1.2.1.1.trans g5.symm
  by_cases hn : nl < 8
  · have hg : ¬ g 3 = 8 := by rw [gl]; exact fun z => by have := (nI_eq (a := nl) (b := 8) (by omega) (by decide)).mp z; omega
    refine (fun (q : LQ L f (nxP f L p) K c (rlE L (nI 5) (rlL L (nI 5) 5 (itJ 5) 0 c)) (lnE f L (loS f L (nl) ((0, nxP f L p), g)))) => ?_) (ln_fin (K := K) (fo_5 (N := nl) zP q0 b0 q5 b5) hC (fun y z g9 hV e4 el => ?_))
    · rw [rlA_go (by decide) lw hi ((fu_5 hl hl8).mpr hn), nx_15 w hg, gl, tcl_nI (by omega)]
      exact q.imp (fun u => ⟨u.1, u.2.1, u.2.2.1, by have := u.2.2.2.1; omega, u.2.2.2.2⟩) id
    · obtain ⟨v0, v1, v2, v3, v4, e9, hz4, ne, r0, r1, r2, r3, r4⟩ := hV
      exact ⟨_, _, _, _, _, kp_5 (hF.to el) h0 hKl hn e9 (by rw [e4]; exact hz4) ne r0 r1 r2 r4.1⟩
  · have hg : g 3 = 8 := by rw [gl, show nl = 8 by omega]; rfl
    rw [rlA_n3 (by decide) lw hi (fun z => hn ((fu_5 hl hl8).mp z)), nx_15f w hg]
    obtain ⟨f1, f2, -⟩ := fail_f (y := c) (k := 3)
    exact Or.inr ⟨(by decide : ¬ (3 : Int32) = 0), rfl, f1, f2.trans z52⟩
theorem lc_16 {L p K nv nc nf nl wk : Nat} {f g : Nat → Int32} {c0 : CT} (h : CP L f p c0) (hF : FD nv nc nf nl wk K (stp L c0) g) (h0 : 0 < K) (hKl : K < 1600) (w : wdB f L p 16 = true) : LQ L f p K (stp L c0) (rlA L (stp L c0)) (lnE f L (nxS f L ((0, p), g))) := by
  obtain ⟨zP, T, zl, z52, z51⟩ := h.st
  have hb := nxP_b h
  have lw := lw_16 h T w
  obtain ⟨c, ec⟩ : ∃ c, stp L c0 = c := ⟨_, rfl⟩
  rw [ec] at hF zP T zl z52 z51 lw ⊢
  have hC := hF.cnt
  obtain ⟨⟨hv, hv6⟩, ⟨hc, hc8⟩, ⟨hf, hf3⟩, ⟨hl, hl8⟩⟩ := id hC
  obtain ⟨⟨gv, -⟩, ⟨gc, -⟩, ⟨gf, -⟩, ⟨gl, -⟩, g5, w30⟩ := hF.cf
  have hz : ¬ c 16 5 = 0 := by rw [hF.1.1.1]; exact nI_neN h0 (by omega)
  have hi : nI 6 = 0 ↔ c 16 5 = 0 := ⟨fun q => absurd q (by decide), fun q => absurd q hz⟩
  have b0 : (g 0 - 1).toInt < 99999 := by rw [gv, nv_m1 (by omega)]; omega
  have b5 : (g 5 - 1).toInt < 99999 := by rw [g5, nv_m1 (by omega)]; omega
  have q0 : c 17 2 = g 0 := hv.trans gv.symm
  have q5 : c 16 6 = g 5 := hF.1.2.1.1.trans g5.symm
  refine (fun (q : LQ L f (nxP f L p) K c (rlE L (nI 6) (rlL L (nI 6) 6 (itJ 6) 0 c)) (lnE f L (caS f L ((0, nxP f L p), g)))) => ?_) (ln_fin (K := K) (fo_6 zP q0 b0) hC (fun y z g9 hV e4 el => ?_))
  · rw [rlA_go (by decide) lw hi (fu_0.2.2), nx_16 w]
    exact q.imp (fun u => ⟨u.1, u.2.1, u.2.2.1, by have := u.2.2.2.1; omega, u.2.2.2.2⟩) id
  · obtain ⟨v0, v1, e9, hz4, r0, r1⟩ := hV
    exact ⟨_, _, _, _, _, kp_6 (hF.to el) h0 hKl e9 (by rw [e4]; exact hz4) r0 r1⟩
theorem lc_no {L p K nv nc nf nl wk : Nat} {f g : Nat → Int32} {c0 : CT} (h : CP L f p c0) (hF : FD nv nc nf nl wk K (stp L c0) g) (h0 : 0 < K) (hk : ¬ knP f L p) : LQ L f p K (stp L c0) (rlA L (stp L c0)) (lnE f L (nxS f L ((0, p), g))) := by
  obtain ⟨zP, T, zl, z52, z51⟩ := h.st
  have lw := lw_f h T
  have hz : ¬ stp L c0 16 5 = 0 := by rw [hF.1.1.1]; exact nI_neN h0 (by have := hF.1.1.2.2.1; omega)
  obtain ⟨f1, f2, -⟩ := fail_f (y := stp L c0) (k := 1)
  have hA : rlA L (stp L c0) = (0, failF (stp L c0) 1) := by
    refine rlA_n1 ?_
    by_cases w7 : wdB f L p 7 = true
    · rw [if_pos w7] at lw
      exact Or.inr (by rw [lw]; exact fun q => hz (q.mp rfl))
    · rw [if_neg w7, if_neg (fun q => hk (Or.inl q)), if_neg (fun q => hk (Or.inr (Or.inl q))), if_neg (fun q => hk (Or.inr (Or.inr (Or.inl q)))), if_neg (fun q => hk (Or.inr (Or.inr (Or.inr (Or.inl q))))), if_neg (fun q => hk (Or.inr (Or.inr (Or.inr (Or.inr (Or.inl q)))))), if_neg (fun q => hk (Or.inr (Or.inr (Or.inr (Or.inr (Or.inr q))))))] at lw
      exact Or.inl lw
  have hB : (lnE f L (nxS f L ((0, p), g))).1 = (1, tkS f L p) := lnE_bad (by rw [nx_no hk]) (by decide : ¬ (1 : Int32) = 0)
  refine Or.inr ?_
  rw [hA, hB]
  exact ⟨(by decide : ¬ (1 : Int32) = 0), rfl, f1, f2.trans z52⟩
theorem lc_0 {L p nv nc nf nl wk : Nat} {f g : Nat → Int32} {c0 : CT} (h : CP L f p c0) (hF : FD nv nc nf nl wk 0 (stp L c0) g) : LQ L f p 0 (stp L c0) (rlA L (stp L c0)) (lnE f L (riS f L ((0, p), g))) := by
  obtain ⟨zP, T, zl, z52, z51⟩ := h.st
  have hb := nxP_b h
  have lw := lw_f h T
  obtain ⟨c, ec⟩ : ∃ c, stp L c0 = c := ⟨_, rfl⟩
  rw [ec] at hF zP T zl z52 z51 lw ⊢
  have hC := hF.cnt
  have hz : c 16 5 = 0 := hF.1.1.1
  obtain ⟨f1, f2, -⟩ := fail_f (y := c) (k := 1)
  have eT : thn (0, p) (wdO f L 7) = wdO f L 7 p := if_pos rfl
  have er : riS f L ((0, p), g) = rvS f L (wdO f L 7 p, g) := by rw [← eT]; rfl
  rw [er]
  by_cases w7 : wdB f L p 7 = true
  · rw [if_pos w7] at lw
    have ew : wdO f L 7 p = (0, nxP f L p) := if_pos w7
    rw [ew, rlA_go (by decide) lw ⟨fun _ => hz, fun _ => rfl⟩ fu_0.1]
    refine (fun (q : LQ L f (nxP f L p) 0 c (rlE L (nI 0) (rlL L (nI 0) 0 (itJ 0) 0 c)) (lnE f L (rvS f L ((0, nxP f L p), g)))) => ?_) (ln_fin (K := 0) (fo_0 zP) hC (fun y z g9 hV e4 el => ?_))
    · exact q.imp (fun u => ⟨u.1, u.2.1, u.2.2.1, by have := u.2.2.2.1; omega, u.2.2.2.2⟩) id
    · obtain ⟨v0, v1, v2, e9, hz4, r0, r1, r2⟩ := hV
      exact ⟨_, _, _, _, _, kp_0 (hF.to el) e9 (by rw [e4]; exact hz4) r0 r1⟩
  · have ew : wdO f L 7 p = (1, tkS f L p) := if_neg w7
    have n1 : ¬ (1 : Int32) = 0 := by decide
    have hA : rlA L c = (0, failF c 1) := by
      refine rlA_n1 ?_
      rw [if_neg w7] at lw
      by_cases k : lwF c 7 0 = 0
      · exfalso
        rw [k] at lw
        revert lw
        split
        · exact fun q => absurd q (by decide)
        · split
          · exact fun q => absurd q (by decide)
          · split
            · exact fun q => absurd q (by decide)
            · split
              · exact fun q => absurd q (by decide)
              · split
                · exact fun q => absurd q (by decide)
                · split
                  · exact fun q => absurd q (by decide)
                  · exact fun q => absurd q (by decide)
      · exact Or.inr (fun q => k (q.mpr hz))
    have hB : (lnE f L (rvS f L (wdO f L 7 p, g))).1 = (1, tkS f L p) := by
      rw [ew]
      exact lnE_bad (tdS_bad (tdS_bad (tdS_bad rfl n1) n1) n1) n1
    refine Or.inr ?_
    rw [hA, hB]
    exact ⟨n1, rfl, f1, f2.trans z52⟩
/-- A LINE, ON BOTH SIDES -/
theorem LN_sim {L p K nv nc nf nl wk : Nat} {f g : Nat → Int32} {c0 : CT} (h : CP L f p c0) (hF : FD nv nc nf nl wk K c0 g) (hKl : K < 1600) : LQ L f p K (stp L c0) (rlA L (stp L c0)) (lnS f L ((0, p), g)) := by
  have hF2 : FD nv nc nf nl wk K (stp L c0) g := hF.to (fun l hl => h.st.2.2.1 l (by omega))
  have g4 := hF.1.1.2.1
  have eS : lnS f L ((0, p), g) = lnE f L (if g 4 = 0 then riS f L ((0, p), g) else nxS f L ((0, p), g)) := rfl
  rw [eS]
  by_cases k0 : K = 0
  · subst k0
    rw [if_pos (by rw [g4]; rfl)]
    exact lc_0 h hF2
  · have hK0 : 0 < K := by omega
    rw [if_neg (by rw [g4]; exact nI_neN hK0 (by omega))]
    by_cases w11 : wdB f L p 11 = true
    · exact lc_11 h hF2 hK0 hKl w11
    by_cases w12 : wdB f L p 12 = true
    · exact lc_12 h hF2 hK0 hKl w12
    by_cases w13 : wdB f L p 13 = true
    · exact lc_13 h hF2 hK0 hKl w13
    by_cases w14 : wdB f L p 14 = true
    · exact lc_14 h hF2 hK0 hKl w14
    by_cases w15 : wdB f L p 15 = true
    · exact lc_15 h hF2 hK0 hKl w15
    by_cases w16 : wdB f L p 16 = true
    · exact lc_16 h hF2 hK0 hKl w16
    exact lc_no h hF2 hK0 (by rintro (q | q | q | q | q | q); exact w11 q; exact w12 q; exact w13 q; exact w14 q; exact w15 q; exact w16 q)