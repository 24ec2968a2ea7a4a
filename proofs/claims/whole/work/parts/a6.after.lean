/-! THE LAW: the calls that change what is told: what holds behind them -/
theorem BL.cg {nv nc nf nl wk : Nat} {c m c1 m1 : CT} (h : BL nv nc nf nl wk c m) (e : ∀ l, 6 ≤ l → l < 16 → c1 l = c l) (em : ∀ j, j < 160 → m1 1 j = m 1 j) (e25 : m1 0 25 = -1) : BL nv nc nf nl wk c1 m1 := by
  have e6 := e 6 (by decide) (by decide)
  have e7 := e 7 (by decide) (by decide)
  have e8 := e 8 (by decide) (by decide)
  have e9 := e 9 (by decide) (by decide)
  have e10 := e 10 (by decide) (by decide)
  have e11 := e 11 (by decide) (by decide)
  have e12 := e 12 (by decide) (by decide)
  have e13 := e 13 (by decide) (by decide)
  have e14 := e 14 (by decide) (by decide)
  have e15 := e 15 (by decide) (by decide)
  obtain ⟨b1, b2, b3, b4⟩ := h.nb
  obtain ⟨ix, kx, pr, ⟨i1, i2, i3, i4, i5, i6, i7, i8, i9, i10, i11, i12⟩, ⟨s1, s2, s3, s4, s5, s6⟩, wa, tk, mo, mb, ln, pl, li⟩ := h
  refine ⟨?_, ?_, ?_, ⟨by rw [em 0 (by decide)]; exact i1, i2, by rw [em 1 (by decide)]; exact i3, i4, by rw [em 2 (by decide)]; exact i5, i6, by rw [em 3 (by decide)]; exact i7, i8, by rw [em 5 (by decide)]; exact i9, i10, fun i hi => by rw [em _ (by omega)]; exact i11 i hi, fun i hi => by rw [em _ (by omega), em _ (by omega)]; exact i12 i hi⟩, ⟨fun v hv k hk => by rw [e8, em _ (by omega)]; exact s1 v hv k hk, fun i hi k hk => by rw [e10, em _ (by omega)]; exact s2 i hi k hk, fun i hi k hk => by rw [e12, em _ (by omega)]; exact s3 i hi k hk, fun i hi k hk => by rw [e14, em _ (by omega)]; exact s4 i hi k hk, fun w hw => by rw [e15, em _ (by omega)]; exact s5 w hw, by rw [e6, em 7 (by decide)]; exact s6⟩, fun v hv => by rw [e8, em _ (by omega)]; exact wa v hv, fun i hi => by rw [e12, em _ (by omega)]; exact tk i hi, by rw [e6, em 6 (by decide)]; exact mo, by rw [e6]; exact mb, e25, by rw [e6, em 5 (by decide)]; exact pl, by rw [e6, em 4 (by decide)]; exact li⟩
  · unfold IX at ix ⊢; rw [e6, e7, e9, e10, e11, e13, e14]; exact ix
  · unfold KX tkn at kx ⊢; rw [e12]; exact kx
  · unfold PRC at pr ⊢; rw [e8, e10, e12, e14, e15]; exact pr
theorem CacheOk.cg {c c1 : CT} {N : Nat} (h : CacheOk c N) (e : EqP c c1) (e43 : c1 43 = c 43) (e44 : c1 44 = c 44) (e45 : c1 45 = c 45) : CacheOk c1 N := by
  intro k hk h45
  rw [e45] at h45
  rw [BR_c e, SH_c e, e43, e44]
  exact h k hk h45
theorem CacheOk.new {c : CT} {N : Nat} : CacheOk (forgetF c) N := fun k _ hk => absurd (by rw [forgetF, st1_eq]) hk
theorem forget_l {c : CT} {l : Nat} (h : l ≠ 45) : forgetF c l = c l := by rw [forgetF, st1_ne h]
theorem EqP.six {c c1 : CT} (e : ∀ l, 6 ≤ l → l < 16 → c1 l = c l) : EqP c c1 := ⟨fun l a b _ => e l a (by omega), fun j _ => by rw [e 12 (by decide) (by decide)]⟩
/-- end -/
theorem LJ'.end_ {b : Nat} {c : CT} {co : Nat → Nat → Option Nat} {m : CT} {ml : Nat → Nat → Int64} {r : Nat → Option AE} {n nv nc nf nl wk L : Nat} {S : Nat → Option ST} {I : Nat → Option (Nat × CT)} {ow : Nat → Nat} {v : Int32} (h : LJ' b c co m ml r n nv nc nf nl wk L S I ow) : LJ b (endA c v).2 co (if v < 0 ∨ c 1 1 < v then m else put m 0 5 v) ml r n := by
  unfold endA
  by_cases z : v < 0 ∨ c 1 1 < v
  · rw [if_pos z, if_pos z]; exact h.lj
  · rw [if_neg z, if_neg z]
    show LJ b (put c 1 1 v) co (put m 0 5 v) ml r n
    obtain ⟨h1, h2, ⟨t1, t2, t3, t4, t5⟩, h4, h5, h6, h7, h8, h9⟩ := h
    have v0 : 0 ≤ v.toInt := Int.not_lt.mp (fun q => z (Or.inl (Int32.lt_iff_toInt_lt.mpr q)))
    have v1 : v.toInt ≤ (L : Int) := by
      have := Int.not_lt.mp (fun q => z (Or.inr (Int32.lt_iff_toInt_lt.mpr q)))
      rw [t1, nI_toInt (by omega)] at this; exact this
    have ev := nI_nat v0
    have e : ∀ l, l ≠ 1 → put c 1 1 v l = c l := fun l hl => put_ne hl
    have f : ∀ l, l ≠ 0 → put m 0 5 v l = m l := fun l hl => put_ne hl
    exact ⟨nv, nc, nf, nl, wk, v.toInt.toNat, S, I, ow, h1.cg (fun l a _ => e l (by omega)) (fun j _ => by rw [f 1 (by decide)]) (by rw [put_no (by decide)]; exact h1.ln), h2.cg (EqP.six (fun l a _ => e l (by omega))) (e 43 (by decide)) (e 44 (by decide)) (e 45 (by decide)), ⟨by rw [put_at]; exact ev, by omega, by rw [put_at]; exact ev, fun i hi => by rw [e 2 (by decide), f 4 (by decide)]; exact t4 i hi, t5.to (f 4 (by decide))⟩, ⟨by rw [e 3 (by decide), put_no (by decide)]; exact h4.1, by rw [e 3 (by decide), put_no (by decide)]; exact h4.2⟩, h5, h6.too (f 17 (by decide)) (f 18 (by decide)) rfl, h7, h8.to (f 2 (by decide)) (f 3 (by decide)), h9⟩
/-- more -/
theorem LJ'.more {b : Nat} {c : CT} {co : Nat → Nat → Option Nat} {m : CT} {ml : Nat → Nat → Int64} {r : Nat → Option AE} {n nv nc nf nl wk L : Nat} {S : Nat → Option ST} {I : Nat → Option (Nat × CT)} {ow : Nat → Nat} {v : Int32} (h : LJ' b c co m ml r n nv nc nf nl wk L S I ow) : LJ b (moreA c v).2 co (moreM c m v) ml r n := by
  have hB := more_BL (v := v) h.1
  unfold moreA moreM at hB ⊢
  by_cases z : 0 < c 6 5 ∧ ¬ v < 0 ∧ v ≤ 100
  · rw [if_pos z, if_pos z] at hB ⊢
    obtain ⟨h1, h2, h3, h4, h5, h6, h7, h8, h9⟩ := h
    have e : ∀ l, l ≠ 6 → l ≠ 45 → forgetF (put c 6 7 v) l = c l := fun l a d => by rw [forget_l d, put_ne a]
    have f : ∀ l, l ≠ 1 → put m 1 6 v l = m l := fun l hl => put_ne hl
    exact ⟨nv, nc, nf, nl, wk, L, S, I, ow, hB, CacheOk.new, h3.to (e 1 (by decide) (by decide)) (e 2 (by decide) (by decide)) (by rw [f 0 (by decide)]) (f 4 (by decide)), h4.to (e 3 (by decide) (by decide)) (by rw [f 0 (by decide)]) (by rw [f 0 (by decide)]), h5, h6.too (f 17 (by decide)) (f 18 (by decide)) rfl, h7, h8.to (f 2 (by decide)) (f 3 (by decide)), h9⟩
  · rw [if_neg z, if_neg z]; exact h.lj
/-- takes -/
theorem LJ'.takes {b : Nat} {c : CT} {co : Nat → Nat → Option Nat} {m : CT} {ml : Nat → Nat → Int64} {r : Nat → Option AE} {n nv nc nf nl wk L : Nat} {S : Nat → Option ST} {I : Nat → Option (Nat × CT)} {ow : Nat → Nat} {u v : Int32} (h : LJ' b c co m ml r n nv nc nf nl wk L S I ow) : LJ b (takesA c u v).2 co (takesM c m u v) ml r n := by
  have hB := takes_BL (f := u) (v := v) h.1
  unfold takesA takesM at hB ⊢
  by_cases z : inI u (c 11 2) = 0 ∨ (¬ v = -1 ∧ inI v (c 7 2) = 0)
  · rw [if_pos z, if_pos z]; exact h.lj
  · rw [if_neg z, if_neg z] at hB ⊢
    obtain ⟨h1, h2, h3, h4, h5, h6, h7, h8, h9⟩ := h
    have e : ∀ l, l ≠ 12 → put c 12 (4 * tcl u + 3) v l = c l := fun l a => put_ne a
    have f : ∀ l, l ≠ 1 → put m 1 (157 + tcl u) v l = m l := fun l hl => put_ne hl
    exact ⟨nv, nc, nf, nl, wk, L, S, I, ow, hB, h2.cg ⟨fun l a d g => e l g, fun j hj => by show put c 12 (4 * tcl u + 3) v 12 j = c 12 j; exact put_no (by omega)⟩ (e 43 (by decide)) (e 44 (by decide)) (e 45 (by decide)), h3.to (e 1 (by decide)) (e 2 (by decide)) (by rw [f 0 (by decide)]) (f 4 (by decide)), h4.to (e 3 (by decide)) (by rw [f 0 (by decide)]) (by rw [f 0 (by decide)]), h5, h6.too (f 17 (by decide)) (f 18 (by decide)) rfl, h7, h8.to (f 2 (by decide)) (f 3 (by decide)), h9⟩
/-- feed: twenty bytes -/
theorem app_2 {x : Int32} {c : CT} {L : Nat} (h : c 1 1 = nI L) (hL : L + 4 ≤ 1600) : (∀ i, appF x c 2 i = if L ≤ i ∧ i < L + 4 then bsF x (nI (24 - 8 * (i - L))) else c 2 i) ∧ ∀ l, l ≠ 1 → l ≠ 2 → appF x c l = c l := by
  have s1 : ∀ (s : Int32) (y : CT) (M : Nat), y 1 1 = nI M → M < 1600 → (∀ i, ap1 x s y 2 i = if i = M then bsF x s else y 2 i) ∧ ∀ l, l ≠ 1 → l ≠ 2 → ap1 x s y l = y l := fun s y M e hM => by
    refine ⟨fun i => ?_, fun l a d => by rw [ap1, put_ne a, ap0, put_ne d]⟩
    rw [ap1, put_ne (by decide), ap0, e, tcl_nI (by omega)]
    by_cases z : i = M
    · subst z; rw [put_at, if_pos rfl]
    · rw [put_no z, if_neg z]
  obtain ⟨a1, d1⟩ := s1 24 c L h (by omega)
  have n1 := ap1_n (x := x) (s := 24) h
  obtain ⟨a2, d2⟩ := s1 16 _ (L + 1) n1 (by omega)
  have n2 := ap1_n (x := x) (s := 16) n1
  obtain ⟨a3, d3⟩ := s1 8 _ (L + 2) n2 (by omega)
  have n3 := ap1_n (x := x) (s := 8) n2
  obtain ⟨a4, d4⟩ := s1 0 _ (L + 3) n3 (by omega)
  refine ⟨fun i => ?_, fun l a d => by rw [appF, d4 l a d, d3 l a d, d2 l a d, d1 l a d]⟩
  rw [appF, a4, a3, a2, a1]
  by_cases z3 : i = L + 3
  · rw [if_pos z3, if_pos (by omega), show i - L = 3 by omega]; rfl
  · rw [if_neg z3]
    by_cases z2 : i = L + 2
    · rw [if_pos z2, if_pos (by omega), show i - L = 2 by omega]; rfl
    · rw [if_neg z2]
      by_cases z1 : i = L + 1
      · rw [if_pos z1, if_pos (by omega), show i - L = 1 by omega]; rfl
      · rw [if_neg z1]
        by_cases z0 : i = L
        · rw [if_pos z0, if_pos (by omega), show i - L = 0 by omega]; rfl
        · rw [if_neg z0, if_neg (by omega)]
theorem feed_2 {a1 a2 a3 a4 a5 : Int32} {c : CT} {L : Nat} (h : c 1 1 = nI L) (hL : L + 20 ≤ 1600) : feedF c a1 a2 a3 a4 a5 1 1 = nI (L + 20) ∧ (∀ i, feedF c a1 a2 a3 a4 a5 2 i = if L ≤ i ∧ i < L + 20 then fdB a1 a2 a3 a4 a5 (i - L) else c 2 i) ∧ ∀ l, l ≠ 1 → l ≠ 2 → feedF c a1 a2 a3 a4 a5 l = c l := by
  have n1 := appF_n (x := a1) h
  have n2 := appF_n (x := a2) n1
  have n3 := appF_n (x := a3) n2
  have n4 := appF_n (x := a4) n3
  have n5 := appF_n (x := a5) n4
  obtain ⟨p1, q1⟩ := app_2 (x := a1) h (by omega)
  obtain ⟨p2, q2⟩ := app_2 (x := a2) n1 (by omega)
  obtain ⟨p3, q3⟩ := app_2 (x := a3) n2 (by omega)
  obtain ⟨p4, q4⟩ := app_2 (x := a4) n3 (by omega)
  obtain ⟨p5, q5⟩ := app_2 (x := a5) n4 (by omega)
  refine ⟨n5, fun i => ?_, fun l a d => by rw [feedF, q5 l a d, q4 l a d, q3 l a d, q2 l a d, q1 l a d]⟩
  rw [feedF, p5, p4, p3, p2, p1]
  by_cases z5 : L + 4 + 4 + 4 + 4 ≤ i ∧ i < L + 4 + 4 + 4 + 4 + 4
  · rw [if_pos z5, if_pos (by omega), fdB, show (i - L) / 4 = 4 by omega, show (i - L) % 4 = i - (L + 4 + 4 + 4 + 4) by omega]; rfl
  · rw [if_neg z5]
    by_cases z4 : L + 4 + 4 + 4 ≤ i ∧ i < L + 4 + 4 + 4 + 4
    · rw [if_pos z4, if_pos (by omega), fdB, show (i - L) / 4 = 3 by omega, show (i - L) % 4 = i - (L + 4 + 4 + 4) by omega]; rfl
    · rw [if_neg z4]
      by_cases z3 : L + 4 + 4 ≤ i ∧ i < L + 4 + 4 + 4
      · rw [if_pos z3, if_pos (by omega), fdB, show (i - L) / 4 = 2 by omega, show (i - L) % 4 = i - (L + 4 + 4) by omega]; rfl
      · rw [if_neg z3]
        by_cases z2 : L + 4 ≤ i ∧ i < L + 4 + 4
        · rw [if_pos z2, if_pos (by omega), fdB, show (i - L) / 4 = 1 by omega, show (i - L) % 4 = i - (L + 4) by omega]; rfl
        · rw [if_neg z2]
          by_cases z1 : L ≤ i ∧ i < L + 4
          · rw [if_pos z1, if_pos (by omega), fdB, show (i - L) / 4 = 0 by omega, show (i - L) % 4 = i - L by omega]; rfl
          · rw [if_neg z1, if_neg (by omega)]
theorem bs_by {x s : Int32} : (bsF x s).toInt8.toInt32 = bsF x s := by
  rw [bsF, vp_nar_byte]
  simp
theorem LJ'.feed {b : Nat} {c : CT} {co : Nat → Nat → Option Nat} {m m1 : CT} {ml : Nat → Nat → Int64} {r : Nat → Option AE} {n nv nc nf nl wk L : Nat} {S : Nat → Option ST} {I : Nat → Option (Nat × CT)} {ow : Nat → Nat} {a1 a2 a3 a4 a5 : Int32} (h : LJ' b c co m ml r n nv nc nf nl wk L S I ow) (hL : L + 20 ≤ 1600) (f : ∀ l, l ≠ 0 → l ≠ 4 → l ≠ 5 → m1 l = m l) (f0 : m1 0 = (put m 0 5 (nI (L + 20))) 0) (f4 : ∀ j, m1 4 j = if L ≤ j ∧ j < L + 20 then fdB a1 a2 a3 a4 a5 (j - L) else m 4 j) : LJ b (feedF c a1 a2 a3 a4 a5) co m1 ml r n := by
  obtain ⟨h1, h2, ⟨t1, t2, t3, t4, t5⟩, h4, h5, h6, h7, h8, h9⟩ := h
  obtain ⟨e1, e2, e⟩ := feed_2 (a1 := a1) (a2 := a2) (a3 := a3) (a4 := a4) (a5 := a5) t1 hL
  have g : ∀ j, j ≠ 5 → m1 0 j = m 0 j := fun j hj => by rw [f0, put_no hj]
  exact ⟨nv, nc, nf, nl, wk, L + 20, S, I, ow, h1.cg (fun l a _ => e l (by omega) (by omega)) (fun j _ => by rw [f 1 (by decide) (by decide) (by decide)]) (by rw [g 25 (by decide)]; exact h1.ln), h2.cg (EqP.six (fun l a _ => e l (by omega) (by omega))) (e 43 (by decide) (by decide)) (e 44 (by decide) (by decide)) (e 45 (by decide) (by decide)), ⟨e1, hL, by rw [f0, put_at], fun i hi => by rw [e2, f4, t4 i hi], fun i => by rw [f4]; split; exact bs_by; exact t5 i⟩, ⟨by rw [e 3 (by decide) (by decide), g 12 (by decide)]; exact h4.1, by rw [e 3 (by decide) (by decide), g 13 (by decide)]; exact h4.2⟩, h5, h6.too (f 17 (by decide) (by decide) (by decide)) (f 18 (by decide) (by decide) (by decide)) rfl, h7, h8.to (f 2 (by decide) (by decide) (by decide)) (f 3 (by decide) (by decide) (by decide)), h9⟩
/-- plain -/
theorem plf_e {c m : CT} {L : Nat} (h : TPE L c m) : ∀ i, i ≤ 1600 → byF c i = plf m L i := by
  obtain ⟨t1, t2, t3, t4, t5⟩ := h
  intro i hi
  rw [byF, atF, plf, t1, inI]
  by_cases z : nI L ≤ nI i
  · rw [if_pos z, if_pos (if_pos (Or.inr z))]
  · have hlt : i < L := by
      by_cases w : L ≤ i
      · exact absurd (nI_le w (by omega)) z
      · omega
    rw [if_neg z, if_neg (by rw [if_neg (fun q => q.elim (nI_pos (by omega)) z)]; decide), tcl_nI (by omega), t4 i (by omega)]
theorem LJ'.plain {b : Nat} {c : CT} {co : Nat → Nat → Option Nat} {m m1 : CT} {ml : Nat → Nat → Int64} {r : Nat → Option AE} {n nv nc nf nl wk L : Nat} {S : Nat → Option ST} {I : Nat → Option (Nat × CT)} {ow : Nat → Nat} {t : RS} {C : CT} (h : LJ' b c co m ml r n nv nc nf nl wk L S I ow) (A3 : C 3 3 = t.1.1) (A4 : C 3 4 = (if t.1.1 = 0 then -1 else nI t.1.2)) (A1 : C 1 1 = 0) (A2 : C 2 = c 2) (A26 : ∀ l, 26 ≤ l → l ≠ 45 → C l = c l) (A : (t.1.1 = 0 ∧ (∀ N, CacheOk C N) ∧ ∃ nv nc nf nl wk, ∀ m1 : CT, m1 1 = t.2 → m1 0 25 = -1 → BL nv nc nf nl wk C m1) ∨ (¬ t.1.1 = 0 ∧ (∀ l, 6 ≤ l → l < 16 → C l = c l) ∧ CacheOk C (tot nv nf))) (B12 : m1 0 12 = t.1.1) (B13 : m1 0 13 = (if t.1.1 = 0 then -1 else nI t.1.2)) (B1 : m1 1 = (if t.1.1 = 0 then t.2 else st1 (pl0 m) 6 (fun _ => 0) 1)) (Bl : ∀ l, l ≠ 0 → l ≠ 1 → l ≠ 6 → m1 l = st1 (pl0 m) 6 (fun _ => 0) l) (B0 : ∀ j, (j < 8 ∨ 13 < j) → m1 0 j = st1 (pl0 m) 6 (fun _ => 0) 0 j) : LJ b C co m1 ml r n := by
  obtain ⟨h1, h2, ⟨t1, t2, t3, t4, t5⟩, h4, h5, h6, h7, h8, h9⟩ := h
  obtain ⟨z0, z7, z5, z8, z12, z13, zj⟩ := pl0_f (m := m)
  have f : ∀ l, l ≠ 0 → l ≠ 1 → l ≠ 6 → m1 l = m l := fun l a d e => by rw [Bl l a d e, st1_ne e]; exact z0 l a
  have f25 : m1 0 25 = -1 := by rw [B0 25 (by decide), st1_ne (by decide), zj 25 (by decide) (by decide) (by decide) (by decide) (by decide)]; exact h1.ln
  have f5 : m1 0 5 = 0 := by rw [B0 5 (by decide), st1_ne (by decide)]; exact z5
  have T : TPE 0 C m1 := ⟨A1, by decide, f5, fun i hi => by rw [A2, f 4 (by decide) (by decide) (by decide)]; exact t4 i hi, t5.to (f 4 (by decide) (by decide) (by decide))⟩
  have F : FLT C m1 := ⟨A3.trans B12.symm, A4.trans B13.symm⟩
  have hS := h6.too (ml1 := ml) (f 17 (by decide) (by decide) (by decide)) (f 18 (by decide) (by decide) (by decide)) rfl
  have hI := h8.to (f 2 (by decide) (by decide) (by decide)) (f 3 (by decide) (by decide) (by decide))
  rcases A with ⟨s0, cN, a, d, e, g, w, hB⟩ | ⟨s0, e, cN⟩
  · rw [if_pos s0] at B1
    exact ⟨a, d, e, g, w, 0, S, I, ow, hB m1 B1 f25, cN _, T, F, h5, hS, h7, hI, h9⟩
  · rw [if_neg s0] at B1
    have B1' : m1 1 = m 1 := by rw [B1, st1_ne (by decide)]; exact z0 1 (by decide)
    exact ⟨nv, nc, nf, nl, wk, 0, S, I, ow, h1.cg e (fun j _ => by rw [B1']) f25, cN, T, F, h5, hS, h7, hI, h9⟩