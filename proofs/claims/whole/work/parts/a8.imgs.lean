/-! THE LAW: paste, image, restore -/
theorem LJ'.paste {b : Nat} {c : CT} {co : Nat → Nat → Option Nat} {m : CT} {ml : Nat → Nat → Int64} {r R1 : Nat → Option AE} {n nv nc nf nl wk L : Nat} {S : Nat → Option ST} {I : Nat → Option (Nat × CT)} {ow : Nat → Nat} {s i t k l x : Int32} (h : LJ' b c co m ml r n nv nc nf nl wk L S I ow) (hP : pasteP S s i t k l x (HM (b + 55) m ml r n).1 R1) : ∃ r1, R1 = (HM (b + 55) m ml r1 n).1 ∧ ∀ x9 ml1, pasM S s i t k l x9 ml ml1 → x = x9 ∧ LJ b c co m ml1 r1 n := by
  obtain ⟨h1, h2, h3, h4, h5, h6, h7, h8, h9⟩ := id h
  unfold pasteP at hP
  by_cases z : inI s 4 = 0 ∨ inI t 4 = 0
  · rw [if_pos z] at hP
    obtain ⟨rfl, rfl⟩ := hP
    refine ⟨r, rfl, fun x9 ml1 hM => ?_⟩
    unfold pasM at hM
    rw [if_pos z] at hM
    obtain ⟨rfl, rfl⟩ := hM
    exact ⟨rfl, h.lj⟩
  · rw [if_neg z] at hP
    obtain ⟨j, hj, rfl⟩ := inI_of (k := 4) (y := 4) rfl (fun q => z (Or.inl q)) (by decide)
    obtain ⟨u, hu, rfl⟩ := inI_of (k := 4) (y := 4) rfl (fun q => z (Or.inr q)) (by decide)
    rw [tcl_nI (show j < 2 ^ 31 by omega), tcl_nI (show u < 2 ^ 31 by omega)] at hP
    have hM0 : ∀ x9 ml1, pasM S (nI j) i (nI u) k l x9 ml ml1 → (match S j, S u with
      | some (_, _, w1, m1, _), some (_, _, w2, m2, _) => if w1 = w2 then if hasS (nI m1) i l = 0 ∨ hasS (nI m2) k l = 0 then x9 = -7 ∧ ml1 = ml else x9 = 0 ∧ ∀ q, ml1 19 q = if 60 * u + tcl k ≤ q ∧ q < 60 * u + tcl k + tcl l then ml 19 (60 * j + tcl i + (q - (60 * u + tcl k))) else ml 19 q else x9 = -8 ∧ ml1 = ml
      | _, _ => x9 = -6 ∧ ml1 = ml) := fun x9 ml1 hM => by
      unfold pasM at hM
      rw [if_neg z, tcl_nI (show j < 2 ^ 31 by omega), tcl_nI (show u < 2 ^ 31 by omega)] at hM
      exact hM
    have same : ∀ y : Int32, (x = y ∧ R1 = (HM (b + 55) m ml r n).1) → (∀ x9 ml1, pasM S (nI j) i (nI u) k l x9 ml ml1 → x9 = y ∧ ml1 = ml) → ∃ r1, R1 = (HM (b + 55) m ml r1 n).1 ∧ ∀ x9 ml1, pasM S (nI j) i (nI u) k l x9 ml ml1 → x = x9 ∧ LJ b c co m ml1 r1 n := fun y e1 e2 => by
      refine ⟨r, e1.2, fun x9 ml1 hM => ?_⟩
      obtain ⟨rfl, rfl⟩ := e2 x9 ml1 hM
      exact ⟨e1.1, h.lj⟩
    cases hs : S j with
    | none =>
      rw [hs] at hP
      exact same (-6) hP (fun x9 ml1 hM => by have := hM0 x9 ml1 hM; rw [hs] at this; exact this)
    | some y1 =>
      obtain ⟨a1, q1, w1, N1, f1⟩ := y1
      cases ht : S u with
      | none =>
        rw [hs, ht] at hP
        exact same (-6) hP (fun x9 ml1 hM => by have := hM0 x9 ml1 hM; rw [hs, ht] at this; exact this)
      | some y2 =>
        obtain ⟨a2, q2, w2, N2, f2⟩ := y2
        rw [hs, ht] at hP
        have hM1 : ∀ x9 ml1, pasM S (nI j) i (nI u) k l x9 ml ml1 → (if w1 = w2 then if hasS (nI N1) i l = 0 ∨ hasS (nI N2) k l = 0 then x9 = -7 ∧ ml1 = ml else x9 = 0 ∧ ∀ q, ml1 19 q = if 60 * u + tcl k ≤ q ∧ q < 60 * u + tcl k + tcl l then ml 19 (60 * j + tcl i + (q - (60 * u + tcl k))) else ml 19 q else x9 = -8 ∧ ml1 = ml) := fun x9 ml1 hM => by have := hM0 x9 ml1 hM; rw [hs, ht] at this; exact this
        have hP1 : if w1 = w2 then if hasS (nI N1) i l = 0 ∨ hasS (nI N2) k l = 0 then x = -7 ∧ R1 = (HM (b + 55) m ml r n).1 else x = 0 ∧ R1 = fun z => if z = q2 then some (aJ 60 (va_cpy f1 f2 (tcl i) (tcl k) (tcl l))) else (HM (b + 55) m ml r n).1 z else x = -8 ∧ R1 = (HM (b + 55) m ml r n).1 := hP
        by_cases c1 : w1 = w2
        · rw [if_pos c1] at hP1
          by_cases c2 : hasS (nI N1) i l = 0 ∨ hasS (nI N2) k l = 0
          · rw [if_pos c2] at hP1
            exact same (-7) hP1 (fun x9 ml1 hM => by have := hM1 x9 ml1 hM; rw [if_pos c1, if_pos c2] at this; exact this)
          · rw [if_neg c2] at hP1
            obtain ⟨rfl, rfl⟩ := hP1
            obtain ⟨y1, y2, y3, y4, y5, y6, y7, y8, y9, y10, y11⟩ := (h5 u hu).2 a2 q2 w2 N2 f2 ht
            obtain ⟨x1, x2, x3, x4, -⟩ := (h5 j hj).2 a1 q1 w1 N1 f1 hs
            obtain ⟨i0, l0, e1, e2, e3⟩ := hasS_of (fun q => c2 (Or.inl q)) x4
            obtain ⟨k0, l1, d1, d2, d3⟩ := hasS_of (fun q => c2 (Or.inr q)) y4
            have el : l0 = l1 := by have := e3.symm.trans d3; exact (nI_eq (by omega) (by omega)).mp this
            subst el
            have ti : tcl i = i0 := by rw [e2]; exact tcl_nI (by omega)
            have tk : tcl k = k0 := by rw [d2]; exact tcl_nI (by omega)
            have tl : tcl l = l0 := by rw [e3]; exact tcl_nI (by omega)
            rw [ti, tk, tl]
            refine ⟨_, HM_one (n1 := n) (by omega), fun x9 ml1 hM => ?_⟩
            have hM := hM1 x9 ml1 hM
            rw [if_pos c1, if_neg c2, ti, tk, tl] at hM
            obtain ⟨rfl, hq⟩ := hM
            have hf1 := ((h6 j hj).2 a1 q1 w1 N1 f1 hs).2.2.2.2
            have hf2 := ((h6 u hu).2 a2 q2 w2 N2 f2 ht).2.2.2.2
            refine ⟨rfl, h.sl (fun _ _ _ => rfl) (h5.one hu ht) (h6.one hu ht (fun p hp => ?_) (fun z hz => ?_)) (h7.one hu y10) (Nat.le_refl _)⟩
            · rw [hq]
              unfold va_cpy
              by_cases g : k0 ≤ p ∧ p < k0 + l0
              · rw [if_pos (by omega), if_pos g, ← hf1 _ (by omega)]
                exact congrArg (ml 19) (by omega)
              · rw [if_neg (by omega), if_neg g]; exact hf2 p hp
            · rw [hq, if_neg (by omega)]
        · rw [if_neg c1] at hP1
          exact same (-8) hP1 (fun x9 ml1 hM => by have := hM1 x9 ml1 hM; rw [if_neg c1] at this; exact this)
/-- image -/
theorem IY.set {b n n1 q : Nat} {r : Nat → Option AE} {co co1 : Nat → Nat → Option Nat} {I : Nat → Option (Nat × CT)} {ow ow1 : Nat → Nat} {k : Nat} {Q : CT} (h : IY b n r co I ow) (hn : n ≤ n1) (c26 : co1 26 k = some q) (c26o : ∀ i, i ≠ k → co1 26 i = co 26 i) (hq : b + 76 ≤ q) (hq1 : q + 10 ≤ n1) (oq : ∀ z, z < 10 → ow1 (q + z) = 10 + k) (oo : ∀ z, z < n → ow1 z = ow z) : IY b n1 (upP r q Q) co1 (st1 I k (some (q, Q))) ow1 := by
  intro i hi
  by_cases e : i = k
  · subst e
    rw [st1_eq]
    refine ⟨c26, fun q' Q' hs => ?_⟩
    cases hs
    exact ⟨hq, hq1, fun z hz => upP_at hz, oq⟩
  · rw [st1_ne e, c26o i e]
    refine ⟨(h i hi).1, fun q' Q' hs => ?_⟩
    obtain ⟨x1, x2, x3, x4⟩ := (h i hi).2 q' Q' hs
    refine ⟨x1, by omega, fun z hz => ?_, fun z hz => by rw [oo _ (by omega)]; exact x4 z hz⟩
    have o1 := x4 z hz
    have o2 := oo (q' + z) (by omega)
    rw [upP_no (fun y => by
      have o3 := oq (q' + z - q) (by omega)
      rw [show q + (q' + z - q) = q' + z by omega] at o3
      omega)]
    exact x3 z hz
theorem SX.img {b n n1 q : Nat} {r : Nat → Option AE} {co co1 : Nat → Nat → Option Nat} {S : Nat → Option ST} {ow ow1 : Nat → Nat} {k : Nat} {Q : CT} (h : SX b n r co S ow) (hn : n ≤ n1) (c27 : co1 27 = co 27) (oq : ∀ z, z < 10 → ow1 (q + z) = 10 + k) (oo : ∀ z, z < n → ow1 z = ow z) : SX b n1 (upP r q Q) co1 S ow1 := by
  intro i hi
  rw [c27]
  refine ⟨(h i hi).1, fun a' q' w' N' f' hs => ?_⟩
  obtain ⟨x1, x2, x3, x4, x5, x6, x7, x8, x9, x10, x11⟩ := (h i hi).2 a' q' w' N' f' hs
  have d : ∀ z, z < n → ow z = 1 + i → ¬ (q ≤ z ∧ z < q + 10) := fun z hz ho y => by
    have o2 := oo z hz
    have o3 := oq (z - q) (by omega)
    rw [show q + (z - q) = z by omega] at o3
    omega
  exact ⟨x1, by rw [upP_no (d a' x6 x9)]; exact x2, by rw [upP_no (d q' x8 x10)]; exact x3, x4, x5, by omega, x7, by omega, by rw [oo _ x6]; exact x9, by rw [oo _ x8]; exact x10, x11⟩
def imM (m : CT) (k : Nat) : CT := put (st1 m 2 (fun j => if 160 * k ≤ j ∧ j < 160 * k + 160 then m 1 (j - 160 * k) else m 2 j)) 3 k 1
theorem LJ'.image {b : Nat} {c : CT} {co co1 : Nat → Nat → Option Nat} {m : CT} {ml : Nat → Nat → Int64} {r R1 : Nat → Option AE} {n n1 nv nc nf nl wk L : Nat} {S : Nat → Option ST} {I : Nat → Option (Nat × CT)} {ow : Nat → Nat} {v x : Int32} (h : LJ' b c co m ml r n nv nc nf nl wk L S I ow) (hP : imgP I c v x co (HM (b + 55) m ml r n).1 n co1 R1 n1) : ∃ r1, R1 = (HM (b + 55) m ml r1 n1).1 ∧ if inI v 3 = 0 then x = -2 ∧ LJ b c co1 m ml r1 n1 else x = 0 ∧ LJ b c co1 (imM m (tcl v)) ml r1 n1 := by
  obtain ⟨h1, h2, h3, h4, h5, h6, h7, h8, h9⟩ := id h
  unfold imgP at hP
  by_cases z : inI v 3 = 0
  · rw [if_pos z] at hP
    obtain ⟨rfl, rfl, rfl, rfl⟩ := hP
    exact ⟨r, rfl, by rw [if_pos z]; exact ⟨rfl, h.lj⟩⟩
  · rw [if_neg z] at hP
    suffices hh : ∃ r1, R1 = (HM (b + 55) m ml r1 n1).1 ∧ (x = 0 ∧ LJ b c co1 (imM m (tcl v)) ml r1 n1) by
      obtain ⟨r1, a, d⟩ := hh
      exact ⟨r1, a, by rw [if_neg z]; exact d⟩
    obtain ⟨k, hk, rfl⟩ := inI_of (k := 3) (y := 3) rfl z (by decide)
    rw [tcl_nI (by omega)] at hP ⊢
    obtain ⟨rfl, hP⟩ := hP
    have f : ∀ l, l ≠ 2 → l ≠ 3 → imM m k l = m l := fun l a d => by rw [imM, put_ne d, st1_ne a]
    have f2 : ∀ j, imM m k 2 j = if 160 * k ≤ j ∧ j < 160 * k + 160 then m 1 (j - 160 * k) else m 2 j := fun j => by rw [imM, put_ne (by decide), st1_eq]
    have fin : ∀ (q n1 : Nat) (co1 : Nat → Nat → Option Nat) (ow1 : Nat → Nat), n ≤ n1 → co1 26 k = some q → (∀ i, i ≠ k → co1 26 i = co 26 i) → co1 27 = co 27 → b + 76 ≤ q → q + 10 ≤ n1 → (∀ z, z < 10 → ow1 (q + z) = 10 + k) → (∀ z, z < n → ow1 z = ow z) → LJ b c co1 (imM m k) ml (upP r q (fun k => c (6 + k))) n1 := by
      intro q n1 co1 ow1 hn c26 c26o c27 hq hq1 oq oo
      refine ⟨nv, nc, nf, nl, wk, L, S, st1 I k (some (q, fun k => c (6 + k))), ow1, h1.cg (fun _ _ _ => rfl) (fun j _ => by rw [f 1 (by decide) (by decide)]) (by rw [f 0 (by decide) (by decide)]; exact h1.ln), h2, h3.to rfl rfl (by rw [f 0 (by decide) (by decide)]) (f 4 (by decide) (by decide)), h4.to rfl (by rw [f 0 (by decide) (by decide)]) (by rw [f 0 (by decide) (by decide)]), h5.img hn c27 oq oo, h6.too (f 17 (by decide) (by decide)) (f 18 (by decide) (by decide)) rfl, h7.set hn c26 c26o hq hq1 oq oo, fun i hi => ?_, by omega⟩
      by_cases e : i = k
      · subst e
        rw [st1_eq]
        refine ⟨fun y => (by cases y), fun q' Q' hs => ?_⟩
        cases hs
        refine ⟨by rw [imM, put_at]; decide, nv, nc, nf, nl, wk, h1.cg (fun l a d => ?_) (fun j hj => ?_) rfl⟩
        · show c (6 + (l - 6)) = c l
          rw [show 6 + (l - 6) = l by omega]
        · show (if 1 = 1 then imM m i 2 (160 * i + j) else -1) = m 1 j
          rw [if_pos rfl, f2, if_pos (by omega), show 160 * i + j - 160 * i = j by omega]
      · rw [st1_ne e]
        have e3 : imM m k 3 i = m 3 i := by rw [imM, put_no e, st1_ne (by decide)]
        rw [e3]
        refine ⟨(h8 i hi).1, fun q' Q' hs => ?_⟩
        obtain ⟨y1, a1, a2, a3, a4, a5, hB⟩ := (h8 i hi).2 q' Q' hs
        refine ⟨y1, a1, a2, a3, a4, a5, hB.cg (fun _ _ _ => rfl) (fun j hj => ?_) rfl⟩
        show (if 1 = 1 then imM m k 2 (160 * i + j) else -1) = (if 1 = 1 then m 2 (160 * i + j) else -1)
        rw [if_pos rfl, if_pos rfl, f2, if_neg (by omega)]
    cases hs : I k with
    | some y =>
      obtain ⟨q, Q⟩ := y
      rw [hs] at hP
      obtain ⟨rfl, rfl, rfl⟩ := hP
      obtain ⟨x1, x2, x3, x4⟩ := (h7 k hk).2 q Q hs
      have e1 := (h7 k hk).1
      rw [hs] at e1
      exact ⟨_, HM_upP (n1 := n1) (by omega), rfl, fin q n1 co1 ow (Nat.le_refl _) e1 (fun _ _ => rfl) rfl x1 x2 x4 (fun _ _ => rfl)⟩
    | none =>
      rw [hs] at hP
      obtain ⟨rfl, rfl, rfl⟩ := hP
      exact ⟨_, HM_upP (n1 := n + 10) (by omega), rfl, fin n (n + 10) _ (fun z => if n ≤ z then 10 + k else ow z) (by omega) (by rw [st1_eq, va_up_self]) (fun i hi => by rw [st1_eq, va_up_ne _ _ hi]) (st1_ne (by decide)) h9 (Nat.le_refl _) (fun z hz => if_pos (Nat.le_add_right n z)) (fun z hz => if_neg (by omega))⟩
theorem IML.pn {I : Nat → Option (Nat × CT)} {m : CT} (h : IML I m) : ∀ k, k < 3 → ∀ q Q, I k = some (q, Q) → PN Q 0 := fun k hk q Q hs => by
  obtain ⟨-, a1, a2, a3, a4, a5, hB⟩ := (h k hk).2 q Q hs
  exact hB.ix.pn
/-- restore -/
def reM (m : CT) (k : Nat) : CT := st1 m 1 (fun j => if j < 160 then m 2 (160 * k + j) else m 1 j)
theorem LJ'.restore {b : Nat} {c : CT} {co : Nat → Nat → Option Nat} {m : CT} {ml : Nat → Nat → Int64} {r : Nat → Option AE} {n nv nc nf nl wk L : Nat} {S : Nat → Option ST} {I : Nat → Option (Nat × CT)} {ow : Nat → Nat} {v : Int32} (h : LJ' b c co m ml r n nv nc nf nl wk L S I ow) : if inI v 3 = 0 then (restoreA I c v).1 = -2 ∧ LJ b (restoreA I c v).2 co m ml r n else if m 3 (tcl v) = 0 then (restoreA I c v).1 = -6 ∧ LJ b (restoreA I c v).2 co m ml r n else (restoreA I c v).1 = 0 ∧ LJ b (restoreA I c v).2 co (reM m (tcl v)) ml r n := by
  obtain ⟨h1, h2, h3, h4, h5, h6, h7, h8, h9⟩ := id h
  by_cases z : inI v 3 = 0
  · rw [if_pos z, restoreA, if_pos z]; exact ⟨rfl, h.lj⟩
  · rw [if_neg z]
    obtain ⟨k, hk, rfl⟩ := inI_of (k := 3) (y := 3) rfl z (by decide)
    have eR : restoreA I c (nI k) = (match I k with | none => (-6, c) | some (_, Q) => (0, forgetF (cpN c Q))) := by rw [restoreA, if_neg z, tcl_nI (by omega)]; rfl
    rw [tcl_nI (by omega), eR]
    cases hs : I k with
    | none => rw [if_pos ((h8 k hk).1 hs)]; exact ⟨rfl, h.lj⟩
    | some y =>
      obtain ⟨q, Q⟩ := y
      obtain ⟨y1, a1, a2, a3, a4, a5, hB⟩ := (h8 k hk).2 q Q hs
      rw [if_neg y1]
      refine ⟨rfl, ?_⟩
      show LJ b (forgetF (cpN c Q)) co (reM m k) ml r n
      have f : ∀ l, l ≠ 1 → reM m k l = m l := fun l a => by rw [reM, st1_ne a]
      have e : ∀ l, (l < 6 ∨ 16 ≤ l) → l ≠ 45 → forgetF (cpN c Q) l = c l := fun l a d => by rw [forget_l d, cpN, if_neg (by omega)]
      have B : BL a1 a2 a3 a4 a5 (forgetF (cpN c Q)) (reM m k) := hB.cg (fun l a d => by
        rw [forget_l (by omega), cpN, if_pos ⟨a, d⟩]; rfl) (fun j hj => by
        rw [reM, st1_eq, if_pos hj]
        show _ = (if 1 = 1 then m 2 (160 * k + j) else -1)
        rw [if_pos rfl]) (by rw [f 0 (by decide)]; exact h1.ln)
      exact ⟨a1, a2, a3, a4, a5, L, S, I, ow, B, CacheOk.new, h3.to (e 1 (by decide) (by decide)) (e 2 (by decide) (by decide)) (by rw [f 0 (by decide)]) (f 4 (by decide)), h4.to (e 3 (by decide) (by decide)) (by rw [f 0 (by decide)]) (by rw [f 0 (by decide)]), h5, h6.too (f 17 (by decide)) (f 18 (by decide)) rfl, h7, h8.to (f 2 (by decide)) (f 3 (by decide)), h9⟩