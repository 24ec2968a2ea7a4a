/-! THE LAW: rows and images, what holds behind them -/
theorem HM_rowS {b n n1 a q : Nat} {m : CT} {ml : Nat → Nat → Int64} {r : Nat → Option AE} {w k : Int32} {g : Nat → Int64} (ha : b + 21 ≤ a) (hq : b + 21 ≤ q) : rowS (HM b m ml r n).1 a q w k g = (HM b m ml (rowS r a q w k g) n1).1 := by
  funext z
  simp only [rowS, HM]
  by_cases h : b ≤ z ∧ z < b + 21
  · rw [if_neg (by omega), if_neg (by omega), if_pos h, if_pos h]
  · rw [if_neg h, if_neg h]
theorem HM_upP {b n n1 q : Nat} {m : CT} {ml : Nat → Nat → Int64} {r : Nat → Option AE} {Q : CT} (hq : b + 21 ≤ q) : upP (HM b m ml r n).1 q Q = (HM b m ml (upP r q Q) n1).1 := by
  funext z
  simp only [upP, HM]
  by_cases h : b ≤ z ∧ z < b + 21
  · rw [if_neg (by omega), if_pos h, if_pos h]
  · rw [if_neg h, if_neg h]
theorem HM_one {b n n1 q : Nat} {m : CT} {ml : Nat → Nat → Int64} {r : Nat → Option AE} {e : AE} (hq : b + 21 ≤ q) : (fun z => if z = q then some e else (HM b m ml r n).1 z) = (HM b m ml (fun z => if z = q then some e else r z) n1).1 := by
  funext z
  simp only [HM]
  by_cases h : b ≤ z ∧ z < b + 21
  · rw [if_neg (by omega), if_pos h, if_pos h]
  · rw [if_neg h, if_neg h]
theorem w4 {w : Int32} (h : ¬ inI w 4 = 0) : w = 0 ∨ w = 1 ∨ w = 2 ∨ w = 3 := by
  obtain ⟨j, hj, rfl⟩ := inI_of (k := 4) rfl h (by decide)
  have : j = 0 ∨ j = 1 ∨ j = 2 ∨ j = 3 := by omega
  rcases this with e | e | e | e
  · subst e; exact Or.inl rfl
  · subst e; exact Or.inr (Or.inl rfl)
  · subst e; exact Or.inr (Or.inr (Or.inl rfl))
  · subst e; exact Or.inr (Or.inr (Or.inr rfl))
theorem rowA_0 {s w k : Int32} (h : rowA s w k = 0) : ∃ j N, j < 4 ∧ s = nI j ∧ (w = 0 ∨ w = 1 ∨ w = 2 ∨ w = 3) ∧ k = nI N ∧ N ≤ 60 := by
  unfold rowA at h
  by_cases z : inI s 4 = 0 ∨ inI w 4 = 0 ∨ 60 < k
  · rw [if_pos z] at h; exact absurd h (by decide)
  · rw [if_neg z] at h
    by_cases y : k < 0
    · rw [if_pos y] at h; exact absurd h (by decide)
    · obtain ⟨j, hj, e⟩ := inI_of (k := 4) (y := 4) rfl (fun q => z (Or.inl q)) (by decide)
      have k0 : 0 ≤ k.toInt := Int.not_lt.mp (fun q => y (Int32.lt_iff_toInt_lt.mpr q))
      have k1 : k.toInt ≤ 60 := Int.not_lt.mp (fun q => z (Or.inr (Or.inr (Int32.lt_iff_toInt_lt.mpr q))))
      exact ⟨j, _, hj, e, w4 (fun q => z (Or.inr (Or.inl q))), nI_nat k0, by omega⟩
/-- a SLOT's row is another one: cells at a and q, of this SLOT or new -/
theorem SX.set {b n n1 : Nat} {r : Nat → Option AE} {co co1 : Nat → Nat → Option Nat} {S : Nat → Option ST} {ow ow1 : Nat → Nat} {j a q N : Nat} {w : Int32} {g : Nat → Int64} (h : SX b n r co S ow) (hN : N ≤ 60) (hn : n ≤ n1) (c27 : co1 27 j = some a) (c27o : ∀ i, i ≠ j → co1 27 i = co 27 i) (ha : b + 76 ≤ a) (ha1 : a < n1) (hq : b + 76 ≤ q) (hq1 : q < n1) (oa : ow1 a = 1 + j) (oq : ow1 q = 1 + j) (hne : a ≠ q) (oo : ∀ z, z < n → ow1 z = ow z) : SX b n1 (rowS r a q w (nI N) g) co1 (st1 S j (some (a, q, w, N, g))) ow1 := by
  intro i hi
  by_cases e : i = j
  · subst e
    refine ⟨fun z => ?_, fun a' q' w' N' f' hs => ?_⟩
    · rw [st1_eq] at z; cases z
    · rw [st1_eq] at hs
      cases hs
      exact ⟨c27, by rw [rowS, if_neg hne, if_pos rfl], by rw [rowS, if_pos rfl], hN, ha, ha1, hq, hq1, oa, oq, hne⟩
  · refine ⟨fun z => ?_, fun a' q' w' N' f' hs => ?_⟩
    · rw [st1_ne e] at z; rw [c27o i e]; exact (h i hi).1 z
    · rw [st1_ne e] at hs
      obtain ⟨x1, x2, x3, x4, x5, x6, x7, x8, x9, x10, x11⟩ := (h i hi).2 a' q' w' N' f' hs
      have d : ∀ z, z < n → ow z = 1 + i → z ≠ a ∧ z ≠ q := fun z hz ho => ⟨fun y => by subst y; have := oo z hz; omega, fun y => by subst y; have := oo z hz; omega⟩
      refine ⟨by rw [c27o i e]; exact x1, ?_, ?_, x4, x5, by omega, x7, by omega, by rw [oo _ x6]; exact x9, by rw [oo _ x8]; exact x10, x11⟩
      · have := d a' x6 x9
        rw [rowS, if_neg this.2, if_neg this.1]; exact x2
      · have := d q' x8 x10
        rw [rowS, if_neg this.2, if_neg this.1]; exact x3
theorem IY.rows {b n n1 : Nat} {r : Nat → Option AE} {co co1 : Nat → Nat → Option Nat} {I : Nat → Option (Nat × CT)} {ow ow1 : Nat → Nat} {j a q : Nat} {w k : Int32} {g : Nat → Int64} (h : IY b n r co I ow) (hj : j < 4) (hn : n ≤ n1) (c26 : co1 26 = co 26) (oa : ow1 a = 1 + j) (oq : ow1 q = 1 + j) (oo : ∀ z, z < n → ow1 z = ow z) : IY b n1 (rowS r a q w k g) co1 I ow1 := by
  intro i hi
  refine ⟨by rw [c26]; exact (h i hi).1, fun q' Q hs => ?_⟩
  obtain ⟨x1, x2, x3, x4⟩ := (h i hi).2 q' Q hs
  refine ⟨x1, by omega, fun z hz => ?_, fun z hz => by rw [oo _ (by omega)]; exact x4 z hz⟩
  have := x4 z hz
  have := oo (q' + z) (by omega)
  rw [rowS, if_neg (fun y => by rw [y] at this; rw [oq] at this; rw [← y] at this; omega), if_neg (fun y => by rw [y] at this; rw [oa] at this; rw [← y] at this; omega)]
  exact x3 z hz
theorem SL.row {S : Nat → Option ST} {m m1 : CT} {ml ml1 : Nat → Nat → Int64} {j a q N : Nat} {w : Int32} {g : Nat → Int64} (h : SL S m ml) (hN : N ≤ 60) (hw : w = 0 ∨ w = 1 ∨ w = 2 ∨ w = 3) (e17 : m1 17 j = nI N) (e17o : ∀ i, i ≠ j → m1 17 i = m 17 i) (e18 : m1 18 j = w) (e18o : ∀ i, i ≠ j → m1 18 i = m 18 i) (e19 : ∀ i, i < 60 → ml1 19 (60 * j + i) = g i) (e19o : ∀ z, z < 60 * j ∨ 60 * j + 60 ≤ z → ml1 19 z = ml 19 z) : SL (st1 S j (some (a, q, w, N, g))) m1 ml1 := by
  intro i hi
  by_cases e : i = j
  · subst e
    refine ⟨fun z => ?_, fun a' q' w' N' f' hs => ?_⟩
    · rw [st1_eq] at z; cases z
    · rw [st1_eq] at hs
      cases hs
      exact ⟨e17, hN, e18, hw, e19⟩
  · refine ⟨fun z => ?_, fun a' q' w' N' f' hs => ?_⟩
    · rw [st1_ne e] at z; rw [e17o i e]; exact (h i hi).1 z
    · rw [st1_ne e] at hs
      obtain ⟨x1, x2, x3, x4, x5⟩ := (h i hi).2 a' q' w' N' f' hs
      exact ⟨by rw [e17o i e]; exact x1, x2, by rw [e18o i e]; exact x3, x4, fun z hz => by rw [e19o _ (by omega)]; exact x5 z hz⟩
theorem LJ'.sl {b : Nat} {c : CT} {co co1 : Nat → Nat → Option Nat} {m m1 : CT} {ml ml1 : Nat → Nat → Int64} {r r1 : Nat → Option AE} {n n1 nv nc nf nl wk L : Nat} {S S1 : Nat → Option ST} {I : Nat → Option (Nat × CT)} {ow ow1 : Nat → Nat} (h : LJ' b c co m ml r n nv nc nf nl wk L S I ow) (f : ∀ l, l ≠ 17 → l ≠ 18 → m1 l = m l) (hS : SX b n1 r1 co1 S1 ow1) (hL : SL S1 m1 ml1) (hI : IY b n1 r1 co1 I ow1) (hn : n ≤ n1) : LJ b c co1 m1 ml1 r1 n1 := by
  obtain ⟨h1, h2, h3, h4, h5, h6, h7, h8, h9⟩ := h
  have f0 := f 0 (by decide) (by decide)
  exact ⟨nv, nc, nf, nl, wk, L, S1, I, ow1, h1.cg (fun _ _ _ => rfl) (fun j _ => by rw [f 1 (by decide) (by decide)]) (by rw [f0]; exact h1.ln), h2, h3.to rfl rfl (by rw [f0]) (f 4 (by decide) (by decide)), h4.to rfl (by rw [f0]) (by rw [f0]), hS, hL, hI, h8.to (f 2 (by decide) (by decide)) (f 3 (by decide) (by decide)), by omega⟩
theorem LJ'.row {b : Nat} {c : CT} {co co1 : Nat → Nat → Option Nat} {m : CT} {ml : Nat → Nat → Int64} {r R1 : Nat → Option AE} {n n1 nv nc nf nl wk L : Nat} {S : Nat → Option ST} {I : Nat → Option (Nat × CT)} {ow : Nat → Nat} {s w k x : Int32} (h : LJ' b c co m ml r n nv nc nf nl wk L S I ow) (hP : rowP S s w k x co (HM (b + 55) m ml r n).1 n co1 R1 n1) : x = rowA s w k ∧ ∃ r1, R1 = (HM (b + 55) m ml r1 n1).1 ∧ (∀ m1 ml1, rowM s w k m ml m1 ml1 → LJ b c co1 m1 ml1 r1 n1) := by
  obtain ⟨hx, hP⟩ := hP
  refine ⟨hx, ?_⟩
  by_cases z : rowA s w k = 0
  · rw [if_pos z] at hP
    obtain ⟨h1, h2, h3, h4, h5, h6, h7, h8, h9⟩ := id h
    obtain ⟨j, N, hj, es, hw, ek, hN⟩ := rowA_0 z
    have ej : tcl s = j := by rw [es]; exact tcl_nI (by omega)
    rw [ej] at hP
    have fin : ∀ (a q n1 : Nat) (co1 : Nat → Nat → Option Nat) (g : Nat → Int64) (ow1 : Nat → Nat), (∀ i, i < 60 → g i = 0) → n ≤ n1 → co1 27 j = some a → (∀ i, i ≠ j → co1 27 i = co 27 i) → co1 26 = co 26 → b + 76 ≤ a → a < n1 → b + 76 ≤ q → q < n1 → ow1 a = 1 + j → ow1 q = 1 + j → a ≠ q → (∀ z, z < n → ow1 z = ow z) → ∀ m1 ml1, rowM s w k m ml m1 ml1 → LJ b c co1 m1 ml1 (rowS r a q w k g) n1 := by
      intro a q n1 co1 g ow1 hg hn c27 c27o c26 ha ha1 hq hq1 oa oq hne oo m1 ml1 hM
      unfold rowM at hM
      rw [if_pos z, ej] at hM
      obtain ⟨hm, hl, hlo⟩ := hM
      have f : ∀ l, l ≠ 17 → l ≠ 18 → m1 l = m l := fun l a d => by rw [hm, put_ne d, put_ne a]
      have g17 : ∀ i, m1 17 i = if i = j then k else m 17 i := fun i => by
        rw [hm, put_ne (by decide)]
        by_cases y : i = j
        · subst y; rw [put_at, if_pos rfl]
        · rw [put_no y, if_neg y]
      have g18 : ∀ i, m1 18 i = if i = j then w else m 18 i := fun i => by
        rw [hm]
        by_cases y : i = j
        · subst y; rw [put_at, if_pos rfl]
        · rw [put_no y, if_neg y, put_ne (by decide)]
      rw [ek] at g17 ⊢
      exact h.sl f (h5.set hN hn c27 c27o ha ha1 hq hq1 oa oq hne oo) (h6.row hN hw (by rw [g17, if_pos rfl]) (fun i hi => by rw [g17, if_neg hi]) (by rw [g18, if_pos rfl]) (fun i hi => by rw [g18, if_neg hi]) (fun i hi => by rw [hl i hi, hg i hi]) hlo) (h7.rows hj hn c26 oa oq oo) hn
    cases hs : S j with
    | some v =>
      obtain ⟨a, q, w0, N0, f0⟩ := v
      rw [hs] at hP
      obtain ⟨rfl, rfl, g, rfl, hg⟩ := hP
      obtain ⟨x1, x2, x3, x4, x5, x6, x7, x8, x9, x10, x11⟩ := (h5 j hj).2 a q w0 N0 f0 hs
      exact ⟨rowS r a q w k g, HM_rowS (by omega) (by omega), fin a q _ co1 g ow hg (Nat.le_refl _) x1 (fun _ _ => rfl) rfl x5 x6 x7 x8 x9 x10 x11 (fun _ _ => rfl)⟩
    | none =>
      rw [hs] at hP
      obtain ⟨rfl, rfl, g, rfl, hg⟩ := hP
      have o1 : (fun z => if n ≤ z then 1 + j else ow z) n = 1 + j := if_pos (Nat.le_refl _)
      have o2 : (fun z => if n ≤ z then 1 + j else ow z) (n + 1) = 1 + j := if_pos (Nat.le_succ _)
      exact ⟨rowS r n (n + 1) w k g, HM_rowS (by omega) (by omega), fin n (n + 1) (n + 2) _ g (fun z => if n ≤ z then 1 + j else ow z) hg (by omega) (by rw [st1_eq, va_up_self]) (fun i hi => by rw [st1_eq, va_up_ne _ _ hi]) (st1_ne (by decide)) h9 (by omega) (by omega) (by omega) o1 o2 (by omega) (fun z hz => if_neg (by omega))⟩
  · rw [if_neg z] at hP
    obtain ⟨rfl, rfl, rfl⟩ := hP
    refine ⟨r, rfl, fun m1 ml1 hM => ?_⟩
    unfold rowM at hM
    rw [if_neg z] at hM
    obtain ⟨rfl, rfl⟩ := hM
    exact h.lj
/-- a SLOT's numbers are others: the cell q is written -/
theorem SX.one {b n : Nat} {r : Nat → Option AE} {co : Nat → Nat → Option Nat} {S : Nat → Option ST} {ow : Nat → Nat} {j a q N : Nat} {w : Int32} {f g : Nat → Int64} (h : SX b n r co S ow) (hj : j < 4) (hs : S j = some (a, q, w, N, f)) : SX b n (fun z => if z = q then some (aJ 60 g) else r z) co (st1 S j (some (a, q, w, N, g))) ow := by
  obtain ⟨y1, y2, y3, y4, y5, y6, y7, y8, y9, y10, y11⟩ := (h j hj).2 a q w N f hs
  intro i hi
  by_cases e : i = j
  · subst e
    refine ⟨fun z => ?_, fun a' q' w' N' f' hs' => ?_⟩
    · rw [st1_eq] at z; cases z
    · rw [st1_eq] at hs'
      cases hs'
      exact ⟨y1, by show (if a = q then _ else r a) = _; rw [if_neg y11]; exact y2, if_pos rfl, y4, y5, y6, y7, y8, y9, y10, y11⟩
  · refine ⟨fun z => ?_, fun a' q' w' N' f' hs' => ?_⟩
    · rw [st1_ne e] at z; exact (h i hi).1 z
    · rw [st1_ne e] at hs'
      obtain ⟨x1, x2, x3, x4, x5, x6, x7, x8, x9, x10, x11⟩ := (h i hi).2 a' q' w' N' f' hs'
      exact ⟨x1, by show (if a' = q then _ else r a') = _; rw [if_neg (fun y => by subst y; omega)]; exact x2, by show (if q' = q then _ else r q') = _; rw [if_neg (fun y => by subst y; omega)]; exact x3, x4, x5, x6, x7, x8, x9, x10, x11⟩
theorem IY.one {b n : Nat} {r : Nat → Option AE} {co : Nat → Nat → Option Nat} {I : Nat → Option (Nat × CT)} {ow : Nat → Nat} {j q : Nat} {e : AE} (h : IY b n r co I ow) (hj : j < 4) (oq : ow q = 1 + j) : IY b n (fun z => if z = q then some e else r z) co I ow := by
  intro i hi
  refine ⟨(h i hi).1, fun q' Q hs => ?_⟩
  obtain ⟨x1, x2, x3, x4⟩ := (h i hi).2 q' Q hs
  refine ⟨x1, x2, fun z hz => ?_, x4⟩
  have := x4 z hz
  show (if q' + z = q then _ else r (q' + z)) = _
  rw [if_neg (fun y => by rw [y] at this; omega)]
  exact x3 z hz
theorem SL.one {S : Nat → Option ST} {m : CT} {ml ml1 : Nat → Nat → Int64} {j a q N : Nat} {w : Int32} {f g : Nat → Int64} (h : SL S m ml) (hj : j < 4) (hs : S j = some (a, q, w, N, f)) (e19 : ∀ i, i < 60 → ml1 19 (60 * j + i) = g i) (e19o : ∀ z, z < 60 * j ∨ 60 * j + 60 ≤ z → ml1 19 z = ml 19 z) : SL (st1 S j (some (a, q, w, N, g))) m ml1 := by
  obtain ⟨x1, x2, x3, x4, -⟩ := (h j hj).2 a q w N f hs
  exact h.row x2 x4 x1 (fun _ _ => rfl) x3 (fun _ _ => rfl) e19 e19o
theorem LJ'.write {b : Nat} {c : CT} {co : Nat → Nat → Option Nat} {m : CT} {ml : Nat → Nat → Int64} {r R1 : Nat → Option AE} {n nv nc nf nl wk L : Nat} {S : Nat → Option ST} {I : Nat → Option (Nat × CT)} {ow : Nat → Nat} {s i x : Int32} {v : Int64} (h : LJ' b c co m ml r n nv nc nf nl wk L S I ow) (hP : writeP S s i v x (HM (b + 55) m ml r n).1 R1) : ∃ r1, R1 = (HM (b + 55) m ml r1 n).1 ∧ ∀ x9 ml1, wrM S s i v x9 ml ml1 → x = x9 ∧ LJ b c co m ml1 r1 n := by
  obtain ⟨h1, h2, h3, h4, h5, h6, h7, h8, h9⟩ := id h
  unfold writeP at hP
  by_cases z : inI s 4 = 0
  · rw [if_pos z] at hP
    obtain ⟨rfl, rfl⟩ := hP
    refine ⟨r, rfl, fun x9 ml1 hM => ?_⟩
    unfold wrM at hM
    rw [if_pos z] at hM
    obtain ⟨rfl, rfl⟩ := hM
    exact ⟨rfl, h.lj⟩
  · rw [if_neg z] at hP
    obtain ⟨j, hj, rfl⟩ := inI_of (k := 4) (y := 4) rfl z (by decide)
    rw [tcl_nI (by omega)] at hP
    cases hs : S j with
    | none =>
      rw [hs] at hP
      obtain ⟨rfl, rfl⟩ := hP
      refine ⟨r, rfl, fun x9 ml1 hM => ?_⟩
      unfold wrM at hM
      rw [if_neg z, tcl_nI (by omega), hs] at hM
      obtain ⟨rfl, rfl⟩ := hM
      exact ⟨rfl, h.lj⟩
    | some y =>
      obtain ⟨a, q, w, N, f⟩ := y
      rw [hs] at hP
      obtain ⟨x1, x2, x3, x4, x5, x6, x7, x8, x9, x10, x11⟩ := (h5 j hj).2 a q w N f hs
      by_cases u : inI i (nI N) = 0
      · have hP : x = -7 ∧ R1 = (HM (b + 55) m ml r n).1 := by have := hP; dsimp only at this; rw [if_pos u] at this; exact this
        obtain ⟨rfl, rfl⟩ := hP
        refine ⟨r, rfl, fun x9 ml1 hM => ?_⟩
        unfold wrM at hM
        rw [if_neg z, tcl_nI (by omega), hs] at hM
        have hM : x9 = -7 ∧ ml1 = ml := by have := hM; dsimp only at this; rw [if_pos u] at this; exact this
        obtain ⟨rfl, rfl⟩ := hM
        exact ⟨rfl, h.lj⟩
      · have hP : x = 0 ∧ R1 = fun z => if z = q then some (aJ 60 (vp_updL f (tcl i) (cutF w v))) else (HM (b + 55) m ml r n).1 z := by have := hP; dsimp only at this; rw [if_neg u] at this; exact this
        obtain ⟨rfl, rfl⟩ := hP
        obtain ⟨d, hd, rfl⟩ := inI_of rfl u (by omega)
        rw [tcl_nI (by omega)]
        refine ⟨_, HM_one (n1 := n) (by omega), fun x9 ml1 hM => ?_⟩
        unfold wrM at hM
        rw [if_neg z, tcl_nI (by omega), hs] at hM
        have hM : x9 = 0 ∧ ml1 = put ml 19 (60 * j + d) (cutF w v) := by have := hM; dsimp only at this; rw [if_neg u, tcl_nI (show d < 2 ^ 31 by omega)] at this; exact this
        obtain ⟨rfl, rfl⟩ := hM
        refine ⟨rfl, h.sl (fun _ _ _ => rfl) (h5.one hj hs) (h6.one hj hs (fun i hi => ?_) (fun z hz => put_no (by omega))) (h7.one hj x10) (Nat.le_refl _)⟩
        by_cases y : i = d
        · subst y; rw [put_at, pk_uLs]
        · rw [put_no (by omega), pk_uLn y]; exact ((h6 j hj).2 a q w N f hs).2.2.2.2 i hi