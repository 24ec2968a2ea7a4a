/-! THE REFERENCE: agree, needed -/
def okM (e : Nat → Int32) (f : Nat → Int64) (j : Nat) : Prop := f (3 * j + 2) = (e (tcl (f (3 * j)).toInt32 * 30 + tcl (f (3 * j + 1)).toInt32)).toInt64
theorem n1_ne {a : Nat} (h : a < 2 ^ 31) : ¬ nI a = -1 := fun z => by
  have e := congrArg Int32.toInt z
  rw [nI_toInt h] at e
  have : (-1 : Int32).toInt = -1 := rfl
  omega
theorem ag_iff {e : Nat → Int32} {f : Nat → Int64} {but : Int32} : ∀ k, agQ e f but k = true ↔ ∀ j, j < k → nI j = but ∨ okM e f j
  | 0 => ⟨fun _ j hj => absurd hj (by omega), fun _ => rfl⟩
  | k + 1 => by
    rw [agQ, Bool.and_eq_true, ag_iff k, Bool.or_eq_true, decide_eq_true_eq, decide_eq_true_eq]
    constructor
    · intro z j hj
      by_cases q : j = k
      · subst q; exact z.2
      · exact z.1 j (by omega)
    · intro z
      exact ⟨fun j hj => z j (by omega), z k (by omega)⟩
theorem mi_spec {e : Nat → Int32} {f : Nat → Int64} : ∀ (k i : Nat) (ms : Int32), (ms = -1 ∨ ∃ a, a < i ∧ ms = nI a) → i + k ≤ 60 → (miR e f i k ms = -1 ↔ ms = -1 ∧ ∀ j, i ≤ j → j < i + k → okM e f j) ∧ (∀ a, a < i + k → (miR e f i k ms = nI a ↔ (ms = nI a ∧ ∀ j, i ≤ j → j < i + k → okM e f j) ∨ (ms = -1 ∧ i ≤ a ∧ ∀ j, i ≤ j → j < i + k → (okM e f j ↔ j ≠ a)))) ∧ (miR e f i k ms = -1 ∨ miR e f i k ms = 99 ∨ ∃ a, a < i + k ∧ miR e f i k ms = nI a)
  | 0, i, ms, hms, h => by
    rw [miR]
    refine ⟨⟨fun z => ⟨z, fun j a b => absurd b (by omega)⟩, fun z => z.1⟩, fun a ha => ⟨fun z => Or.inl ⟨z, fun j a b => absurd b (by omega)⟩, fun z => z.elim (fun z => z.1) (fun z => absurd z.2.1 (by omega))⟩, ?_⟩
    rcases hms with z | ⟨a, ha, z⟩
    · exact Or.inl z
    · exact Or.inr (Or.inr ⟨a, by omega, z⟩)
  | k + 1, i, ms, hms, h => by
    rw [miR]
    by_cases q : okM e f i
    · rw [if_pos (show f (3 * i + 2) = (e (tcl (f (3 * i)).toInt32 * 30 + tcl (f (3 * i + 1)).toInt32)).toInt64 from q)]
      obtain ⟨h1, h2, h3⟩ := mi_spec (e := e) (f := f) k (i + 1) ms (hms.imp id (fun ⟨a, x, y⟩ => ⟨a, by omega, y⟩)) (by omega)
      have all : (∀ j, i ≤ j → j < i + (k + 1) → okM e f j) ↔ ∀ j, i + 1 ≤ j → j < i + 1 + k → okM e f j := by
        constructor
        · intro z j a b; exact z j (by omega) (by omega)
        · intro z j a b
          by_cases w : j = i
          · subst w; exact q
          · exact z j (by omega) (by omega)
      refine ⟨by rw [h1, all], fun a ha => ?_, by rw [show i + (k + 1) = i + 1 + k by omega]; exact h3⟩
      rw [h2 a (by omega), all]
      constructor
      · rintro (z | ⟨z1, z2, z3⟩)
        · exact Or.inl z
        · refine Or.inr ⟨z1, by omega, fun j x y => ?_⟩
          by_cases w : j = i
          · subst w; exact ⟨fun _ => by omega, fun _ => q⟩
          · exact z3 j (by omega) (by omega)
      · rintro (z | ⟨z1, z2, z3⟩)
        · exact Or.inl z
        · have : i ≠ a := (z3 i (Nat.le_refl _) (by omega)).mp q
          exact Or.inr ⟨z1, by omega, fun j x y => z3 j (by omega) (by omega)⟩
    · rw [if_neg (show ¬ f (3 * i + 2) = (e (tcl (f (3 * i)).toInt32 * 30 + tcl (f (3 * i + 1)).toInt32)).toInt64 from q)]
      by_cases hm : ms = -1
      · rw [if_pos hm]
        obtain ⟨h1, h2, h3⟩ := mi_spec (e := e) (f := f) k (i + 1) (nI i) (Or.inr ⟨i, by omega, rfl⟩) (by omega)
        refine ⟨⟨fun z => absurd (h1.mp z).1 (n1_ne (by omega)), fun z => absurd (z.2 i (Nat.le_refl _) (by omega)) q⟩, fun a ha => ?_, by rw [show i + (k + 1) = i + 1 + k by omega]; exact h3⟩
        rw [h2 a (by omega)]
        constructor
        · rintro (⟨z1, z2⟩ | ⟨z1, _⟩)
          · have e1 := (nI_eq (by omega) (by omega)).mp z1
            subst e1
            refine Or.inr ⟨hm, Nat.le_refl _, fun j x y => ?_⟩
            by_cases w : j = i
            · subst w; exact ⟨fun z => absurd z q, fun z => absurd rfl z⟩
            · exact ⟨fun _ => w, fun _ => z2 j (by omega) (by omega)⟩
          · exact absurd z1 (n1_ne (by omega))
        · rintro (⟨z1, z2⟩ | ⟨z1, z2, z3⟩)
          · exact absurd (z2 i (Nat.le_refl _) (by omega)) q
          · have e1 : i = a := by
              by_cases w : i = a
              · exact w
              · exact absurd ((z3 i (Nat.le_refl _) (by omega)).mpr w) q
            subst e1
            exact Or.inl ⟨rfl, fun j x y => (z3 j (by omega) (by omega)).mpr (by omega)⟩
      · rw [if_neg hm]
        refine ⟨⟨fun z => absurd z (by decide), fun z => absurd z.1 hm⟩, fun a ha => ⟨fun z => ?_, fun z => ?_⟩, Or.inr (Or.inl rfl)⟩
        · have := (nI_eq (a := 99) (b := a) (by decide) (by omega)).mp z
          omega
        · rcases z with z | z
          · exact absurd (z.2 i (Nat.le_refl _) (by omega)) q
          · exact absurd z.1 hm
theorem ag_none {e : Nat → Int32} {f : Nat → Int64} {K : Nat} (hK : K ≤ 60) : agQ e f (-1) K = true ↔ miR e f 0 K (-1) = -1 := by
  rw [ag_iff, (mi_spec K 0 (-1) (Or.inl rfl) (by omega)).1]
  constructor
  · intro z
    exact ⟨rfl, fun j _ hj => (z j (by omega)).resolve_left (n1_ne (by omega))⟩
  · intro z j hj
    exact Or.inr (z.2 j (by omega) (by omega))
theorem ag_one {e : Nat → Int32} {f : Nat → Int64} {K a : Nat} (hK : K ≤ 60) (ha : a < K) : agQ e f (nI a) K = true ↔ miR e f 0 K (-1) = -1 ∨ miR e f 0 K (-1) = nI a := by
  obtain ⟨s1, s2, _⟩ := mi_spec (e := e) (f := f) K 0 (-1) (Or.inl rfl) (by omega)
  rw [ag_iff, s1, s2 a (by omega)]
  constructor
  · intro z
    by_cases q : okM e f a
    · refine Or.inl ⟨rfl, fun j _ hj => ?_⟩
      rcases z j (by omega) with w | w
      · have := (nI_eq (by omega) (by omega)).mp w
        rw [this]; exact q
      · exact w
    · refine Or.inr (Or.inr ⟨rfl, by omega, fun j _ hj => ?_⟩)
      constructor
      · intro w hja; subst hja; exact q w
      · intro w
        rcases z j (by omega) with w2 | w2
        · exact absurd ((nI_eq (by omega) (by omega)).mp w2) w
        · exact w2
  · rintro (z | z) j hj
    · exact Or.inr (z.2 j (by omega) (by omega))
    · rcases z with z | z
      · exact absurd z.1.symm (n1_ne (by omega))
      · by_cases w : j = a
        · exact Or.inl (by rw [w])
        · exact Or.inr ((z.2.2 j (by omega) (by omega)).mpr w)
def cA (P : Nat → Bool) : Nat → Nat
  | 0 => 0
  | k + 1 => cA P k + (if P k = true then 1 else 0)
theorem cA_le {P : Nat → Bool} : ∀ k, cA P k ≤ k
  | 0 => Nat.le_refl _
  | k + 1 => by have := cA_le (P := P) k; rw [cA]; split <;> omega
def agP (c : CT) (f : Nat → Int64) (K : Nat) (but : Int32) (k : Nat) : Bool := agQ (runF (leadF c k) 31) f but K
theorem cA_cnt {c : CT} {f : Nat → Int64} {K : Nat} (hK : K ≤ 60) : ∀ n, cA (agP c f K (-1)) n = cntM (PM c (K, f)) n
  | 0 => rfl
  | n + 1 => by
    rw [cA, cntM, cA_cnt hK n]
    by_cases z : PM c (K, f) n = -1
    · rw [if_pos z, if_pos (show agP c f K (-1) n = true from (ag_none hK).mpr z)]
    · rw [if_neg z, if_neg (show ¬ agP c f K (-1) n = true from fun q => z ((ag_none hK).mp q)), Nat.add_zero]
theorem cA_mono {c : CT} {f : Nat → Int64} {K a : Nat} (hK : K ≤ 60) (ha : a < K) : ∀ n, cA (agP c f K (-1)) n ≤ cA (agP c f K (nI a)) n ∧ (cA (agP c f K (-1)) n < cA (agP c f K (nI a)) n ↔ ∃ k, k < n ∧ PM c (K, f) k = nI a)
  | 0 => ⟨Nat.le_refl _, ⟨fun z => absurd z (by simp [cA]), fun ⟨k, h, _⟩ => absurd h (by omega)⟩⟩
  | n + 1 => by
    obtain ⟨h1, h2⟩ := cA_mono (c := c) (f := f) hK ha n
    rw [cA, cA]
    have o1 := ag_none (e := runF (leadF c n) 31) (f := f) hK
    have o2 := ag_one (e := runF (leadF c n) 31) (f := f) hK ha
    have p1 : agP c f K (-1) n = true ↔ PM c (K, f) n = -1 := o1
    have p2 : agP c f K (nI a) n = true ↔ PM c (K, f) n = -1 ∨ PM c (K, f) n = nI a := o2
    by_cases z : PM c (K, f) n = -1
    · rw [if_pos (p1.mpr z), if_pos (p2.mpr (Or.inl z))]
      refine ⟨by omega, ?_⟩
      rw [show cA (agP c f K (-1)) n + 1 < cA (agP c f K (nI a)) n + 1 ↔ cA (agP c f K (-1)) n < cA (agP c f K (nI a)) n by omega, h2]
      constructor
      · rintro ⟨k, x, y⟩; exact ⟨k, by omega, y⟩
      · rintro ⟨k, x, y⟩
        have : k ≠ n := fun q => by subst q; rw [z] at y; exact n1_ne (by omega) y.symm
        exact ⟨k, by omega, y⟩
    · rw [if_neg (fun q => z (p1.mp q))]
      by_cases w : PM c (K, f) n = nI a
      · rw [if_pos (p2.mpr (Or.inr w))]
        exact ⟨by omega, ⟨fun _ => ⟨n, by omega, w⟩, fun _ => by omega⟩⟩
      · rw [if_neg (fun q => (p2.mp q).elim z w)]
        refine ⟨by omega, ?_⟩
        rw [Nat.add_zero, Nat.add_zero, h2]
        constructor
        · rintro ⟨k, x, y⟩; exact ⟨k, by omega, y⟩
        · rintro ⟨k, x, y⟩
          have : k ≠ n := fun q => by subst q; exact w y
          exact ⟨k, by omega, y⟩
theorem le_spec {P : Nat → Int32} {K : Nat} (hK : K ≤ 60) (hP : ∀ k, P k = -1 ∨ P k = 99 ∨ ∃ a, a < K ∧ P k = nI a) : ∀ n, (leM P n = 99 ∧ ∀ k, k < n → ∀ a, a < K → P k ≠ nI a) ∨ ∃ a, a < K ∧ leM P n = nI a ∧ (∃ k, k < n ∧ P k = nI a) ∧ ∀ b, b < a → ∀ k, k < n → P k ≠ nI b
  | 0 => Or.inl ⟨rfl, fun k h => absurd h (by omega)⟩
  | n + 1 => by
    rw [leM]
    by_cases z : P n = -1
    · rw [if_pos z]
      have nn : ∀ a, a < K → P n ≠ nI a := fun a ha q => n1_ne (by omega) (q.symm.trans z)
      rcases le_spec hK hP n with ⟨h1, h2⟩ | ⟨a, ha, h1, ⟨k, hk, h2⟩, h3⟩
      · refine Or.inl ⟨h1, fun k hk a ha => ?_⟩
        by_cases q : k = n
        · subst q; exact nn a ha
        · exact h2 k (by omega) a ha
      · refine Or.inr ⟨a, ha, h1, ⟨k, by omega, h2⟩, fun b hb k hk => ?_⟩
        by_cases q : k = n
        · subst q; exact nn b (by omega)
        · exact h3 b hb k (by omega)
    · rw [if_neg z]
      have T99 : (99 : Int32).toInt = 99 := rfl
      rcases (hP n).resolve_left z with w | ⟨a', ha', w⟩
      · have nn : ∀ a, a < K → P n ≠ nI a := fun a ha q => by
          have := (nI_eq (a := a) (b := 99) (by omega) (by decide)).mp (q.symm.trans w)
          omega
        rw [w]
        rcases le_spec hK hP n with ⟨h1, h2⟩ | ⟨a, ha, h1, ⟨k, hk, h2⟩, h3⟩
        · refine Or.inl ⟨by rw [h1]; decide, fun k hk a ha => ?_⟩
          by_cases q : k = n
          · subst q; exact nn a ha
          · exact h2 k (by omega) a ha
        · refine Or.inr ⟨a, ha, ?_, ⟨k, by omega, h2⟩, fun b hb k hk => ?_⟩
          · rw [h1, mn, if_neg (show ¬ (99 : Int32) < nI a from nI_nlt (a := 99) (b := a) (by omega) (by decide))]
          · by_cases q : k = n
            · subst q; exact nn b (by omega)
            · exact h3 b hb k (by omega)
      · rw [w]
        rcases le_spec hK hP n with ⟨h1, h2⟩ | ⟨a, ha, h1, ⟨k, hk, h2⟩, h3⟩
        · refine Or.inr ⟨a', ha', by rw [h1, mn, if_pos (show nI a' < 99 from nI_lt (b := 99) (by omega) (by decide))], ⟨n, by omega, w⟩, fun b hb k hk => ?_⟩
          by_cases q : k = n
          · subst q; rw [w]; exact fun z => by have := (nI_eq (by omega) (by omega)).mp z; omega
          · exact h2 k (by omega) b (by omega)
        · by_cases lt : a' < a
          · refine Or.inr ⟨a', ha', by rw [h1, mn, if_pos (nI_lt lt (by omega))], ⟨n, by omega, w⟩, fun b hb k hk => ?_⟩
            by_cases q : k = n
            · subst q; rw [w]; exact fun z => by have := (nI_eq (by omega) (by omega)).mp z; omega
            · exact h3 b (by omega) k (by omega)
          · refine Or.inr ⟨a, ha, by rw [h1, mn, if_neg (nI_nlt (by omega) (by omega))], ⟨k, by omega, h2⟩, fun b hb k hk => ?_⟩
            by_cases q : k = n
            · subst q; rw [w]; exact fun z => by have := (nI_eq (by omega) (by omega)).mp z; omega
            · exact h3 b hb k (by omega)
theorem mwR_v {f : Nat → Int64} {nv wk : Nat} : ∀ k i, mwR f nv wk i k = 0 ∨ mwR f nv wk i k = -2
  | 0, _ => Or.inl rfl
  | k + 1, i => by
    rw [mwR]; split
    · exact mwR_v k (i + 1)
    · exact Or.inr rfl
theorem mwA_v {c : CT} {S : Nat → Option ST} {nv wk : Nat} {s : Int32} {rest : Prop} [Decidable rest] : mwA c S nv wk s rest = 0 ∨ mwA c S nv wk s rest = -2 ∨ mwA c S nv wk s rest = -6 := by
  unfold mwA
  split
  · split
    · exact Or.inr (Or.inr rfl)
    · split
      · exact (mwR_v _ _).imp id Or.inl
      · exact Or.inr (Or.inl rfl)
  · exact Or.inr (Or.inl rfl)
theorem mw_neg {c : CT} {S : Nat → Option ST} {nv wk : Nat} {s : Int32} {rest : Prop} [Decidable rest] : (mwA c S nv wk s rest < 0 ↔ ¬ mwA c S nv wk s rest = 0) := by
  rcases mwA_v (c := c) (S := S) (nv := nv) (wk := wk) (s := s) (rest := rest) with e | e | e <;> rw [e] <;> decide
theorem but_loop (G : GX) (X : XC) {b : Nat} {c m : CT} {ml : Nat → Nat → Int64} {r : Nat → Option AE} {n : Nat} {nv nc nf nl wk j N : Nat} {f : Nat → Int64} {but : Int32} {u1 u2 : Nat} (hu : u1 = 0 ∧ u2 = 0) (h : BL nv nc nf nl wk c m) (hj : j < 4) (e17 : m 17 j = nI N) (hN : N ≤ 60) (h3 : N = 3 * (N / 3)) (e19 : ∀ i, i < 60 → ml 19 (60 * j + i) = f i) (hok : ∀ i, i < N / 3 → mkOk f nv wk i = true) : ∀ (k i : Nat) (m' : CT), i + k = tot nv nf → EM m m' → WA X G RX10 cX10_agreeBut false (some .int) (qI fun x9 h1 => x9 = nI (cA (agP c f (N / 3) but) (tot nv nf)) ∧ ∃ m1, h1 = HM b m1 ml r n ∧ kM m m1) 5 0 0 (HM b m' ml r n) u1 u2 15 [some (.ref b), some (.int (nI j)), some (.int but), some (.int (nI (cA (agP c f (N / 3) but) i))), some (.int (nI (tot nv nf))), some (.int (nI i))] [] := by
  obtain ⟨rfl, rfl⟩ := hu
  have hb := h.nb
  have hw30 := h.ix.2.2.2.2.2.2.2.2.2.1
  have ht := tot_343 (nv := nv) (nf := nf) hb.1 hb.2.2.1
  intro k
  induction k with
  | zero =>
    intro i m' hk E
    have e9 : i = tot nv nf := by omega
    subst e9
    refine A_iload dX10_agreeBut_15 rfl ?_
    refine A_iload dX10_agreeBut_17 rfl ?_
    refine A_icmp_ge 55 dX10_agreeBut_19 (by decide) (fun c19 => ?_) (fun c19 => ?_)
    · refine A_aload_n dX10_agreeBut_55 rfl rfl ?_
      refine A_callVv dX10_agreeBut_56 m_X10_348 cb_X10_bringsTakersBack (As := []) rfl HM_at0 rfl (k_bringsTakersBack G) rfl ⟨by decide, by decide⟩ (Nat.le_of_ble_eq_true rfl) ⟨by decide, by decide⟩ (fun h56 hq => ?_)
      obtain ⟨g, rfl, hg⟩ := hq
      refine A_iload_n dX10_agreeBut_59 rfl rfl ?_
      exact A_iret dX10_agreeBut_60 ⟨rfl, _, rfl, E.back hg⟩ ⟨by decide, by decide⟩
    · exact absurd (nI_le (Nat.le_refl _) (by omega)) c19
  | succ k ih =>
    intro i m' hk E
    have hi : i < tot nv nf := by omega
    obtain ⟨S, D⟩ := tk_sim (k := i) h E
    have E2 := (E.tk (nv := nv) (nf := nf) (k := i) hb.2.2.1).run (fl := 7)
    have e172 : runM 7 (st1 m' 1 (tkW m' nv nf i)) 17 j = nI N := by rw [E2.2.2.1 17 (by decide)]; exact e17
    have he : ∀ v w, v < nv → w < wk → runM 7 (st1 m' 1 (tkW m' nv nf i)) 8 (30 * v + w) = runF (leadF c i) 31 (v * 30 + w) := fun v w hv hw => (S.f0 v hv w hw).symm
    refine A_iload dX10_agreeBut_15 rfl ?_
    refine A_iload dX10_agreeBut_17 rfl ?_
    refine A_icmp_ge 55 dX10_agreeBut_19 (by decide) (fun c19 => ?_) (fun c19 => ?_)
    · exact absurd c19 (nI_ge (by omega) (by omega))
    · refine A_aload_n dX10_agreeBut_22 rfl rfl ?_
      refine A_iload dX10_agreeBut_23 rfl ?_
      refine A_callVv dX10_agreeBut_25 m_X10_342 cb_X10_takersAre (As := [_]) rfl HM_at0 rfl (k_takersAre G (E.im h.im) (by omega)) rfl ⟨by decide, by decide⟩ (Nat.le_of_ble_eq_true rfl) ⟨by decide, by decide⟩ (fun h25 hq => ?_)
      obtain rfl := hq
      refine A_aload_n dX10_agreeBut_28 rfl rfl ?_
      refine A_callVv dX10_agreeBut_29 m_X10_317 cb_X10_year (As := []) rfl HM_at0 rfl (k_year G ((E.tk hb.2.2.1).im h.im) (tk_TM hb.1)) rfl ⟨by decide, by decide⟩ (Nat.le_of_ble_eq_true rfl) ⟨by decide, by decide⟩ (fun h29 hq => ?_)
      obtain rfl := hq
      obtain ⟨y, ey⟩ : ∃ y, runM 7 (st1 m' 1 (tkW m' nv nf i)) = y := ⟨_, rfl⟩
      rw [ey] at E2 e172 he ⊢
      refine A_iload_n dX10_agreeBut_32 rfl rfl ?_
      refine A_aload_n dX10_agreeBut_33 rfl rfl ?_
      refine A_iload_n dX10_agreeBut_34 rfl rfl ?_
      refine A_iload_n dX10_agreeBut_35 rfl rfl ?_
      refine A_callVi dX10_agreeBut_36 m_X10_386 cb_X10_agrees (As := [_, _]) rfl HM_at0 rfl (k_agrees G (but := but) hj e172 hN h3 e19 hok hb.1 hw30 he) rfl ⟨by decide, by decide⟩ (Nat.le_of_ble_eq_true rfl) ⟨by decide, by decide⟩ (fun x36 h36 hq => ?_)
      obtain ⟨rfl, rfl⟩ := hq
      refine A_if_eq 46 dX10_agreeBut_39 (by decide) (fun c39 => ?_) (fun c39 => ?_)
      · have q9 : ¬ agP c f (N / 3) but i = true := fun z => by rw [if_pos (show agQ (runF (leadF c i) 31) f but (N / 3) = true from z)] at c39; exact absurd c39 (by decide)
        refine A_iconst (v := 0) dX10_agreeBut_46 (by decide) ?_
        refine A_iadd dX10_agreeBut_47 ?_
        refine A_eqI (y := nI (cA (agP c f (N / 3) but) (i + 1))) (by rw [cA, if_neg q9]; exact nI_add _ 0) ?_
        refine A_istore_n (lv1 := [_, _, _, _, _, _]) dX10_agreeBut_48 rfl (Nat.le_of_ble_eq_true rfl) rfl rfl ?_
        refine A_inc 1 (lv1 := [_, _, _, _, _, _]) dX10_agreeBut_49 rfl (by decide) rfl rfl ?_
        refine A_goto 15 dX10_agreeBut_52 (by decide) ?_
        rw [nI_1]
        exact ih (i + 1) _ (by omega) E2
      · have q9 : agP c f (N / 3) but i = true := by by_cases z : agP c f (N / 3) but i = true; exact z; exact absurd (if_neg (show ¬ agQ (runF (leadF c i) 31) f but (N / 3) = true from z)) c39
        refine A_iconst (v := 1) dX10_agreeBut_42 (by decide) ?_
        refine A_goto 47 dX10_agreeBut_43 (by decide) ?_
        refine A_iadd dX10_agreeBut_47 ?_
        refine A_eqI (y := nI (cA (agP c f (N / 3) but) (i + 1))) (by rw [cA, if_pos q9]; exact nI_add _ 1) ?_
        refine A_istore_n (lv1 := [_, _, _, _, _, _]) dX10_agreeBut_48 rfl (Nat.le_of_ble_eq_true rfl) rfl rfl ?_
        refine A_inc 1 (lv1 := [_, _, _, _, _, _]) dX10_agreeBut_49 rfl (by decide) rfl rfl ?_
        refine A_goto 15 dX10_agreeBut_52 (by decide) ?_
        rw [nI_1]
        exact ih (i + 1) _ (by omega) E2

theorem k_agreeBut (G : GX) {b : Nat} {c m : CT} {ml : Nat → Nat → Int64} {r : Nat → Option AE} {n : Nat} {nv nc nf nl wk j N : Nat} {f : Nat → Int64} {but : Int32} (h : BL nv nc nf nl wk c m) (hj : j < 4) (e17 : m 17 j = nI N) (hN : N ≤ 60) (h3 : N = 3 * (N / 3)) (e19 : ∀ i, i < 60 → ml 19 (60 * j + i) = f i) (hok : ∀ i, i < N / 3 → mkOk f nv wk i = true) : MA G 5 yX10_agreeBut cX10_agreeBut 6 (some .int) 0 0 [.ref b, .int (nI j), .int but] (HM b m ml r n) (qI fun x9 h1 => x9 = nI (cA (agP c f (N / 3) but) (tot nv nf)) ∧ ∃ m1, h1 = HM b m1 ml r n ∧ kM m m1) := by
  refine MA.of (own := RX10) false [some (.ref b), some (.int (nI j)), some (.int but), none, none, none] (by decide +kernel) rfl (fun h => by cases h) (Nat.le_of_ble_eq_true rfl) rfl (fun X => ?_)
  refine A_aload_n dX10_agreeBut_0 rfl rfl ?_
  refine A_callVv dX10_agreeBut_1 m_X10_333 cb_X10_keepsTakers (As := []) rfl HM_at0 rfl (k_keepsTakers G) rfl ⟨by decide, by decide⟩ (Nat.le_of_ble_eq_true rfl) ⟨by decide, by decide⟩ (fun h1 hq => ?_)
  obtain ⟨g, rfl, hg⟩ := hq
  refine A_iconst (v := 0) dX10_agreeBut_4 (by decide) ?_
  refine A_istore_n (lv1 := [_, _, _, _, _, _]) dX10_agreeBut_5 rfl (Nat.le_of_ble_eq_true rfl) rfl rfl ?_
  refine A_aload_n dX10_agreeBut_6 rfl rfl ?_
  refine A_callVi dX10_agreeBut_7 m_X10_339 cb_X10_takersMany (As := []) rfl HM_at0 rfl (k_takersMany G ((EM.mk hg).im h.im)) rfl ⟨by decide, by decide⟩ (Nat.le_of_ble_eq_true rfl) ⟨by decide, by decide⟩ (fun x7 h7 hq => ?_)
  obtain ⟨rfl, rfl⟩ := hq
  refine A_istore (lv1 := [_, _, _, _, _, _]) dX10_agreeBut_10 (Nat.le_of_ble_eq_true rfl) rfl rfl ?_
  refine A_iconst (v := 0) dX10_agreeBut_12 (by decide) ?_
  refine A_istore (lv1 := [_, _, _, _, _, _]) dX10_agreeBut_13 (Nat.le_of_ble_eq_true rfl) rfl rfl ?_
  exact but_loop G X ⟨rfl, rfl⟩ h hj e17 hN h3 e19 hok (tot nv nf) 0 _ (by omega) (EM.mk hg)

theorem SF_3 {S : Nat → Option ST} {m : CT} {ml : Nat → Nat → Int64} {c : CT} {nv wk : Nat} {s : Int32} {rest : Prop} [Decidable rest] (hS : SL S m ml) (h : mwA c S nv wk s rest = 0) : ∃ j N f, j < 4 ∧ s = nI j ∧ m 17 j = nI N ∧ N ≤ 60 ∧ N = 3 * (N / 3) ∧ (∀ i, i < 60 → ml 19 (60 * j + i) = f i) ∧ (∀ i, i < N / 3 → mkOk f nv wk i = true) ∧ rest ∧ SF S s = (N / 3, f) := by
  obtain ⟨j, a, q, w, N, f, hj, hs, hSj, h3, hok, hr, hSF⟩ := mwA_0 h
  obtain ⟨e17, hN, _, _, e19⟩ := (hS j hj).2 a q w N f hSj
  exact ⟨j, N, f, hj, hs, e17, hN, h3, e19, hok, hr, hSF⟩
theorem k_agree (G : GX) {b : Nat} {c m : CT} {ml : Nat → Nat → Int64} {r : Nat → Option AE} {n : Nat} {nv nc nf nl wk : Nat} {S : Nat → Option ST} {s : Int32} (h : BL nv nc nf nl wk c m) (hS : SL S m ml) : MA G 6 yX10_agree cX10_agree 3 (some .int) 0 0 [.ref b, .int s] (HM b m ml r n) (qI fun x9 h1 => x9 = agreeA c S nv nf wk s ∧ ∃ m1 ml1, h1 = HM b m1 ml1 r n ∧ KM m ml m1 ml1) := by
  refine MA.of (own := RX10) false [some (.ref b), some (.int s), none] (by decide +kernel) rfl (fun h => by cases h) (Nat.le_of_ble_eq_true rfl) rfl (fun X => ?_)
  have hX := h.ix
  obtain ⟨xv, xv6, xc, xc8, xf, xf3, xl, xl8, xw, xw30, xC, xL⟩ := id hX
  have hI := h.im
  obtain ⟨hv, hv6, hc, hc8, hf, hf3, hl, hl8, hw, hw30, gC, gL⟩ := id hI
  have hT := h.tm
  refine A_aload_n dX10_agree_0 rfl rfl ?_
  refine A_iload_n dX10_agree_1 rfl rfl ?_
  refine A_iconst (v := 1) dX10_agree_2 (by decide) ?_
  refine A_callVi dX10_agree_3 m_X10_390 cb_X10_asksMarks (As := [_, _]) rfl HM_at0 rfl (k_asksMarks G h hS) rfl ⟨by decide, by decide⟩ (Nat.le_of_ble_eq_true rfl) ⟨by decide, by decide⟩ (fun x3 h3 hq => ?_)
  obtain ⟨rfl, rfl⟩ := hq
  refine A_istore_n (lv1 := [_, _, _]) dX10_agree_6 rfl (Nat.le_of_ble_eq_true rfl) rfl rfl ?_
  refine A_iload_n dX10_agree_7 rfl rfl ?_
  refine A_if_ge 15 dX10_agree_8 (by decide) (fun c8 => ?_) (fun c8 => ?_)
  · have q0 : mwA c S nv wk s (¬ (1 : Int32) = 0) = 0 := by by_cases z : mwA c S nv wk s (¬ (1 : Int32) = 0) = 0; exact z; exact absurd (mw_neg.mpr z) (Int32.not_lt.mpr c8)
    obtain ⟨j, N, f, hj, rfl, e17, hN, h3, e19, hok, _, hSF⟩ := SF_3 hS q0
    refine A_aload_n dX10_agree_15 rfl rfl ?_
    refine A_iload_n dX10_agree_16 rfl rfl ?_
    refine A_iconst (v := (-1)) dX10_agree_17 (by decide) ?_
    refine A_callVi dX10_agree_18 m_X10_394 cb_X10_agreeBut (As := [_, _]) rfl HM_at0 rfl (k_agreeBut G h hj e17 hN h3 e19 hok) rfl ⟨by decide, by decide⟩ (Nat.le_of_ble_eq_true rfl) ⟨by decide, by decide⟩ (fun x18 h18 hq => ?_)
    obtain ⟨rfl, m1, rfl, hk1⟩ := hq
    exact A_iret dX10_agree_21 ⟨by rw [agreeA, if_pos q0, hSF, cA_cnt (by omega)], _, _, rfl, hk1, rfl⟩ ⟨by decide, by decide⟩
  · have q0 : ¬ mwA c S nv wk s (¬ (1 : Int32) = 0) = 0 := mw_neg.mp (Int32.not_le.mp c8)
    refine A_iload_n dX10_agree_11 rfl rfl ?_
    refine A_goto 21 dX10_agree_12 (by decide) ?_
    exact A_iret dX10_agree_21 ⟨by rw [agreeA, if_neg q0], ⟨_, _, rfl, KM.rf⟩⟩ ⟨by decide, by decide⟩

theorem need_loop (G : GX) (X : XC) {b : Nat} {c m : CT} {ml : Nat → Nat → Int64} {r : Nat → Option AE} {n : Nat} {nv nc nf nl wk j N : Nat} {f : Nat → Int64} {A x0 : Int32} {u1 u2 : Nat} (hu : u1 = 0 ∧ u2 = 0) (h : BL nv nc nf nl wk c m) (hj : j < 4) (e17 : m 17 j = nI N) (hN : N ≤ 60) (h3 : N = 3 * (N / 3)) (e19 : ∀ i, i < 60 → ml 19 (60 * j + i) = f i) (hok : ∀ i, i < N / 3 → mkOk f nv wk i = true) (hA : A = if leM (PM c (N / 3, f)) (tot nv nf) = 99 then -1 else leM (PM c (N / 3, f)) (tot nv nf)) : ∀ (k i : Nat) (m' : CT), i + k = N / 3 → kM m m' → (∀ a, a < i → ∀ q, q < tot nv nf → PM c (N / 3, f) q ≠ nI a) → WA X G RX10 cX10_needed false (some .int) (qI fun x9 h1 => x9 = A ∧ ∃ m1 ml1, h1 = HM b m1 ml1 r n ∧ KM m ml m1 ml1) 6 0 0 (HM b m' ml r n) u1 u2 23 [some (.ref b), some (.int (nI j)), some (.int x0), some (.int (nI (cA (agP c f (N / 3) (-1)) (tot nv nf)))), some (.int (nI i))] [] := by
  obtain ⟨rfl, rfl⟩ := hu
  have hb := h.nb
  have ht := tot_343 (nv := nv) (nf := nf) hb.1 hb.2.2.1
  have hle := le_spec (P := PM c (N / 3, f)) (K := N / 3) (by omega) (fun k => by have := (mi_spec (e := runF (leadF c k) 31) (f := f) (N / 3) 0 (-1) (Or.inl rfl) (by omega)).2.2; rw [Nat.zero_add] at this; exact this) (tot nv nf)
  intro k
  induction k with
  | zero =>
    intro i m' hk hK hz
    have h1 : BL nv nc nf nl wk c m' := h.to (fun _ _ => rfl) hK
    have e17' : m' 17 j = nI N := by rw [hK.1 17 (by decide) (by decide)]; exact e17
    refine A_iconst (v := 3) dX10_needed_23 (by decide) ?_
    refine A_iload dX10_needed_24 rfl ?_
    refine A_imul dX10_needed_26 ?_
    refine A_aload_n dX10_needed_27 rfl rfl ?_
    refine A_get dX10_needed_28 f_X10_67 HM_at0 rfl ?_
    refine A_iload_n dX10_needed_31 rfl rfl ?_
    refine A_ialdK (i := j) dX10_needed_32 (HM_at (by decide)) rfl (by omega) (by decide) ?_
    refine A_eqI e17' ?_
    refine A_icmp_ge 56 dX10_needed_33 (by decide) (fun c33 => ?_) (fun c33 => ?_)
    · refine A_iconst (v := (-1)) dX10_needed_56 (by decide) ?_
      exact A_iret dX10_needed_57 ⟨by rcases hle with ⟨e, _⟩ | ⟨a, ha, _, ⟨q, hq, hqa⟩, _⟩; (rw [hA, if_pos e]); (exact absurd hqa (hz a (by omega) q hq)), _, _, rfl, hK, rfl⟩ ⟨by decide, by decide⟩
    · exact absurd (nI_le (a := N) (b := 3 * i) (by omega) (by omega)) (fun z => c33 (by rw [show (3 : Int32) = nI 3 from rfl, pk_mul]; exact z))
  | succ k ih =>
    intro i m' hk hK hz
    have h1 : BL nv nc nf nl wk c m' := h.to (fun _ _ => rfl) hK
    have e17' : m' 17 j = nI N := by rw [hK.1 17 (by decide) (by decide)]; exact e17
    have hi : i < N / 3 := by omega
    have hm := cA_mono (c := c) (f := f) (K := N / 3) (by omega) hi (tot nv nf)
    have l1 := cA_le (P := agP c f (N / 3) (-1)) (tot nv nf)
    have l2 := cA_le (P := agP c f (N / 3) (nI i)) (tot nv nf)
    refine A_iconst (v := 3) dX10_needed_23 (by decide) ?_
    refine A_iload dX10_needed_24 rfl ?_
    refine A_imul dX10_needed_26 ?_
    refine A_aload_n dX10_needed_27 rfl rfl ?_
    refine A_get dX10_needed_28 f_X10_67 HM_at0 rfl ?_
    refine A_iload_n dX10_needed_31 rfl rfl ?_
    refine A_ialdK (i := j) dX10_needed_32 (HM_at (by decide)) rfl (by omega) (by decide) ?_
    refine A_eqI e17' ?_
    refine A_icmp_ge 56 dX10_needed_33 (by decide) (fun c33 => ?_) (fun c33 => ?_)
    · exact absurd c33 (fun z => by rw [show (3 : Int32) = nI 3 from rfl, pk_mul] at z; exact nI_ge (by omega) (by omega) z)
    · refine A_aload_n dX10_needed_36 rfl rfl ?_
      refine A_iload_n dX10_needed_37 rfl rfl ?_
      refine A_iload dX10_needed_38 rfl ?_
      refine A_callVi dX10_needed_40 m_X10_394 cb_X10_agreeBut (As := [_, _]) rfl HM_at0 rfl (k_agreeBut G (but := nI i) h1 hj e17' hN h3 e19 hok) rfl ⟨by decide, by decide⟩ (Nat.le_of_ble_eq_true rfl) ⟨by decide, by decide⟩ (fun x40 h40 hq => ?_)
      obtain ⟨rfl, m1, rfl, hk1⟩ := hq
      refine A_iload_n dX10_needed_43 rfl rfl ?_
      refine A_icmp_le 50 dX10_needed_44 (by decide) (fun c44 => ?_) (fun c44 => ?_)
      · refine A_inc 1 (lv1 := [_, _, _, _, _]) dX10_needed_50 rfl (by decide) rfl rfl ?_
        refine A_goto 23 dX10_needed_53 (by decide) ?_
        rw [nI_1]
        exact ih (i + 1) m1 (by omega) (hK.tr hk1) (fun a ha q hq z => by
          by_cases w : a = i
          · subst w
            have lt := hm.2.mpr ⟨q, hq, z⟩
            exact absurd c44 (nI_ge lt (by omega))
          · exact hz a (by omega) q hq z)
      · refine A_iload dX10_needed_47 rfl ?_
        exact A_iret dX10_needed_49 ⟨by
        have lt : cA (agP c f (N / 3) (-1)) (tot nv nf) < cA (agP c f (N / 3) (nI i)) (tot nv nf) := by
          by_cases z : cA (agP c f (N / 3) (-1)) (tot nv nf) < cA (agP c f (N / 3) (nI i)) (tot nv nf)
          · exact z
          · exact absurd (nI_le (by omega) (by omega)) c44
        obtain ⟨q, hq, hqa⟩ := hm.2.mp lt
        rcases hle with ⟨e, hn⟩ | ⟨a, ha, e, ⟨q2, hq2, hqa2⟩, hl⟩
        · exact absurd hqa (hn q hq i hi)
        · have ea : a = i := by
            rcases Nat.lt_trichotomy a i with z | z | z
            · exact absurd hqa2 (hz a z q2 hq2)
            · exact z
            · exact absurd hqa (hl i z q hq)
          rw [hA, e, ea, if_neg (fun z => by have := (nI_eq (a := i) (b := 99) (by omega) (by decide)).mp z; omega)], _, _, rfl, hK.tr hk1, rfl⟩ ⟨by decide, by decide⟩

theorem k_needed (G : GX) {b : Nat} {c m : CT} {ml : Nat → Nat → Int64} {r : Nat → Option AE} {n : Nat} {nv nc nf nl wk : Nat} {S : Nat → Option ST} {s : Int32} (h : BL nv nc nf nl wk c m) (hS : SL S m ml) : MA G 6 yX10_needed cX10_needed 5 (some .int) 0 0 [.ref b, .int s] (HM b m ml r n) (qI fun x9 h1 => x9 = neededA c S nv nf wk s ∧ ∃ m1 ml1, h1 = HM b m1 ml1 r n ∧ KM m ml m1 ml1) := by
  refine MA.of (own := RX10) false [some (.ref b), some (.int s), none, none, none] (by decide +kernel) rfl (fun h => by cases h) (Nat.le_of_ble_eq_true rfl) rfl (fun X => ?_)
  have hX := h.ix
  obtain ⟨xv, xv6, xc, xc8, xf, xf3, xl, xl8, xw, xw30, xC, xL⟩ := id hX
  have hI := h.im
  obtain ⟨hv, hv6, hc, hc8, hf, hf3, hl, hl8, hw, hw30, gC, gL⟩ := id hI
  have hT := h.tm
  refine A_aload_n dX10_needed_0 rfl rfl ?_
  refine A_iload_n dX10_needed_1 rfl rfl ?_
  refine A_iconst (v := 1) dX10_needed_2 (by decide) ?_
  refine A_callVi dX10_needed_3 m_X10_390 cb_X10_asksMarks (As := [_, _]) rfl HM_at0 rfl (k_asksMarks G h hS) rfl ⟨by decide, by decide⟩ (Nat.le_of_ble_eq_true rfl) ⟨by decide, by decide⟩ (fun x3 h3 hq => ?_)
  obtain ⟨rfl, rfl⟩ := hq
  refine A_istore_n (lv1 := [_, _, _, _, _]) dX10_needed_6 rfl (Nat.le_of_ble_eq_true rfl) rfl rfl ?_
  refine A_iload_n dX10_needed_7 rfl rfl ?_
  refine A_if_ge 13 dX10_needed_8 (by decide) (fun c8 => ?_) (fun c8 => ?_)
  · have q0 : mwA c S nv wk s (¬ (1 : Int32) = 0) = 0 := by by_cases z : mwA c S nv wk s (¬ (1 : Int32) = 0) = 0; exact z; exact absurd (mw_neg.mpr z) (Int32.not_lt.mpr c8)
    obtain ⟨j, N, f, hj, rfl, e17, hN, h3, e19, hok, _, hSF⟩ := SF_3 hS q0
    refine A_aload_n dX10_needed_13 rfl rfl ?_
    refine A_iload_n dX10_needed_14 rfl rfl ?_
    refine A_iconst (v := (-1)) dX10_needed_15 (by decide) ?_
    refine A_callVi dX10_needed_16 m_X10_394 cb_X10_agreeBut (As := [_, _]) rfl HM_at0 rfl (k_agreeBut G h hj e17 hN h3 e19 hok) rfl ⟨by decide, by decide⟩ (Nat.le_of_ble_eq_true rfl) ⟨by decide, by decide⟩ (fun x16 h16 hq => ?_)
    obtain ⟨rfl, m1, rfl, hk1⟩ := hq
    refine A_istore_n (lv1 := [_, _, _, _, _]) dX10_needed_19 rfl (Nat.le_of_ble_eq_true rfl) rfl rfl ?_
    refine A_iconst (v := 0) dX10_needed_20 (by decide) ?_
    refine A_istore (lv1 := [_, _, _, _, _]) dX10_needed_21 (Nat.le_of_ble_eq_true rfl) rfl rfl ?_
    exact need_loop G X ⟨rfl, rfl⟩ h hj e17 hN h3 e19 hok (by rw [neededA, if_pos q0, hSF]) (N / 3) 0 m1 (by omega) hk1 (fun a ha => absurd ha (by omega))
  · have q0 : ¬ mwA c S nv wk s (¬ (1 : Int32) = 0) = 0 := mw_neg.mp (Int32.not_le.mp c8)
    refine A_iload_n dX10_needed_11 rfl rfl ?_
    exact A_iret dX10_needed_12 ⟨by rw [neededA, if_neg q0], ⟨_, _, rfl, KM.rf⟩⟩ ⟨by decide, by decide⟩
