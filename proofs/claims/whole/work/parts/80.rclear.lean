/-! RINGS cleared, alike -/
def ix6 (s : Nat → Nat) (n a : Nat) : Nat := 6 * s a + s ((a + 1) % n)
def lsM (D : Nat → Int32) (s : Nat → Nat) (n : Nat) : Nat → Int32
  | 0 => D (6 * s 0 + s 1)
  | i + 1 => mn (lsM D s n i) (D (ix6 s n i))
theorem mn_or (x y : Int32) : mn x y = x ∨ mn x y = y := by unfold mn; split <;> simp
theorem lsM_b {D : Nat → Int32} {s : Nat → Nat} {n : Nat} (hn : 2 ≤ n) : ∀ i, i ≤ n → (∀ a, a < i → (lsM D s n i).toInt ≤ (D (ix6 s n a)).toInt) ∧ ∃ a, a < n ∧ lsM D s n i = D (ix6 s n a)
  | 0, _ => ⟨fun a h => absurd h (by omega), 0, by omega, by rw [lsM, ix6, Nat.zero_add, Nat.mod_eq_of_lt (by omega)]⟩
  | i + 1, h => by
    obtain ⟨h1, a, h2, h3⟩ := lsM_b (D := D) (s := s) hn i (by omega)
    rw [lsM]
    have q1 := mn_le1 (lsM D s n i) (D (ix6 s n i))
    have q2 := mn_le2 (lsM D s n i) (D (ix6 s n i))
    refine ⟨fun b hb => ?_, ?_⟩
    · by_cases e : b = i
      · subst e; exact q2
      · have := h1 b (by omega); omega
    · rcases mn_or (lsM D s n i) (D (ix6 s n i)) with e | e
      · exact ⟨a, h2, e.trans h3⟩
      · exact ⟨i, by omega, e⟩
theorem lsF_b {D : Nat → Int32} {g : Nat → Int32} {s : Nat → Nat} {n : Nat} (hn : 2 ≤ n) (hg : ∀ i, i < n → tcl (g i) = s i) : ∀ i, i < n → ((lsF D g n i).toInt ≤ (D (ix6 s n (n - 1))).toInt ∧ ∀ a, a < i → (lsF D g n i).toInt ≤ (D (ix6 s n a)).toInt) ∧ ∃ a, a < n ∧ lsF D g n i = D (ix6 s n a)
  | 0, _ => by
    have e : lsF D g n 0 = D (ix6 s n (n - 1)) := by rw [lsF, hg _ (by omega), hg 0 (by omega), ix6, show n - 1 + 1 = n by omega, Nat.mod_self, Nat.mul_comm]
    rw [e]
    exact ⟨⟨Int.le_refl _, fun a h => absurd h (by omega)⟩, n - 1, by omega, rfl⟩
  | i + 1, h => by
    obtain ⟨⟨h0, h1⟩, a, h2, h3⟩ := lsF_b (D := D) hn hg i (by omega)
    have e : D (tcl (g i) * 6 + tcl (g (i + 1))) = D (ix6 s n i) := by rw [hg i (by omega), hg (i + 1) h, ix6, Nat.mod_eq_of_lt h, Nat.mul_comm]
    rw [lsF, e]
    have q1 := mn_le1 (lsF D g n i) (D (ix6 s n i))
    have q2 := mn_le2 (lsF D g n i) (D (ix6 s n i))
    refine ⟨⟨by omega, fun b hb => ?_⟩, ?_⟩
    · by_cases e : b = i
      · subst e; exact q2
      · have := h1 b (by omega); omega
    · rcases mn_or (lsF D g n i) (D (ix6 s n i)) with e | e
      · exact ⟨a, h2, e.trans h3⟩
      · exact ⟨i, by omega, e⟩
theorem ls_e {D : Nat → Int32} {g : Nat → Int32} {s : Nat → Nat} {n : Nat} (hn : 2 ≤ n) (hg : ∀ i, i < n → tcl (g i) = s i) : lsF D g n (n - 1) = lsM D s n n := by
  obtain ⟨h1, a, ha, h2⟩ := lsM_b (D := D) (s := s) hn n (Nat.le_refl _)
  obtain ⟨⟨k0, k1⟩, b, hb, k2⟩ := lsF_b (D := D) hn hg (n - 1) (by omega)
  apply Int32.toInt_inj.mp
  have q1 := h1 b hb
  have q2 : (lsF D g n (n - 1)).toInt ≤ (D (ix6 s n a)).toInt := by
    by_cases e : a = n - 1
    · subst e; exact k0
    · exact k1 a (by omega)
  rw [k2] at q2 ⊢
  rw [h2] at q1 ⊢
  omega
def cdD (s : Nat → Nat) (x : Int32) (n a : Nat) (D : Nat → Int32) : Nat → Int32 := upd D (ix6 s n a) (D (ix6 s n a) - x)
theorem rd_D {g : Nat → Int32} {x : Int32} {n : Nat} {s : Nat → Nat} (hg : ∀ i, i < n → tcl (g i) = s i) : ∀ (k i : Nat) (c : CT), i + k = n → forR (rdS g x n) i k c 50 = forR (cdD s x n) i k (c 50)
  | 0, _, _, _ => rfl
  | k + 1, i, c, h => by
    show forR (rdS g x n) (i + 1) k (rdS g x n i c) 50 = forR (cdD s x n) (i + 1) k (cdD s x n i (c 50))
    have en : tcl (nxF g n i) = s ((i + 1) % n) := by
      rw [nxF]
      by_cases e : i + 1 < n
      · rw [if_pos e, hg _ e, Nat.mod_eq_of_lt e]
      · rw [if_neg e, hg 0 (by omega), show i + 1 = n by omega, Nat.mod_self]
    have e : rdS g x n i c 50 = cdD s x n i (c 50) := by
      rw [rdS, en, hg i (by omega), cdD, ix6, Nat.mul_comm (s i)]
      funext j
      by_cases z : j = 6 * s i + s ((i + 1) % n)
      · subst z; rw [put_at, pk_us]
      · rw [put_no z, pk_un z]
    rw [rd_D hg k (i + 1) _ (by omega), e]
theorem ix6_inj {s : Nat → Nat} {n a b : Nat} (hs : ∀ i, i < n → s i < 6) (hd : ∀ i j, i < j → j < n → s i ≠ s j) (ha : a < n) (hb : b < n) (h : ix6 s n a = ix6 s n b) : a = b := by
  have h1 := hs _ (Nat.mod_lt (a + 1) (show n > 0 by omega))
  have h2 := hs _ (Nat.mod_lt (b + 1) (show n > 0 by omega))
  unfold ix6 at h
  have e : s a = s b := by omega
  rcases Nat.lt_trichotomy a b with z | z | z
  · exact absurd e (hd a b z hb)
  · exact z
  · exact absurd e.symm (hd b a z ha)
theorem cdD_eff {s : Nat → Nat} {x : Int32} {n : Nat} {D : Nat → Int32} (hs : ∀ i, i < n → s i < 6) (hd : ∀ i j, i < j → j < n → s i ≠ s j) (j : Nat) : (∀ a, a < n → j = ix6 s n a → forR (cdD s x n) 0 n D j = D j - x) ∧ ((∀ a, a < n → j ≠ ix6 s n a) → forR (cdD s x n) 0 n D j = D j) := by
  have R := forR_inv (f := cdD s x n) (fun i E => (∀ a, a < i → j = ix6 s n a → E j = D j - x) ∧ ((∀ a, a < i → j ≠ ix6 s n a) → E j = D j)) n (fun i E hi h => by
    unfold cdD
    by_cases z : j = ix6 s n i
    · rw [z, pk_us, ← z]
      have : E j = D j := h.2 (fun a ha q => by have := ix6_inj hs hd (by omega) hi (q.symm.trans z); omega)
      rw [this]
      exact ⟨fun _ _ _ => rfl, fun q => absurd z (q i (by omega))⟩
    · rw [pk_un z]
      refine ⟨fun a ha q => h.1 a (by by_cases w : a = i; (subst w; exact absurd q z); omega) q, fun q => h.2 (fun a ha => q a (by omega))⟩) n 0 D (by omega) ⟨fun a h => absurd h (by omega), fun _ => rfl⟩
  rw [Nat.zero_add] at R
  exact R
def pcn (D : Nat → Int32) : Nat → Nat
  | 0 => 0
  | k + 1 => pcn D k + (if D k = 0 then 0 else 1)
theorem pcn_le {D E : Nat → Int32} (h : ∀ j, D j = 0 → E j = 0) : ∀ k, pcn E k ≤ pcn D k ∧ ((∃ j, j < k ∧ E j = 0 ∧ ¬ D j = 0) → pcn E k < pcn D k)
  | 0 => ⟨Nat.le_refl _, fun ⟨j, hj, _⟩ => absurd hj (by omega)⟩
  | k + 1 => by
    obtain ⟨h1, h2⟩ := pcn_le h k
    rw [pcn, pcn]
    by_cases e : D k = 0
    · rw [if_pos e, if_pos (h k e)]
      refine ⟨by omega, fun ⟨j, hj, a, b⟩ => ?_⟩
      have := h2 ⟨j, by by_cases z : j = k; (subst z; exact absurd e b); omega, a, b⟩
      omega
    · rw [if_neg e]
      by_cases e2 : E k = 0
      · rw [if_pos e2]; exact ⟨by omega, fun _ => by omega⟩
      · rw [if_neg e2]
        refine ⟨by omega, fun ⟨j, hj, a, b⟩ => ?_⟩
        have := h2 ⟨j, by by_cases z : j = k; (subst z; exact absurd a e2); omega, a, b⟩
        omega
theorem pcn_upd {D : Nat → Int32} {q : Nat} {x : Int32} : ∀ k, pcn (upd D q x) k ≤ pcn D k + (if q < k then 1 else 0)
  | 0 => by rw [pcn, pcn]; exact Nat.zero_le _
  | k + 1 => by
    have ih := pcn_upd (D := D) (q := q) (x := x) k
    rw [pcn, pcn]
    by_cases e : k = q
    · subst e
      rw [if_neg (show ¬ k < k by omega)] at ih
      rw [if_pos (show k < k + 1 by omega)]
      split <;> split <;> omega
    · rw [pk_un e]
      by_cases z : q < k
      · rw [if_pos z] at ih; rw [if_pos (show q < k + 1 by omega)]; split <;> omega
      · rw [if_neg z] at ih; rw [if_neg (show ¬ q < k + 1 by omega)]; split <;> omega
theorem pcn_0 : ∀ k, pcn (fun _ => 0) k = 0
  | 0 => rfl
  | k + 1 => by rw [pcn, pcn_0 k, if_pos rfl]
theorem pcn_ow {c : CT} : ∀ (k i : Nat) (D : Nat → Int32), pcn (forR (owS c) i k D) 36 ≤ pcn D 36 + k
  | 0, _, _ => Nat.le_refl _
  | k + 1, i, D => by
    have h := pcn_ow (c := c) k (i + 1) (owS c i D)
    have h2 : pcn (owS c i D) 36 ≤ pcn D 36 + 1 := Nat.le_trans (pcn_upd 36) (by split <;> omega)
    show pcn (forR (owS c) (i + 1) k (owS c i D)) 36 ≤ _
    omega
theorem pcn_row {nv nc nf nl wk : Nat} {c m : CT} (h : BL nv nc nf nl wk c m) : pcn (dRow c) 36 ≤ 8 := by
  have h8 := h.nb.2.2.2
  have e : tcl (yrF c 13 2) = nl := by rw [yrF_l (by decide)]; exact h.ix.nvf.2.2.2.1
  have := pcn_ow (c := yrF c) nl 0 (fun _ => 0)
  rw [pcn_0] at this
  rw [dRow, owF, e]; omega
/-- what a ring's clearing leaves: fewer DEBTS -/
theorem cd_ok {D : Nat → Int32} (hD : DOk D) {nv n : Nat} {s : Nat → Nat} (hv : nv ≤ 6) (hn : 2 ≤ n) (hV : VR D nv n s) : DOk (forR (cdD s (lsM D s n n) n) 0 n D) ∧ pcn (forR (cdD s (lsM D s n n) n) 0 n D) 36 < pcn D 36 := by
  obtain ⟨h1, a, ha, h2⟩ := lsM_b (D := D) (s := s) hn n (Nat.le_refl _)
  have hs : ∀ i, i < n → s i < 6 := fun i hi => by have := hV.1 i hi; omega
  have RVh := (RV_VR hD hn hV.1).mpr hV
  have hxa := hD (ix6 s n a)
  generalize hx : lsM D s n n = x at h1 h2
  have eff := fun j => cdD_eff (x := x) (D := D) hs hV.2.2.1 j
  have sub : ∀ b, b < n → (D (ix6 s n b) - x).toInt = (D (ix6 s n b)).toInt - x.toInt := fun b hb => by
    have := hD (ix6 s n b)
    rw [← h2] at hxa
    exact subT (by omega) (by omega)
  refine ⟨fun j => ?_, ?_⟩
  · by_cases z : ∃ b, b < n ∧ j = ix6 s n b
    · obtain ⟨b, hb, e⟩ := z
      rw [(eff j).1 b hb e, e, sub b hb]
      have := h1 b hb
      have := hD (ix6 s n b)
      rw [← h2] at hxa
      omega
    · rw [(eff j).2 (fun b hb q => z ⟨b, hb, q⟩)]; exact hD j
  · refine (pcn_le (fun j hj => ?_) 36).2 ⟨ix6 s n a, ?_, ?_, ?_⟩
    · by_cases z : ∃ b, b < n ∧ j = ix6 s n b
      · obtain ⟨b, hb, e⟩ := z
        have := (RVh b hb).2.2
        rw [e] at hj
        exact absurd hj this
      · rw [(eff j).2 (fun b hb q => z ⟨b, hb, q⟩)]; exact hj
    · have q1 := hs a ha
      have q2 := hs _ (Nat.mod_lt (a + 1) (show n > 0 by omega))
      unfold ix6; omega
    · rw [(eff _).1 a ha rfl, h2, Int32.sub_self]
    · exact (RVh a ha).2.2
theorem pcn_VR {D : Nat → Int32} (hD : DOk D) {nv n : Nat} {s : Nat → Nat} (hv : nv ≤ 6) (hn : 2 ≤ n) (hV : VR D nv n s) : 0 < pcn D 36 := by
  have := (cd_ok hD hv hn hV).2
  omega