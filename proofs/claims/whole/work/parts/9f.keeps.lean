/-! the draft of the class, what is fresh in the reference: alike -/
def RVi (c : CT) (v : Nat) : Prop := (0 ≤ (c 18 (5 * v + 0)).toInt ∧ (c 18 (5 * v + 0)).toInt ≤ 9999) ∧ (0 ≤ (c 18 (5 * v + 1)).toInt ∧ (c 18 (5 * v + 1)).toInt ≤ (c 18 (5 * v + 0)).toInt) ∧ (0 ≤ (c 18 (5 * v + 2)).toInt ∧ (c 18 (5 * v + 2)).toInt ≤ 99) ∧ (0 ≤ (c 18 (5 * v + 3)).toInt ∧ (c 18 (5 * v + 3)).toInt ≤ 99) ∧ (0 ≤ (c 18 (5 * v + 4)).toInt ∧ (c 18 (5 * v + 4)).toInt ≤ 9999)
def VD (nv : Nat) (c : CT) (g : Nat → Int32) : Prop := c 17 2 = nI nv ∧ nv ≤ 6 ∧ g 0 = nI nv ∧ (∀ v, v < nv → ∀ k, k < 5 → c 18 (5 * v + k) = g (8 + 5 * v + k)) ∧ (∀ v, nv ≤ v → v < 6 → g (8 + 5 * v + 4) = 0) ∧ ∀ v, v < nv → RVi c v
def RC (nv : Nat) (c : CT) (i : Nat) : Prop := vp_in (c 20 (5 * i + 0)) nv ∧ (1 ≤ (c 20 (5 * i + 1)).toInt ∧ (c 20 (5 * i + 1)).toInt ≤ 99) ∧ (0 ≤ (c 20 (5 * i + 2)).toInt ∧ (c 20 (5 * i + 2)).toInt ≤ 99)
def CD (nv nc : Nat) (c : CT) (g : Nat → Int32) : Prop := c 19 2 = nI nc ∧ nc ≤ 8 ∧ g 1 = nI nc ∧ (∀ i, i < nc → ∀ k, k < 5 → c 20 (5 * i + k) = g (38 + 5 * i + k)) ∧ ∀ i, i < nc → RC nv c i
def SD (c : CT) (g : Nat → Int32) : Prop := ∀ w, w < 30 → c 25 w = g (78 + w) ∧ 0 ≤ (c 25 w).toInt ∧ (c 25 w).toInt ≤ 99
def RF (c : CT) (g : Nat → Int32) (i : Nat) : Prop := c 22 (4 * i + 3) = -1 ∧ g (157 + i) = -1 ∧ (0 ≤ (c 22 (4 * i + 1)).toInt ∧ (c 22 (4 * i + 1)).toInt ≤ 9999) ∧ (0 ≤ (c 22 (4 * i + 2)).toInt ∧ (c 22 (4 * i + 2)).toInt ≤ 100)
def LD (nf : Nat) (c : CT) (g : Nat → Int32) : Prop := c 21 2 = nI nf ∧ nf ≤ 3 ∧ g 2 = nI nf ∧ (∀ i, i < nf → ∀ k, k < 3 → c 22 (4 * i + k) = g (108 + 3 * i + k)) ∧ ∀ i, i < nf → RF c g i
def RN (nv : Nat) (c : CT) (i : Nat) : Prop := vp_in (c 24 (5 * i + 0)) nv ∧ vp_in (c 24 (5 * i + 1)) nv ∧ c 24 (5 * i + 0) ≠ c 24 (5 * i + 1) ∧ (1 ≤ (c 24 (5 * i + 2)).toInt ∧ (c 24 (5 * i + 2)).toInt ≤ 9999) ∧ (c 24 (5 * i + 3)).toInt < (c 24 (5 * i + 4)).toInt
def ND (nv nl : Nat) (c : CT) (g : Nat → Int32) : Prop := c 23 2 = nI nl ∧ nl ≤ 8 ∧ g 3 = nI nl ∧ (∀ i, i < nl → ∀ k, k < 5 → c 24 (5 * i + k) = g (117 + 5 * i + k)) ∧ ∀ i, i < nl → RN nv c i
def HD (wk K : Nat) (c : CT) (g : Nat → Int32) : Prop := (c 16 5 = nI K ∧ g 4 = nI K ∧ K ≤ 1600 ∧ (0 < K ↔ 0 < wk)) ∧ (c 16 6 = nI wk ∧ g 5 = nI wk ∧ wk ≤ 30) ∧ c 16 7 = g 6 ∧ c 16 8 = g 7 ∧ 0 ≤ (c 16 7).toInt ∧ (c 16 7).toInt ≤ 100
def FD (nv nc nf nl wk K : Nat) (c : CT) (g : Nat → Int32) : Prop := HD wk K c g ∧ VD nv c g ∧ CD nv nc c g ∧ SD c g ∧ LD nf c g ∧ ND nv nl c g
theorem VD.to {nv : Nat} {c c' : CT} {g g' : Nat → Int32} (h : VD nv c g) (e1 : c' 17 = c 17) (e2 : c' 18 = c 18) (e3 : g' 0 = g 0) (e4 : ∀ j, 8 ≤ j → j < 38 → g' j = g j) : VD nv c' g' := by
  obtain ⟨a1, a2, a3, a4, a5, a6⟩ := h
  refine ⟨by rw [e1]; exact a1, a2, e3.trans a3, fun v hv k hk => ?_, fun v h1 h2 => ?_, fun v hv => ?_⟩
  · rw [e2, e4 _ (by omega) (by omega)]; exact a4 v hv k hk
  · rw [e4 _ (by omega) (by omega)]; exact a5 v h1 h2
  · unfold RVi; rw [e2]; exact a6 v hv
theorem CD.to {nv nv' nc : Nat} {c c' : CT} {g g' : Nat → Int32} (h : CD nv nc c g) (hn : nv ≤ nv') (e1 : c' 19 = c 19) (e2 : c' 20 = c 20) (e3 : g' 1 = g 1) (e4 : ∀ j, 38 ≤ j → j < 78 → g' j = g j) : CD nv' nc c' g' := by
  obtain ⟨a1, a2, a3, a4, a5⟩ := h
  refine ⟨by rw [e1]; exact a1, a2, e3.trans a3, fun v hv k hk => ?_, fun v hv => ?_⟩
  · rw [e2, e4 _ (by omega) (by omega)]; exact a4 v hv k hk
  · have := a5 v hv
    unfold RC at this ⊢; rw [e2]
    refine ⟨?_, this.2⟩
    have := vp_in_iff.mp this.1
    exact vp_in_iff.mpr ⟨this.1, by omega⟩
theorem SD.to {c c' : CT} {g g' : Nat → Int32} (h : SD c g) (e2 : c' 25 = c 25) (e4 : ∀ j, 78 ≤ j → j < 108 → g' j = g j) : SD c' g' := by
  intro w hw
  rw [e2, e4 _ (by omega) (by omega)]; exact h w hw
theorem LD.to {nf : Nat} {c c' : CT} {g g' : Nat → Int32} (h : LD nf c g) (e1 : c' 21 = c 21) (e2 : c' 22 = c 22) (e3 : g' 2 = g 2) (e4 : ∀ j, 108 ≤ j → j < 117 → g' j = g j) (e5 : ∀ j, 157 ≤ j → j < 160 → g' j = g j) : LD nf c' g' := by
  obtain ⟨a1, a2, a3, a4, a5⟩ := h
  refine ⟨by rw [e1]; exact a1, a2, e3.trans a3, fun v hv k hk => ?_, fun v hv => ?_⟩
  · rw [e2, e4 _ (by omega) (by omega)]; exact a4 v hv k hk
  · have := a5 v hv
    unfold RF at this ⊢; rw [e2, e5 _ (by omega) (by omega)]; exact this
theorem ND.to {nv nv' nl : Nat} {c c' : CT} {g g' : Nat → Int32} (h : ND nv nl c g) (hn : nv ≤ nv') (e1 : c' 23 = c 23) (e2 : c' 24 = c 24) (e3 : g' 3 = g 3) (e4 : ∀ j, 117 ≤ j → j < 157 → g' j = g j) : ND nv' nl c' g' := by
  obtain ⟨a1, a2, a3, a4, a5⟩ := h
  refine ⟨by rw [e1]; exact a1, a2, e3.trans a3, fun v hv k hk => ?_, fun v hv => ?_⟩
  · rw [e2, e4 _ (by omega) (by omega)]; exact a4 v hv k hk
  · have := a5 v hv
    unfold RN at this ⊢; rw [e2]
    have h1 := vp_in_iff.mp this.1
    have h2 := vp_in_iff.mp this.2.1
    exact ⟨vp_in_iff.mpr ⟨h1.1, by omega⟩, vp_in_iff.mpr ⟨h2.1, by omega⟩, this.2.2⟩
theorem HD.to {wk K : Nat} {c c' : CT} {g g' : Nat → Int32} (h : HD wk K c g) (e1 : c' 16 = c 16) (e4 : ∀ j, 4 ≤ j → j < 8 → g' j = g j) : HD wk K c' g' := by
  unfold HD at *
  rw [e1, e4 4 (by decide) (by decide), e4 5 (by decide) (by decide), e4 6 (by decide) (by decide), e4 7 (by decide) (by decide)]
  exact h
theorem FD.to {nv nc nf nl wk K : Nat} {c c' : CT} {g : Nat → Int32} (h : FD nv nc nf nl wk K c g) (e : ∀ l, 16 ≤ l → c' l = c l) : FD nv nc nf nl wk K c' g := by
  obtain ⟨a, b, d, s, l, n⟩ := h
  exact ⟨a.to (e 16 (by decide)) (fun _ _ _ => rfl), b.to (e 17 (by decide)) (e 18 (by decide)) rfl (fun _ _ _ => rfl), d.to (Nat.le_refl _) (e 19 (by decide)) (e 20 (by decide)) rfl (fun _ _ _ => rfl), s.to (e 25 (by decide)) (fun _ _ _ => rfl), l.to (e 21 (by decide)) (e 22 (by decide)) rfl (fun _ _ _ => rfl) (fun _ _ _ => rfl), n.to (Nat.le_refl _) (e 23 (by decide)) (e 24 (by decide)) rfl (fun _ _ _ => rfl)⟩
theorem kp0_l {z : CT} {l : Nat} (h : l ≠ 16) : kp0 z l = z l := by rw [kp0, put_ne h]
theorem kp0_n {z : CT} {j : Nat} (h : j ≠ 5) : kp0 z 16 j = z 16 j := by rw [kp0, put_no h]
theorem kp0_5 {z : CT} : kp0 z 16 5 = z 16 5 + 1 := by rw [kp0, put_at]
theorem HD.ln {wk K : Nat} {z c' : CT} {g g' : Nat → Int32} (h : HD wk K z g) (h0 : 0 < K) (hK : K < 1600) (e1 : c' 16 = kp0 z 16) (e4 : ∀ j, 5 ≤ j → j < 8 → g' j = g j) (e5 : g' 4 = g 4 + 1) : HD wk (K + 1) c' g' := by
  obtain ⟨⟨a1, a2, a3, a4⟩, ⟨b1, b2, b3⟩, c1, c2, c3⟩ := h
  unfold HD
  rw [e1, kp0_5, kp0_n (by decide), kp0_n (by decide), kp0_n (by decide), e5, a1, a2, nI_1, e4 5 (by decide) (by decide), e4 6 (by decide) (by decide), e4 7 (by decide) (by decide)]
  exact ⟨⟨rfl, rfl, by omega, by omega⟩, ⟨b1, b2, b3⟩, c1, c2, c3⟩
theorem ad_4 {L W N i : Nat} {y : CT} (h : 4 < L) : adS L W N i y 4 = y 4 := by rw [adS, put_ne (by omega)]
theorem ad_r {L W N i : Nat} {y : CT} : adS L W N i y (L + 1) = upd (y (L + 1)) (W * N + i) (y 4 i) := by rw [adS, put_s]
theorem add5 {L N : Nat} {c : CT} (h : 4 < L) : addF L 5 N c (L + 1) = upd (upd (upd (upd (upd (c (L + 1)) (5 * N + 0) (c 4 0)) (5 * N + 1) (c 4 1)) (5 * N + 2) (c 4 2)) (5 * N + 3) (c 4 3)) (5 * N + 4) (c 4 4) := by
  show adS L 5 N 4 (adS L 5 N 3 (adS L 5 N 2 (adS L 5 N 1 (adS L 5 N 0 (put c L 2 (c L 2 + 1)))))) (L + 1) = _
  simp only [ad_r, ad_4 h]
  rw [put_ne (by omega), put_ne (by omega)]
theorem add4 {L N : Nat} {c : CT} (h : 4 < L) : addF L 4 N c (L + 1) = upd (upd (upd (upd (c (L + 1)) (4 * N + 0) (c 4 0)) (4 * N + 1) (c 4 1)) (4 * N + 2) (c 4 2)) (4 * N + 3) (c 4 3) := by
  show adS L 4 N 3 (adS L 4 N 2 (adS L 4 N 1 (adS L 4 N 0 (put c L 2 (c L 2 + 1))))) (L + 1) = _
  simp only [ad_r, ad_4 h]
  rw [put_ne (by omega), put_ne (by omega)]
theorem nI_nat {v : Int32} (h : 0 ≤ v.toInt) : v = nI v.toInt.toNat := by
  have := Int32.toInt_lt v
  refine Int32.toInt_inj.mp ?_
  rw [nI_toInt (by omega)]
  omega
theorem nv_m1 {n : Nat} (h : n < 2 ^ 31) : (nI n - 1).toInt = (n : Int) - 1 := nI_m1_toInt h
theorem kp_1 {nv nc nf nl wk K : Nat} {z : CT} {g g8 : Nat → Int32} {v0 v1 v2 v3 : Int32} (h : FD nv nc nf nl wk K z g) (h0 : 0 < K) (hK : K < 1600) (hn : nv < 6) (e9 : g8 = upd (upd (upd (upd (upd g (8 + 5 * nv + 0) v0) (8 + 5 * nv + 1) v1) (8 + 5 * nv + 2) v2) (8 + 5 * nv + 3) v3) 0 ((upd (upd (upd (upd g (8 + 5 * nv + 0) v0) (8 + 5 * nv + 1) v1) (8 + 5 * nv + 2) v2) (8 + 5 * nv + 3) v3) 0 + 1)) (hz : z 4 0 = v0 ∧ z 4 1 = v1 ∧ z 4 2 = v2 ∧ z 4 3 = v3) (r0 : 0 ≤ v0.toInt ∧ v0.toInt ≤ 9999) (r1 : 0 ≤ v1.toInt ∧ v1.toInt ≤ v0.toInt) (r2 : 0 ≤ v2.toInt ∧ v2.toInt ≤ 99) (r3 : 0 ≤ v3.toInt ∧ v3.toInt ≤ 99) : FD (nv + 1) nc nf nl wk (K + 1) (keepF nv nc nf nl (nI 1) z) (upd g8 4 (g8 4 + 1)) := by
  have ek : keepF nv nc nf nl (nI 1) z = put (addF 17 5 nv (kp0 z)) 18 (5 * nv + 4) 0 := by rw [keepF, if_neg (by decide : ¬ nI 1 = 0), if_pos (by decide : nI 1 = 1)]
  rw [ek]
  obtain ⟨hH, hV, hC, hS, hL, hN⟩ := h
  obtain ⟨a1, a2, a3, a4, a5, a6⟩ := id hV
  obtain ⟨z0, z1, z2, z3⟩ := hz
  obtain ⟨c', ec⟩ : ∃ c', put (addF 17 5 nv (kp0 z)) 18 (5 * nv + 4) 0 = c' := ⟨_, rfl⟩
  have cl : ∀ l, l ≠ 17 → l ≠ 18 → c' l = kp0 z l := fun l x y => by rw [← ec, put_ne y, addF_l y x]
  have c17 : c' 17 2 = nI (nv + 1) := by rw [← ec, put_ne (by decide), addF_n (by rw [kp0_l (by decide)]; exact a1)]
  have c18 : c' 18 = upd (upd (upd (upd (upd (upd (z 18) (5 * nv + 0) v0) (5 * nv + 1) v1) (5 * nv + 2) v2) (5 * nv + 3) v3) (5 * nv + 4) (z 4 4)) (5 * nv + 4) 0 := by rw [← ec, put_s, show (18 : Nat) = 17 + 1 from rfl, add5 (by decide), kp0_l (by decide), kp0_l (by decide), z0, z1, z2, z3]
  rw [ec]
  have g4 : g8 4 = g 4 := by rw [e9, pk_un (by omega), pk_un (by omega), pk_un (by omega), pk_un (by omega), pk_un (by omega)]
  obtain ⟨g', eg⟩ : ∃ g', upd g8 4 (g8 4 + 1) = g' := ⟨_, rfl⟩
  rw [eg]
  have gl : ∀ j, j ≠ 4 → j ≠ 0 → (j < 8 + 5 * nv ∨ 8 + 5 * nv + 4 ≤ j) → g' j = g j := fun j x y w => by rw [← eg, pk_un x, e9, pk_un y, pk_un (by omega), pk_un (by omega), pk_un (by omega), pk_un (by omega)]
  have gK : g' 4 = g 4 + 1 := by rw [← eg, pk_us, g4]
  have g0 : g' 0 = nI (nv + 1) := by rw [← eg, pk_un (by decide), e9, pk_us, pk_un (by omega), pk_un (by omega), pk_un (by omega), pk_un (by omega), a3, nI_1]
  have cn : ∀ k, k < 5 → c' 18 (5 * nv + k) = if k = 0 then v0 else if k = 1 then v1 else if k = 2 then v2 else if k = 3 then v3 else 0 := fun k hk => by
    rw [c18]
    have : k = 0 ∨ k = 1 ∨ k = 2 ∨ k = 3 ∨ k = 4 := by omega
    rcases this with e | e | e | e | e
    · subst e; rw [pk_un (by omega), pk_un (by omega), pk_un (by omega), pk_un (by omega), pk_un (by omega), pk_us, if_pos rfl]
    · subst e; rw [pk_un (by omega), pk_un (by omega), pk_un (by omega), pk_un (by omega), pk_us, if_neg (by decide), if_pos rfl]
    · subst e; rw [pk_un (by omega), pk_un (by omega), pk_un (by omega), pk_us, if_neg (by decide), if_neg (by decide), if_pos rfl]
    · subst e; rw [pk_un (by omega), pk_un (by omega), pk_us, if_neg (by decide), if_neg (by decide), if_neg (by decide), if_pos rfl]
    · subst e; rw [pk_us, if_neg (by decide), if_neg (by decide), if_neg (by decide), if_neg (by decide)]
  have co : ∀ v, v < nv → ∀ k, k < 5 → c' 18 (5 * v + k) = z 18 (5 * v + k) := fun v hv k hk => by rw [c18, pk_un (by omega), pk_un (by omega), pk_un (by omega), pk_un (by omega), pk_un (by omega), pk_un (by omega)]
  refine ⟨hH.ln h0 hK (cl 16 (by decide) (by decide)) (fun j x y => gl j (by omega) (by omega) (by omega)) gK, ⟨c17, by omega, g0, fun v hv k hk => ?_, fun v x y => ?_, fun v hv => ?_⟩, hC.to (by omega) ((cl 19 (by decide) (by decide)).trans (kp0_l (by decide))) ((cl 20 (by decide) (by decide)).trans (kp0_l (by decide))) (gl 1 (by decide) (by decide) (by omega)) (fun j x y => gl j (by omega) (by omega) (by omega)), hS.to ((cl 25 (by decide) (by decide)).trans (kp0_l (by decide))) (fun j x y => gl j (by omega) (by omega) (by omega)), hL.to ((cl 21 (by decide) (by decide)).trans (kp0_l (by decide))) ((cl 22 (by decide) (by decide)).trans (kp0_l (by decide))) (gl 2 (by decide) (by decide) (by omega)) (fun j x y => gl j (by omega) (by omega) (by omega)) (fun j x y => gl j (by omega) (by omega) (by omega)), hN.to (by omega) ((cl 23 (by decide) (by decide)).trans (kp0_l (by decide))) ((cl 24 (by decide) (by decide)).trans (kp0_l (by decide))) (gl 3 (by decide) (by decide) (by omega)) (fun j x y => gl j (by omega) (by omega) (by omega))⟩
  · by_cases e : v = nv
    · subst e
      rw [cn k hk]
      have : k = 0 ∨ k = 1 ∨ k = 2 ∨ k = 3 ∨ k = 4 := by omega
      rcases this with e | e | e | e | e
      · subst e; rw [if_pos rfl, ← eg, pk_un (by omega), e9, pk_un (by omega), pk_un (by omega), pk_un (by omega), pk_un (by omega), pk_us]
      · subst e; rw [if_neg (by decide), if_pos rfl, ← eg, pk_un (by omega), e9, pk_un (by omega), pk_un (by omega), pk_un (by omega), pk_us]
      · subst e; rw [if_neg (by decide), if_neg (by decide), if_pos rfl, ← eg, pk_un (by omega), e9, pk_un (by omega), pk_un (by omega), pk_us]
      · subst e; rw [if_neg (by decide), if_neg (by decide), if_neg (by decide), if_pos rfl, ← eg, pk_un (by omega), e9, pk_un (by omega), pk_us]
      · subst e; rw [if_neg (by decide), if_neg (by decide), if_neg (by decide), if_neg (by decide), gl _ (by omega) (by omega) (by omega)]; exact (a5 v (Nat.le_refl _) hn).symm
    · rw [co v (by omega) k hk, gl _ (by omega) (by omega) (by omega)]; exact a4 v (by omega) k hk
  · rw [gl _ (by omega) (by omega) (by omega)]; exact a5 v (by omega) y
  · by_cases e : v = nv
    · subst e
      unfold RVi
      rw [cn 0 (by decide), cn 1 (by decide), cn 2 (by decide), cn 3 (by decide), cn 4 (by decide)]
      exact ⟨r0, r1, r2, r3, (by decide : 0 ≤ (0 : Int32).toInt), (by decide : (0 : Int32).toInt ≤ 9999)⟩
    · have := a6 v (by omega)
      unfold RVi at this ⊢
      rw [co v (by omega) 0 (by decide), co v (by omega) 1 (by decide), co v (by omega) 2 (by decide), co v (by omega) 3 (by decide), co v (by omega) 4 (by decide)]
      exact this
theorem kp_2 {nv nc nf nl wk K : Nat} {z : CT} {g g8 : Nat → Int32} {v0 v1 v2 v3 v4 : Int32} (h : FD nv nc nf nl wk K z g) (h0 : 0 < K) (hK : K < 1600) (hn : nc < 8) (e9 : g8 = upd (upd (upd (upd (upd (upd g (38 + 5 * nc + 0) v0) (38 + 5 * nc + 1) v1) (38 + 5 * nc + 2) v2) (38 + 5 * nc + 3) v3) (38 + 5 * nc + 4) v4) 1 ((upd (upd (upd (upd (upd g (38 + 5 * nc + 0) v0) (38 + 5 * nc + 1) v1) (38 + 5 * nc + 2) v2) (38 + 5 * nc + 3) v3) (38 + 5 * nc + 4) v4) 1 + 1)) (hz : z 4 0 = v0 ∧ z 4 1 = v1 ∧ z 4 2 = v2 ∧ z 4 3 = v3 ∧ z 4 4 = v4) (r0 : 0 ≤ v0.toInt ∧ v0.toInt ≤ (g 0 - 1).toInt) (r1 : 1 ≤ v1.toInt ∧ v1.toInt ≤ 99) (r2 : 0 ≤ v2.toInt ∧ v2.toInt ≤ 99) : FD nv (nc + 1) nf nl wk (K + 1) (keepF nv nc nf nl (nI 2) z) (upd g8 4 (g8 4 + 1)) := by
  have ek : keepF nv nc nf nl (nI 2) z = addF 19 5 nc (kp0 z) := by rw [keepF, if_neg (by decide : ¬ nI 2 = 0), if_neg (by decide : ¬ nI 2 = 1), if_pos (by decide : nI 2 = 2)]
  rw [ek]
  obtain ⟨hH, hV, hC, hS, hL, hN⟩ := h
  obtain ⟨a1, a2, a3, a4, a5⟩ := id hC
  obtain ⟨z0, z1, z2, z3, z4⟩ := hz
  obtain ⟨c', ec⟩ : ∃ c', addF 19 5 nc (kp0 z) = c' := ⟨_, rfl⟩
  have cl : ∀ l, l ≠ 19 → l ≠ 20 → c' l = kp0 z l := fun l x y => by rw [← ec, addF_l y x]
  have c17 : c' 19 2 = nI (nc + 1) := by rw [← ec, addF_n (by rw [kp0_l (by decide)]; exact a1)]
  have c18 : c' 20 = upd (upd (upd (upd (upd (z 20) (5 * nc + 0) v0) (5 * nc + 1) v1) (5 * nc + 2) v2) (5 * nc + 3) v3) (5 * nc + 4) v4 := by rw [← ec, show (20 : Nat) = 19 + 1 from rfl, add5 (by decide), kp0_l (by decide), kp0_l (by decide), z0, z1, z2, z3, z4]
  rw [ec]
  have g4 : g8 4 = g 4 := by rw [e9, pk_un (by omega), pk_un (by omega), pk_un (by omega), pk_un (by omega), pk_un (by omega), pk_un (by omega)]
  obtain ⟨g', eg⟩ : ∃ g', upd g8 4 (g8 4 + 1) = g' := ⟨_, rfl⟩
  rw [eg]
  have gl : ∀ j, j ≠ 4 → j ≠ 1 → (j < 38 + 5 * nc ∨ 38 + 5 * nc + 5 ≤ j) → g' j = g j := fun j x y w => by rw [← eg, pk_un x, e9, pk_un y, pk_un (by omega), pk_un (by omega), pk_un (by omega), pk_un (by omega), pk_un (by omega)]
  have gK : g' 4 = g 4 + 1 := by rw [← eg, pk_us, g4]
  have g0 : g' 1 = nI (nc + 1) := by rw [← eg, pk_un (by decide), e9, pk_us, pk_un (by omega), pk_un (by omega), pk_un (by omega), pk_un (by omega), pk_un (by omega), a3, nI_1]
  have cn : ∀ k, k < 5 → c' 20 (5 * nc + k) = if k = 0 then v0 else if k = 1 then v1 else if k = 2 then v2 else if k = 3 then v3 else v4 := fun k hk => by
    rw [c18]
    have : k = 0 ∨ k = 1 ∨ k = 2 ∨ k = 3 ∨ k = 4 := by omega
    rcases this with e | e | e | e | e
    · subst e; rw [pk_un (by omega), pk_un (by omega), pk_un (by omega), pk_un (by omega), pk_us, if_pos rfl]
    · subst e; rw [pk_un (by omega), pk_un (by omega), pk_un (by omega), pk_us, if_neg (by decide), if_pos rfl]
    · subst e; rw [pk_un (by omega), pk_un (by omega), pk_us, if_neg (by decide), if_neg (by decide), if_pos rfl]
    · subst e; rw [pk_un (by omega), pk_us, if_neg (by decide), if_neg (by decide), if_neg (by decide), if_pos rfl]
    · subst e; rw [pk_us, if_neg (by decide), if_neg (by decide), if_neg (by decide), if_neg (by decide)]
  have co : ∀ v, v < nc → ∀ k, k < 5 → c' 20 (5 * v + k) = z 20 (5 * v + k) := fun v hv k hk => by rw [c18, pk_un (by omega), pk_un (by omega), pk_un (by omega), pk_un (by omega), pk_un (by omega)]
  have i0 : vp_in v0 nv := vp_in_iff.mpr ⟨r0.1, by have := r0.2; rw [hV.2.2.1, nv_m1 (by have := hV.2.1; omega)] at this; omega⟩
  refine ⟨hH.ln h0 hK (cl 16 (by decide) (by decide)) (fun j x y => gl j (by omega) (by omega) (by omega)) gK, hV.to ((cl 17 (by decide) (by decide)).trans (kp0_l (by decide))) ((cl 18 (by decide) (by decide)).trans (kp0_l (by decide))) (gl 0 (by decide) (by decide) (by omega)) (fun j x y => gl j (by omega) (by omega) (by omega)), ⟨c17, by omega, g0, fun v hv k hk => ?_, fun v hv => ?_⟩, hS.to ((cl 25 (by decide) (by decide)).trans (kp0_l (by decide))) (fun j x y => gl j (by omega) (by omega) (by omega)), hL.to ((cl 21 (by decide) (by decide)).trans (kp0_l (by decide))) ((cl 22 (by decide) (by decide)).trans (kp0_l (by decide))) (gl 2 (by decide) (by decide) (by omega)) (fun j x y => gl j (by omega) (by omega) (by omega)) (fun j x y => gl j (by omega) (by omega) (by omega)), hN.to (Nat.le_refl _) ((cl 23 (by decide) (by decide)).trans (kp0_l (by decide))) ((cl 24 (by decide) (by decide)).trans (kp0_l (by decide))) (gl 3 (by decide) (by decide) (by omega)) (fun j x y => gl j (by omega) (by omega) (by omega))⟩
  · by_cases e : v = nc
    · subst e
      rw [cn k hk]
      have : k = 0 ∨ k = 1 ∨ k = 2 ∨ k = 3 ∨ k = 4 := by omega
      rcases this with e | e | e | e | e
      · subst e; rw [if_pos rfl, ← eg, pk_un (by omega), e9, pk_un (by omega), pk_un (by omega), pk_un (by omega), pk_un (by omega), pk_un (by omega), pk_us]
      · subst e; rw [if_neg (by decide), if_pos rfl, ← eg, pk_un (by omega), e9, pk_un (by omega), pk_un (by omega), pk_un (by omega), pk_un (by omega), pk_us]
      · subst e; rw [if_neg (by decide), if_neg (by decide), if_pos rfl, ← eg, pk_un (by omega), e9, pk_un (by omega), pk_un (by omega), pk_un (by omega), pk_us]
      · subst e; rw [if_neg (by decide), if_neg (by decide), if_neg (by decide), if_pos rfl, ← eg, pk_un (by omega), e9, pk_un (by omega), pk_un (by omega), pk_us]
      · subst e; rw [if_neg (by decide), if_neg (by decide), if_neg (by decide), if_neg (by decide), ← eg, pk_un (by omega), e9, pk_un (by omega), pk_us]
    · rw [co v (by omega) k hk, gl _ (by omega) (by omega) (by omega)]; exact a4 v (by omega) k hk
  · by_cases e : v = nc
    · subst e
      unfold RC
      rw [cn 0 (by decide), cn 1 (by decide), cn 2 (by decide)]
      exact ⟨i0, r1, r2⟩
    · have := a5 v (by omega)
      unfold RC at this ⊢
      rw [co v (by omega) 0 (by decide), co v (by omega) 1 (by decide), co v (by omega) 2 (by decide)]
      exact this
theorem kp_5 {nv nc nf nl wk K : Nat} {z : CT} {g g8 : Nat → Int32} {v0 v1 v2 v3 v4 : Int32} (h : FD nv nc nf nl wk K z g) (h0 : 0 < K) (hK : K < 1600) (hn : nl < 8) (e9 : g8 = upd (upd (upd (upd (upd (upd g (117 + 5 * nl + 0) v0) (117 + 5 * nl + 1) v1) (117 + 5 * nl + 2) v2) (117 + 5 * nl + 3) v3) (117 + 5 * nl + 4) v4) 3 ((upd (upd (upd (upd (upd g (117 + 5 * nl + 0) v0) (117 + 5 * nl + 1) v1) (117 + 5 * nl + 2) v2) (117 + 5 * nl + 3) v3) (117 + 5 * nl + 4) v4) 3 + 1)) (hz : z 4 0 = v0 ∧ z 4 1 = v1 ∧ z 4 2 = v2 ∧ z 4 3 = v3 ∧ z 4 4 = v4) (hne : v1 ≠ v0) (r0 : 0 ≤ v0.toInt ∧ v0.toInt ≤ (g 0 - 1).toInt) (r1 : 0 ≤ v1.toInt ∧ v1.toInt ≤ (g 0 - 1).toInt) (r2 : 1 ≤ v2.toInt ∧ v2.toInt ≤ 9999) (r3 : v3.toInt + 1 ≤ v4.toInt) : FD nv nc nf (nl + 1) wk (K + 1) (keepF nv nc nf nl (nI 5) z) (upd g8 4 (g8 4 + 1)) := by
  have ek : keepF nv nc nf nl (nI 5) z = addF 23 5 nl (kp0 z) := by rw [keepF, if_neg (by decide : ¬ nI 5 = 0), if_neg (by decide : ¬ nI 5 = 1), if_neg (by decide : ¬ nI 5 = 2), if_neg (by decide : ¬ nI 5 = 3), if_neg (by decide : ¬ nI 5 = 4), if_pos (by decide : nI 5 = 5)]
  rw [ek]
  obtain ⟨hH, hV, hC, hS, hL, hN⟩ := h
  obtain ⟨a1, a2, a3, a4, a5⟩ := id hN
  obtain ⟨z0, z1, z2, z3, z4⟩ := hz
  obtain ⟨c', ec⟩ : ∃ c', addF 23 5 nl (kp0 z) = c' := ⟨_, rfl⟩
  have cl : ∀ l, l ≠ 23 → l ≠ 24 → c' l = kp0 z l := fun l x y => by rw [← ec, addF_l y x]
  have c17 : c' 23 2 = nI (nl + 1) := by rw [← ec, addF_n (by rw [kp0_l (by decide)]; exact a1)]
  have c18 : c' 24 = upd (upd (upd (upd (upd (z 24) (5 * nl + 0) v0) (5 * nl + 1) v1) (5 * nl + 2) v2) (5 * nl + 3) v3) (5 * nl + 4) v4 := by rw [← ec, show (24 : Nat) = 23 + 1 from rfl, add5 (by decide), kp0_l (by decide), kp0_l (by decide), z0, z1, z2, z3, z4]
  rw [ec]
  have g4 : g8 4 = g 4 := by rw [e9, pk_un (by omega), pk_un (by omega), pk_un (by omega), pk_un (by omega), pk_un (by omega), pk_un (by omega)]
  obtain ⟨g', eg⟩ : ∃ g', upd g8 4 (g8 4 + 1) = g' := ⟨_, rfl⟩
  rw [eg]
  have gl : ∀ j, j ≠ 4 → j ≠ 3 → (j < 117 + 5 * nl ∨ 117 + 5 * nl + 5 ≤ j) → g' j = g j := fun j x y w => by rw [← eg, pk_un x, e9, pk_un y, pk_un (by omega), pk_un (by omega), pk_un (by omega), pk_un (by omega), pk_un (by omega)]
  have gK : g' 4 = g 4 + 1 := by rw [← eg, pk_us, g4]
  have g0 : g' 3 = nI (nl + 1) := by rw [← eg, pk_un (by decide), e9, pk_us, pk_un (by omega), pk_un (by omega), pk_un (by omega), pk_un (by omega), pk_un (by omega), a3, nI_1]
  have cn : ∀ k, k < 5 → c' 24 (5 * nl + k) = if k = 0 then v0 else if k = 1 then v1 else if k = 2 then v2 else if k = 3 then v3 else v4 := fun k hk => by
    rw [c18]
    have : k = 0 ∨ k = 1 ∨ k = 2 ∨ k = 3 ∨ k = 4 := by omega
    rcases this with e | e | e | e | e
    · subst e; rw [pk_un (by omega), pk_un (by omega), pk_un (by omega), pk_un (by omega), pk_us, if_pos rfl]
    · subst e; rw [pk_un (by omega), pk_un (by omega), pk_un (by omega), pk_us, if_neg (by decide), if_pos rfl]
    · subst e; rw [pk_un (by omega), pk_un (by omega), pk_us, if_neg (by decide), if_neg (by decide), if_pos rfl]
    · subst e; rw [pk_un (by omega), pk_us, if_neg (by decide), if_neg (by decide), if_neg (by decide), if_pos rfl]
    · subst e; rw [pk_us, if_neg (by decide), if_neg (by decide), if_neg (by decide), if_neg (by decide)]
  have co : ∀ v, v < nl → ∀ k, k < 5 → c' 24 (5 * v + k) = z 24 (5 * v + k) := fun v hv k hk => by rw [c18, pk_un (by omega), pk_un (by omega), pk_un (by omega), pk_un (by omega), pk_un (by omega)]
  have i0 : vp_in v0 nv := vp_in_iff.mpr ⟨r0.1, by have := r0.2; rw [hV.2.2.1, nv_m1 (by have := hV.2.1; omega)] at this; omega⟩
  have i1 : vp_in v1 nv := vp_in_iff.mpr ⟨r1.1, by have := r1.2; rw [hV.2.2.1, nv_m1 (by have := hV.2.1; omega)] at this; omega⟩
  refine ⟨hH.ln h0 hK (cl 16 (by decide) (by decide)) (fun j x y => gl j (by omega) (by omega) (by omega)) gK, hV.to ((cl 17 (by decide) (by decide)).trans (kp0_l (by decide))) ((cl 18 (by decide) (by decide)).trans (kp0_l (by decide))) (gl 0 (by decide) (by decide) (by omega)) (fun j x y => gl j (by omega) (by omega) (by omega)), hC.to (Nat.le_refl _) ((cl 19 (by decide) (by decide)).trans (kp0_l (by decide))) ((cl 20 (by decide) (by decide)).trans (kp0_l (by decide))) (gl 1 (by decide) (by decide) (by omega)) (fun j x y => gl j (by omega) (by omega) (by omega)), hS.to ((cl 25 (by decide) (by decide)).trans (kp0_l (by decide))) (fun j x y => gl j (by omega) (by omega) (by omega)), hL.to ((cl 21 (by decide) (by decide)).trans (kp0_l (by decide))) ((cl 22 (by decide) (by decide)).trans (kp0_l (by decide))) (gl 2 (by decide) (by decide) (by omega)) (fun j x y => gl j (by omega) (by omega) (by omega)) (fun j x y => gl j (by omega) (by omega) (by omega)), ⟨c17, by omega, g0, fun v hv k hk => ?_, fun v hv => ?_⟩⟩
  · by_cases e : v = nl
    · subst e
      rw [cn k hk]
      have : k = 0 ∨ k = 1 ∨ k = 2 ∨ k = 3 ∨ k = 4 := by omega
      rcases this with e | e | e | e | e
      · subst e; rw [if_pos rfl, ← eg, pk_un (by omega), e9, pk_un (by omega), pk_un (by omega), pk_un (by omega), pk_un (by omega), pk_un (by omega), pk_us]
      · subst e; rw [if_neg (by decide), if_pos rfl, ← eg, pk_un (by omega), e9, pk_un (by omega), pk_un (by omega), pk_un (by omega), pk_un (by omega), pk_us]
      · subst e; rw [if_neg (by decide), if_neg (by decide), if_pos rfl, ← eg, pk_un (by omega), e9, pk_un (by omega), pk_un (by omega), pk_un (by omega), pk_us]
      · subst e; rw [if_neg (by decide), if_neg (by decide), if_neg (by decide), if_pos rfl, ← eg, pk_un (by omega), e9, pk_un (by omega), pk_un (by omega), pk_us]
      · subst e; rw [if_neg (by decide), if_neg (by decide), if_neg (by decide), if_neg (by decide), ← eg, pk_un (by omega), e9, pk_un (by omega), pk_us]
    · rw [co v (by omega) k hk, gl _ (by omega) (by omega) (by omega)]; exact a4 v (by omega) k hk
  · by_cases e : v = nl
    · subst e
      unfold RN
      rw [cn 0 (by decide), cn 1 (by decide), cn 2 (by decide), cn 3 (by decide), cn 4 (by decide)]
      exact ⟨i0, i1, fun w => hne w.symm, r2, (by omega : v3.toInt < v4.toInt)⟩
    · have := a5 v (by omega)
      unfold RN at this ⊢
      rw [co v (by omega) 0 (by decide), co v (by omega) 1 (by decide), co v (by omega) 2 (by decide), co v (by omega) 3 (by decide), co v (by omega) 4 (by decide)]
      exact this
theorem kp_0 {nv nc nf nl wk : Nat} {z : CT} {g g8 : Nat → Int32} {v0 v1 v2 : Int32} (h : FD nv nc nf nl wk 0 z g) (e9 : g8 = upd (upd (upd g 5 v0) 6 v1) 7 v2) (hz : z 4 0 = v0 ∧ z 4 1 = v1 ∧ z 4 2 = v2) (r0 : 4 ≤ v0.toInt ∧ v0.toInt ≤ 30) (r1 : 0 ≤ v1.toInt ∧ v1.toInt ≤ 100) : FD nv nc nf nl v0.toInt.toNat 1 (keepF nv nc nf nl (nI 0) z) (upd g8 4 (g8 4 + 1)) := by
  have ek : keepF nv nc nf nl (nI 0) z = put (put (put (kp0 z) 16 6 (z 4 0)) 16 7 (z 4 1)) 16 8 (z 4 2) := by rw [keepF, if_pos (by decide : nI 0 = 0)]
  rw [ek]
  obtain ⟨hH, hV, hC, hS, hL, hN⟩ := h
  obtain ⟨z0, z1, z2⟩ := hz
  rw [z0, z1, z2]
  obtain ⟨c', ec⟩ : ∃ c', put (put (put (kp0 z) 16 6 v0) 16 7 v1) 16 8 v2 = c' := ⟨_, rfl⟩
  have cl : ∀ l, l ≠ 16 → c' l = z l := fun l x => by rw [← ec, put_ne x, put_ne x, put_ne x, kp0_l x]
  have c5 : c' 16 5 = z 16 5 + 1 := by rw [← ec, put_no (by decide), put_no (by decide), put_no (by decide), kp0_5]
  have c6 : c' 16 6 = v0 := by rw [← ec, put_no (by decide), put_no (by decide), put_at]
  have c7 : c' 16 7 = v1 := by rw [← ec, put_no (by decide), put_at]
  have c8 : c' 16 8 = v2 := by rw [← ec, put_at]
  rw [ec]
  obtain ⟨g', eg⟩ : ∃ g', upd g8 4 (g8 4 + 1) = g' := ⟨_, rfl⟩
  rw [eg]
  have gl : ∀ j, j < 4 ∨ 8 ≤ j → g' j = g j := fun j x => by rw [← eg, pk_un (by omega), e9, pk_un (by omega), pk_un (by omega), pk_un (by omega)]
  have g4 : g' 4 = g 4 + 1 := by rw [← eg, pk_us, e9, pk_un (by omega), pk_un (by omega), pk_un (by omega)]
  have g5 : g' 5 = v0 := by rw [← eg, pk_un (by omega), e9, pk_un (by omega), pk_un (by omega), pk_us]
  have g6 : g' 6 = v1 := by rw [← eg, pk_un (by omega), e9, pk_un (by omega), pk_us]
  have g7 : g' 7 = v2 := by rw [← eg, pk_un (by omega), e9, pk_us]
  have ev : v0 = nI v0.toInt.toNat := nI_nat (by omega)
  refine ⟨⟨⟨by rw [c5, hH.1.1]; rfl, by rw [g4, hH.1.2.1]; rfl, by decide, by omega⟩, ⟨c6.trans ev, g5.trans ev, by omega⟩, c7.trans g6.symm, c8.trans g7.symm, by rw [c7]; exact r1⟩, hV.to (cl 17 (by decide)) (cl 18 (by decide)) (gl 0 (by decide)) (fun j x y => gl j (by omega)), hC.to (Nat.le_refl _) (cl 19 (by decide)) (cl 20 (by decide)) (gl 1 (by decide)) (fun j x y => gl j (by omega)), hS.to (cl 25 (by decide)) (fun j x y => gl j (by omega)), hL.to (cl 21 (by decide)) (cl 22 (by decide)) (gl 2 (by decide)) (fun j x y => gl j (by omega)) (fun j x y => gl j (by omega)), hN.to (Nat.le_refl _) (cl 23 (by decide)) (cl 24 (by decide)) (gl 3 (by decide)) (fun j x y => gl j (by omega))⟩
theorem kp_3 {nv nc nf nl wk K : Nat} {z : CT} {g g8 : Nat → Int32} {v0 v1 : Int32} (h : FD nv nc nf nl wk K z g) (h0 : 0 < K) (hK : K < 1600) (e9 : g8 = upd g (78 + tcl v0) v1) (hz : z 4 0 = v0 ∧ z 4 1 = v1) (r0 : 0 ≤ v0.toInt ∧ v0.toInt ≤ (g 5 - 1).toInt) (r1 : 0 ≤ v1.toInt ∧ v1.toInt ≤ 99) : FD nv nc nf nl wk (K + 1) (keepF nv nc nf nl (nI 3) z) (upd g8 4 (g8 4 + 1)) := by
  obtain ⟨hH, hV, hC, hS, hL, hN⟩ := h
  obtain ⟨z0, z1⟩ := hz
  obtain ⟨w, hw, rfl⟩ : ∃ w, w < 30 ∧ v0 = nI w := by
    have t := r0.2
    have := hH.2.1.2.2
    rw [hH.2.1.2.1, nv_m1 (by omega)] at t
    exact ⟨_, by omega, nI_nat r0.1⟩
  have ew : tcl (nI w) = w := tcl_nI (by omega)
  have ei : ¬ inI (nI w) 30 = 0 := by
    have : ¬ (nI w < 0 ∨ 30 ≤ nI w) := by
      have t := nI_toInt (n := w) (by omega)
      rintro (q | q)
      · have := Int32.lt_iff_toInt_lt.mp q; rw [t] at this; have e : (0 : Int32).toInt = 0 := rfl; omega
      · have := Int32.le_iff_toInt_le.mp q; rw [t] at this; have e : (30 : Int32).toInt = 30 := rfl; omega
    rw [inI, if_neg this]; decide
  have ek : keepF nv nc nf nl (nI 3) z = put (kp0 z) 25 w v1 := by rw [keepF, if_neg (by decide : ¬ nI 3 = 0), if_neg (by decide : ¬ nI 3 = 1), if_neg (by decide : ¬ nI 3 = 2), if_pos (by decide : nI 3 = 3), z0, z1, if_neg ei, ew]
  rw [ek]
  rw [ew] at e9
  obtain ⟨c', ec⟩ : ∃ c', put (kp0 z) 25 w v1 = c' := ⟨_, rfl⟩
  have cl : ∀ l, l ≠ 25 → c' l = kp0 z l := fun l x => by rw [← ec, put_ne x]
  have c25 : c' 25 = upd (z 25) w v1 := by rw [← ec, put_s, kp0_l (by decide)]
  rw [ec]
  obtain ⟨g', eg⟩ : ∃ g', upd g8 4 (g8 4 + 1) = g' := ⟨_, rfl⟩
  rw [eg]
  have gl : ∀ j, j ≠ 4 → j ≠ 78 + w → g' j = g j := fun j x y => by rw [← eg, pk_un x, e9, pk_un y]
  have g4 : g' 4 = g 4 + 1 := by rw [← eg, pk_us, e9, pk_un (by omega)]
  have gw : g' (78 + w) = v1 := by rw [← eg, pk_un (by omega), e9, pk_us]
  refine ⟨hH.ln h0 hK (cl 16 (by decide)) (fun j x y => gl j (by omega) (by omega)) g4, hV.to ((cl 17 (by decide)).trans (kp0_l (by decide))) ((cl 18 (by decide)).trans (kp0_l (by decide))) (gl 0 (by decide) (by omega)) (fun j x y => gl j (by omega) (by omega)), hC.to (Nat.le_refl _) ((cl 19 (by decide)).trans (kp0_l (by decide))) ((cl 20 (by decide)).trans (kp0_l (by decide))) (gl 1 (by decide) (by omega)) (fun j x y => gl j (by omega) (by omega)), fun u hu => ?_, hL.to ((cl 21 (by decide)).trans (kp0_l (by decide))) ((cl 22 (by decide)).trans (kp0_l (by decide))) (gl 2 (by decide) (by omega)) (fun j x y => gl j (by omega) (by omega)) (fun j x y => gl j (by omega) (by omega)), hN.to (Nat.le_refl _) ((cl 23 (by decide)).trans (kp0_l (by decide))) ((cl 24 (by decide)).trans (kp0_l (by decide))) (gl 3 (by decide) (by omega)) (fun j x y => gl j (by omega) (by omega))⟩
  rw [c25]
  by_cases e : u = w
  · subst e; rw [pk_us, gw]; exact ⟨rfl, r1⟩
  · rw [pk_un e, gl _ (by omega) (by omega)]; exact hS u hu
theorem kp_6 {nv nc nf nl wk K : Nat} {z : CT} {g g8 : Nat → Int32} {v0 v1 : Int32} (h : FD nv nc nf nl wk K z g) (h0 : 0 < K) (hK : K < 1600) (e9 : g8 = upd g (8 + 5 * tcl v0 + 4) v1) (hz : z 4 0 = v0 ∧ z 4 1 = v1) (r0 : 0 ≤ v0.toInt ∧ v0.toInt ≤ (g 0 - 1).toInt) (r1 : 0 ≤ v1.toInt ∧ v1.toInt ≤ 9999) : FD nv nc nf nl wk (K + 1) (keepF nv nc nf nl (nI 6) z) (upd g8 4 (g8 4 + 1)) := by
  obtain ⟨hH, hV, hC, hS, hL, hN⟩ := h
  obtain ⟨z0, z1⟩ := hz
  obtain ⟨a1, a2, a3, a4, a5, a6⟩ := id hV
  obtain ⟨w, hw, rfl⟩ : ∃ w, w < nv ∧ v0 = nI w := by
    have t := r0.2
    rw [a3, nv_m1 (by omega)] at t
    exact ⟨_, by omega, nI_nat r0.1⟩
  have ew : tcl (nI w) = w := tcl_nI (by omega)
  have ek : keepF nv nc nf nl (nI 6) z = put (kp0 z) 18 (5 * w + 4) v1 := by rw [keepF, if_neg (by decide : ¬ nI 6 = 0), if_neg (by decide : ¬ nI 6 = 1), if_neg (by decide : ¬ nI 6 = 2), if_neg (by decide : ¬ nI 6 = 3), if_neg (by decide : ¬ nI 6 = 4), if_neg (by decide : ¬ nI 6 = 5), z0, z1, ew]
  rw [ek]
  rw [ew] at e9
  obtain ⟨c', ec⟩ : ∃ c', put (kp0 z) 18 (5 * w + 4) v1 = c' := ⟨_, rfl⟩
  have cl : ∀ l, l ≠ 18 → c' l = kp0 z l := fun l x => by rw [← ec, put_ne x]
  have c18 : c' 18 = upd (z 18) (5 * w + 4) v1 := by rw [← ec, put_s, kp0_l (by decide)]
  rw [ec]
  obtain ⟨g', eg⟩ : ∃ g', upd g8 4 (g8 4 + 1) = g' := ⟨_, rfl⟩
  rw [eg]
  have gl : ∀ j, j ≠ 4 → j ≠ 8 + 5 * w + 4 → g' j = g j := fun j x y => by rw [← eg, pk_un x, e9, pk_un y]
  have g4 : g' 4 = g 4 + 1 := by rw [← eg, pk_us, e9, pk_un (by omega)]
  have gw : g' (8 + 5 * w + 4) = v1 := by rw [← eg, pk_un (by omega), e9, pk_us]
  refine ⟨hH.ln h0 hK (cl 16 (by decide)) (fun j x y => gl j (by omega) (by omega)) g4, ⟨by rw [cl 17 (by decide), kp0_l (by decide)]; exact a1, a2, (gl 0 (by decide) (by omega)).trans a3, fun v hv k hk => ?_, fun v x y => ?_, fun v hv => ?_⟩, hC.to (Nat.le_refl _) ((cl 19 (by decide)).trans (kp0_l (by decide))) ((cl 20 (by decide)).trans (kp0_l (by decide))) (gl 1 (by decide) (by omega)) (fun j x y => gl j (by omega) (by omega)), hS.to ((cl 25 (by decide)).trans (kp0_l (by decide))) (fun j x y => gl j (by omega) (by omega)), hL.to ((cl 21 (by decide)).trans (kp0_l (by decide))) ((cl 22 (by decide)).trans (kp0_l (by decide))) (gl 2 (by decide) (by omega)) (fun j x y => gl j (by omega) (by omega)) (fun j x y => gl j (by omega) (by omega)), hN.to (Nat.le_refl _) ((cl 23 (by decide)).trans (kp0_l (by decide))) ((cl 24 (by decide)).trans (kp0_l (by decide))) (gl 3 (by decide) (by omega)) (fun j x y => gl j (by omega) (by omega))⟩
  · rw [c18]
    by_cases e : v = w ∧ k = 4
    · obtain ⟨rfl, rfl⟩ := e; rw [pk_us, gw]
    · rw [pk_un (by omega), gl _ (by omega) (by omega)]; exact a4 v hv k hk
  · rw [gl _ (by omega) (by omega)]; exact a5 v x y
  · have := a6 v hv
    unfold RVi at this ⊢
    rw [c18, pk_un (by omega), pk_un (by omega), pk_un (by omega), pk_un (by omega)]
    refine ⟨this.1, this.2.1, this.2.2.1, this.2.2.2.1, ?_⟩
    by_cases e : v = w
    · subst e; rw [pk_us]; exact r1
    · rw [pk_un (by omega)]; exact this.2.2.2.2
theorem kp_4 {nv nc nf nl wk K : Nat} {z : CT} {g g8 : Nat → Int32} {v0 v1 v2 : Int32} (h : FD nv nc nf nl wk K z g) (h0 : 0 < K) (hK : K < 1600) (hn : nf < 3) (e9 : g8 = upd (upd (upd (upd (upd g (108 + 3 * nf + 0) v0) (108 + 3 * nf + 1) v1) (108 + 3 * nf + 2) v2) (157 + nf) (-1)) 2 ((upd (upd (upd (upd g (108 + 3 * nf + 0) v0) (108 + 3 * nf + 1) v1) (108 + 3 * nf + 2) v2) (157 + nf) (-1)) 2 + 1)) (hz : z 4 0 = v0 ∧ z 4 1 = v1 ∧ z 4 2 = v2) (r1 : 0 ≤ v1.toInt ∧ v1.toInt ≤ 9999) (r2 : 0 ≤ v2.toInt ∧ v2.toInt ≤ 100) : FD nv nc (nf + 1) nl wk (K + 1) (keepF nv nc nf nl (nI 4) z) (upd g8 4 (g8 4 + 1)) := by
  have ek : keepF nv nc nf nl (nI 4) z = put (addF 21 4 nf (kp0 z)) 22 (4 * nf + 3) (-1) := by rw [keepF, if_neg (by decide : ¬ nI 4 = 0), if_neg (by decide : ¬ nI 4 = 1), if_neg (by decide : ¬ nI 4 = 2), if_neg (by decide : ¬ nI 4 = 3), if_pos (by decide : nI 4 = 4)]
  rw [ek]
  obtain ⟨hH, hV, hC, hS, hL, hN⟩ := h
  obtain ⟨a1, a2, a3, a4, a5⟩ := id hL
  obtain ⟨z0, z1, z2⟩ := hz
  obtain ⟨c', ec⟩ : ∃ c', put (addF 21 4 nf (kp0 z)) 22 (4 * nf + 3) (-1) = c' := ⟨_, rfl⟩
  have cl : ∀ l, l ≠ 21 → l ≠ 22 → c' l = kp0 z l := fun l x y => by rw [← ec, put_ne y, addF_l y x]
  have c21 : c' 21 2 = nI (nf + 1) := by rw [← ec, put_ne (by decide), addF_n (by rw [kp0_l (by decide)]; exact a1)]
  have c22 : c' 22 = upd (upd (upd (upd (upd (z 22) (4 * nf + 0) v0) (4 * nf + 1) v1) (4 * nf + 2) v2) (4 * nf + 3) (z 4 3)) (4 * nf + 3) (-1) := by rw [← ec, put_s, show (22 : Nat) = 21 + 1 from rfl, add4 (by decide), kp0_l (by decide), kp0_l (by decide), z0, z1, z2]
  rw [ec]
  have g4 : g8 4 = g 4 := by rw [e9, pk_un (by omega), pk_un (by omega), pk_un (by omega), pk_un (by omega), pk_un (by omega)]
  obtain ⟨g', eg⟩ : ∃ g', upd g8 4 (g8 4 + 1) = g' := ⟨_, rfl⟩
  rw [eg]
  have gl : ∀ j, j ≠ 4 → j ≠ 2 → j ≠ 157 + nf → (j < 108 + 3 * nf ∨ 108 + 3 * nf + 3 ≤ j) → g' j = g j := fun j x y u w => by rw [← eg, pk_un x, e9, pk_un y, pk_un (by omega), pk_un (by omega), pk_un (by omega), pk_un (by omega)]
  have gK : g' 4 = g 4 + 1 := by rw [← eg, pk_us, g4]
  have g0 : g' 2 = nI (nf + 1) := by rw [← eg, pk_un (by decide), e9, pk_us, pk_un (by omega), pk_un (by omega), pk_un (by omega), pk_un (by omega), a3, nI_1]
  have gt : g' (157 + nf) = -1 := by rw [← eg, pk_un (by omega), e9, pk_un (by omega), pk_us]
  have cn : ∀ k, k < 4 → c' 22 (4 * nf + k) = if k = 0 then v0 else if k = 1 then v1 else if k = 2 then v2 else -1 := fun k hk => by
    rw [c22]
    have : k = 0 ∨ k = 1 ∨ k = 2 ∨ k = 3 := by omega
    rcases this with e | e | e | e
    · subst e; rw [pk_un (by omega), pk_un (by omega), pk_un (by omega), pk_un (by omega), pk_us, if_pos rfl]
    · subst e; rw [pk_un (by omega), pk_un (by omega), pk_un (by omega), pk_us, if_neg (by decide), if_pos rfl]
    · subst e; rw [pk_un (by omega), pk_un (by omega), pk_us, if_neg (by decide), if_neg (by decide), if_pos rfl]
    · subst e; rw [pk_us, if_neg (by decide), if_neg (by decide), if_neg (by decide)]
  have co : ∀ v, v < nf → ∀ k, k < 4 → c' 22 (4 * v + k) = z 22 (4 * v + k) := fun v hv k hk => by rw [c22, pk_un (by omega), pk_un (by omega), pk_un (by omega), pk_un (by omega), pk_un (by omega)]
  refine ⟨hH.ln h0 hK (cl 16 (by decide) (by decide)) (fun j x y => gl j (by omega) (by omega) (by omega) (by omega)) gK, hV.to ((cl 17 (by decide) (by decide)).trans (kp0_l (by decide))) ((cl 18 (by decide) (by decide)).trans (kp0_l (by decide))) (gl 0 (by decide) (by decide) (by omega) (by omega)) (fun j x y => gl j (by omega) (by omega) (by omega) (by omega)), hC.to (Nat.le_refl _) ((cl 19 (by decide) (by decide)).trans (kp0_l (by decide))) ((cl 20 (by decide) (by decide)).trans (kp0_l (by decide))) (gl 1 (by decide) (by decide) (by omega) (by omega)) (fun j x y => gl j (by omega) (by omega) (by omega) (by omega)), hS.to ((cl 25 (by decide) (by decide)).trans (kp0_l (by decide))) (fun j x y => gl j (by omega) (by omega) (by omega) (by omega)), ⟨c21, by omega, g0, fun v hv k hk => ?_, fun v hv => ?_⟩, hN.to (Nat.le_refl _) ((cl 23 (by decide) (by decide)).trans (kp0_l (by decide))) ((cl 24 (by decide) (by decide)).trans (kp0_l (by decide))) (gl 3 (by decide) (by decide) (by omega) (by omega)) (fun j x y => gl j (by omega) (by omega) (by omega) (by omega))⟩
  · by_cases e : v = nf
    · subst e
      rw [cn k (by omega)]
      have : k = 0 ∨ k = 1 ∨ k = 2 := by omega
      rcases this with e | e | e
      · subst e; rw [if_pos rfl, ← eg, pk_un (by omega), e9, pk_un (by omega), pk_un (by omega), pk_un (by omega), pk_un (by omega), pk_us]
      · subst e; rw [if_neg (by decide), if_pos rfl, ← eg, pk_un (by omega), e9, pk_un (by omega), pk_un (by omega), pk_un (by omega), pk_us]
      · subst e; rw [if_neg (by decide), if_neg (by decide), if_pos rfl, ← eg, pk_un (by omega), e9, pk_un (by omega), pk_un (by omega), pk_us]
    · rw [co v (by omega) k (by omega), gl _ (by omega) (by omega) (by omega) (by omega)]; exact a4 v (by omega) k hk
  · by_cases e : v = nf
    · subst e
      unfold RF
      rw [cn 1 (by decide), cn 2 (by decide), cn 3 (by decide), gt]
      exact ⟨rfl, rfl, r1, r2⟩
    · have := a5 v (by omega)
      unfold RF at this ⊢
      rw [co v (by omega) 1 (by decide), co v (by omega) 2 (by decide), co v (by omega) 3 (by decide), gl _ (by omega) (by omega) (by omega) (by omega)]
      exact this