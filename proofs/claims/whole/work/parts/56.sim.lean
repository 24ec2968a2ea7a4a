/-! THE YEAR of the class and that of the reference, side by side -/
def SimY (nv nc nf nl fl W : Nat) (y m : CT) : Prop := (∀ v, v < nv → ∀ k, (k < 5 ∧ k ≠ 1) → y 8 (5 * v + k) = m 1 (8 + 5 * v + k)) ∧ (∀ i, i < nc → ∀ k, k < 5 → y 10 (5 * i + k) = m 1 (38 + 5 * i + k)) ∧ (∀ i, i < nf → ∀ k, k < 3 → y 12 (4 * i + k) = m 1 (108 + 3 * i + k)) ∧ (∀ i, i < nl → ∀ k, k < 5 → y 14 (5 * i + k) = m 1 (117 + 5 * i + k)) ∧ (∀ w, w < 30 → y 15 w = m 1 (78 + w)) ∧ (y 6 8 = m 1 7) ∧ (∀ i, i < nf → y 29 i = tnM fl m i) ∧ (y 28 2 = m 1 6) ∧ (y 28 3 = m 0 25) ∧ (∀ v, v < nv → y 30 v = m 7 v) ∧ (∀ i, i < nf → y 32 i = m 9 (3 * i + 0)) ∧ (∀ i, i < nf → y 33 i = m 9 (3 * i + 1)) ∧ (∀ i, i < nf → y 34 i = m 9 (3 * i + 2)) ∧ (∀ i, i < nl → y 35 i = m 10 (3 * i + 0)) ∧ (∀ i, i < nl → y 36 i = m 10 (3 * i + 1)) ∧ (∀ i, i < nl → y 37 i = m 10 (3 * i + 2)) ∧ (∀ i, i < nc → y 38 i = m 11 (3 * i + 0)) ∧ (∀ i, i < nc → y 39 i = m 11 (3 * i + 1)) ∧ (∀ i, i < nc → y 40 i = m 11 (3 * i + 2)) ∧ (y 28 16 = m 0 20) ∧ (y 28 17 = m 0 21) ∧ (y 28 18 = m 0 22) ∧ (y 28 19 = m 0 23) ∧ (∀ v, v < nv → ∀ u, u < W → y 31 (v * 30 + u) = m 8 (30 * v + u))
theorem SimY.s1 {nv nc nf nl fl W : Nat} {y m : CT} (h : SimY nv nc nf nl fl W y m) : ∀ v, v < nv → ∀ k, (k < 5 ∧ k ≠ 1) → y 8 (5 * v + k) = m 1 (8 + 5 * v + k) := h.1
theorem SimY.s2 {nv nc nf nl fl W : Nat} {y m : CT} (h : SimY nv nc nf nl fl W y m) : ∀ i, i < nc → ∀ k, k < 5 → y 10 (5 * i + k) = m 1 (38 + 5 * i + k) := h.2.1
theorem SimY.s3 {nv nc nf nl fl W : Nat} {y m : CT} (h : SimY nv nc nf nl fl W y m) : ∀ i, i < nf → ∀ k, k < 3 → y 12 (4 * i + k) = m 1 (108 + 3 * i + k) := h.2.2.1
theorem SimY.s4 {nv nc nf nl fl W : Nat} {y m : CT} (h : SimY nv nc nf nl fl W y m) : ∀ i, i < nl → ∀ k, k < 5 → y 14 (5 * i + k) = m 1 (117 + 5 * i + k) := h.2.2.2.1
theorem SimY.s5 {nv nc nf nl fl W : Nat} {y m : CT} (h : SimY nv nc nf nl fl W y m) : ∀ w, w < 30 → y 15 w = m 1 (78 + w) := h.2.2.2.2.1
theorem SimY.s6 {nv nc nf nl fl W : Nat} {y m : CT} (h : SimY nv nc nf nl fl W y m) : y 6 8 = m 1 7 := h.2.2.2.2.2.1
theorem SimY.s7 {nv nc nf nl fl W : Nat} {y m : CT} (h : SimY nv nc nf nl fl W y m) : ∀ i, i < nf → y 29 i = tnM fl m i := h.2.2.2.2.2.2.1
theorem SimY.s8 {nv nc nf nl fl W : Nat} {y m : CT} (h : SimY nv nc nf nl fl W y m) : y 28 2 = m 1 6 := h.2.2.2.2.2.2.2.1
theorem SimY.s9 {nv nc nf nl fl W : Nat} {y m : CT} (h : SimY nv nc nf nl fl W y m) : y 28 3 = m 0 25 := h.2.2.2.2.2.2.2.2.1
theorem SimY.d1 {nv nc nf nl fl W : Nat} {y m : CT} (h : SimY nv nc nf nl fl W y m) : ∀ v, v < nv → y 30 v = m 7 v := h.2.2.2.2.2.2.2.2.2.1
theorem SimY.d2 {nv nc nf nl fl W : Nat} {y m : CT} (h : SimY nv nc nf nl fl W y m) : ∀ i, i < nf → y 32 i = m 9 (3 * i + 0) := h.2.2.2.2.2.2.2.2.2.2.1
theorem SimY.d3 {nv nc nf nl fl W : Nat} {y m : CT} (h : SimY nv nc nf nl fl W y m) : ∀ i, i < nf → y 33 i = m 9 (3 * i + 1) := h.2.2.2.2.2.2.2.2.2.2.2.1
theorem SimY.d4 {nv nc nf nl fl W : Nat} {y m : CT} (h : SimY nv nc nf nl fl W y m) : ∀ i, i < nf → y 34 i = m 9 (3 * i + 2) := h.2.2.2.2.2.2.2.2.2.2.2.2.1
theorem SimY.d5 {nv nc nf nl fl W : Nat} {y m : CT} (h : SimY nv nc nf nl fl W y m) : ∀ i, i < nl → y 35 i = m 10 (3 * i + 0) := h.2.2.2.2.2.2.2.2.2.2.2.2.2.1
theorem SimY.d6 {nv nc nf nl fl W : Nat} {y m : CT} (h : SimY nv nc nf nl fl W y m) : ∀ i, i < nl → y 36 i = m 10 (3 * i + 1) := h.2.2.2.2.2.2.2.2.2.2.2.2.2.2.1
theorem SimY.d7 {nv nc nf nl fl W : Nat} {y m : CT} (h : SimY nv nc nf nl fl W y m) : ∀ i, i < nl → y 37 i = m 10 (3 * i + 2) := h.2.2.2.2.2.2.2.2.2.2.2.2.2.2.2.1
theorem SimY.d8 {nv nc nf nl fl W : Nat} {y m : CT} (h : SimY nv nc nf nl fl W y m) : ∀ i, i < nc → y 38 i = m 11 (3 * i + 0) := h.2.2.2.2.2.2.2.2.2.2.2.2.2.2.2.2.1
theorem SimY.d9 {nv nc nf nl fl W : Nat} {y m : CT} (h : SimY nv nc nf nl fl W y m) : ∀ i, i < nc → y 39 i = m 11 (3 * i + 1) := h.2.2.2.2.2.2.2.2.2.2.2.2.2.2.2.2.2.1
theorem SimY.d10 {nv nc nf nl fl W : Nat} {y m : CT} (h : SimY nv nc nf nl fl W y m) : ∀ i, i < nc → y 40 i = m 11 (3 * i + 2) := h.2.2.2.2.2.2.2.2.2.2.2.2.2.2.2.2.2.2.1
theorem SimY.e0 {nv nc nf nl fl W : Nat} {y m : CT} (h : SimY nv nc nf nl fl W y m) : y 28 16 = m 0 20 := h.2.2.2.2.2.2.2.2.2.2.2.2.2.2.2.2.2.2.2.1
theorem SimY.e1 {nv nc nf nl fl W : Nat} {y m : CT} (h : SimY nv nc nf nl fl W y m) : y 28 17 = m 0 21 := h.2.2.2.2.2.2.2.2.2.2.2.2.2.2.2.2.2.2.2.2.1
theorem SimY.e2 {nv nc nf nl fl W : Nat} {y m : CT} (h : SimY nv nc nf nl fl W y m) : y 28 18 = m 0 22 := h.2.2.2.2.2.2.2.2.2.2.2.2.2.2.2.2.2.2.2.2.2.1
theorem SimY.e3 {nv nc nf nl fl W : Nat} {y m : CT} (h : SimY nv nc nf nl fl W y m) : y 28 19 = m 0 23 := h.2.2.2.2.2.2.2.2.2.2.2.2.2.2.2.2.2.2.2.2.2.2.1
theorem SimY.f0 {nv nc nf nl fl W : Nat} {y m : CT} (h : SimY nv nc nf nl fl W y m) : ∀ v, v < nv → ∀ u, u < W → y 31 (v * 30 + u) = m 8 (30 * v + u) := h.2.2.2.2.2.2.2.2.2.2.2.2.2.2.2.2.2.2.2.2.2.2.2
theorem SimY.p30 {nv nc nf nl fl W : Nat} {y m : CT} {j : Nat} {x x' : Int32} (h : SimY nv nc nf nl fl W y m) (e : x = x') : SimY nv nc nf nl fl W (put y 30 j x) (put m 7 (j) x') := ⟨fun v hv k hk => by rw [put_ne (by decide), put_ne (by decide)]; exact h.s1 v hv k hk, fun v hv k hk => by rw [put_ne (by decide), put_ne (by decide)]; exact h.s2 v hv k hk, fun v hv k hk => by rw [put_ne (by decide), put_ne (by decide)]; exact h.s3 v hv k hk, fun v hv k hk => by rw [put_ne (by decide), put_ne (by decide)]; exact h.s4 v hv k hk, fun v hv => by rw [put_ne (by decide), put_ne (by decide)]; exact h.s5 v hv, by rw [put_ne (by decide), put_ne (by decide)]; exact h.s6, fun v hv => by rw [put_ne (by decide), show tnM fl (put m 7 (j) x') v = tnM fl m v from by simp only [tnM, put_ne (show (1 : Nat) ≠ 7 by decide)]]; exact h.s7 v hv, by rw [put_ne (by decide), put_ne (by decide)]; exact h.s8, by rw [put_ne (by decide), put_ne (by decide)]; exact h.s9, fun v hv => by by_cases z : v = j; (subst z; rw [put_at, put_at]; exact e); (rw [put_no z, put_no (by omega)]; exact h.d1 v hv), fun v hv => by rw [put_ne (by decide), put_ne (by decide)]; exact h.d2 v hv, fun v hv => by rw [put_ne (by decide), put_ne (by decide)]; exact h.d3 v hv, fun v hv => by rw [put_ne (by decide), put_ne (by decide)]; exact h.d4 v hv, fun v hv => by rw [put_ne (by decide), put_ne (by decide)]; exact h.d5 v hv, fun v hv => by rw [put_ne (by decide), put_ne (by decide)]; exact h.d6 v hv, fun v hv => by rw [put_ne (by decide), put_ne (by decide)]; exact h.d7 v hv, fun v hv => by rw [put_ne (by decide), put_ne (by decide)]; exact h.d8 v hv, fun v hv => by rw [put_ne (by decide), put_ne (by decide)]; exact h.d9 v hv, fun v hv => by rw [put_ne (by decide), put_ne (by decide)]; exact h.d10 v hv, by rw [put_ne (by decide), put_ne (by decide)]; exact h.e0, by rw [put_ne (by decide), put_ne (by decide)]; exact h.e1, by rw [put_ne (by decide), put_ne (by decide)]; exact h.e2, by rw [put_ne (by decide), put_ne (by decide)]; exact h.e3, fun v hv k hk => by rw [put_ne (by decide), put_ne (by decide)]; exact h.f0 v hv k hk⟩
theorem SimY.p32 {nv nc nf nl fl W : Nat} {y m : CT} {j : Nat} {x x' : Int32} (h : SimY nv nc nf nl fl W y m) (e : x = x') : SimY nv nc nf nl fl W (put y 32 j x) (put m 9 (3 * j + 0) x') := ⟨fun v hv k hk => by rw [put_ne (by decide), put_ne (by decide)]; exact h.s1 v hv k hk, fun v hv k hk => by rw [put_ne (by decide), put_ne (by decide)]; exact h.s2 v hv k hk, fun v hv k hk => by rw [put_ne (by decide), put_ne (by decide)]; exact h.s3 v hv k hk, fun v hv k hk => by rw [put_ne (by decide), put_ne (by decide)]; exact h.s4 v hv k hk, fun v hv => by rw [put_ne (by decide), put_ne (by decide)]; exact h.s5 v hv, by rw [put_ne (by decide), put_ne (by decide)]; exact h.s6, fun v hv => by rw [put_ne (by decide), show tnM fl (put m 9 (3 * j + 0) x') v = tnM fl m v from by simp only [tnM, put_ne (show (1 : Nat) ≠ 9 by decide)]]; exact h.s7 v hv, by rw [put_ne (by decide), put_ne (by decide)]; exact h.s8, by rw [put_ne (by decide), put_ne (by decide)]; exact h.s9, fun v hv => by rw [put_ne (by decide), put_ne (by decide)]; exact h.d1 v hv, fun v hv => by by_cases z : v = j; (subst z; rw [put_at, put_at]; exact e); (rw [put_no z, put_no (by omega)]; exact h.d2 v hv), fun v hv => by rw [put_ne (by decide), put_no (by omega)]; exact h.d3 v hv, fun v hv => by rw [put_ne (by decide), put_no (by omega)]; exact h.d4 v hv, fun v hv => by rw [put_ne (by decide), put_ne (by decide)]; exact h.d5 v hv, fun v hv => by rw [put_ne (by decide), put_ne (by decide)]; exact h.d6 v hv, fun v hv => by rw [put_ne (by decide), put_ne (by decide)]; exact h.d7 v hv, fun v hv => by rw [put_ne (by decide), put_ne (by decide)]; exact h.d8 v hv, fun v hv => by rw [put_ne (by decide), put_ne (by decide)]; exact h.d9 v hv, fun v hv => by rw [put_ne (by decide), put_ne (by decide)]; exact h.d10 v hv, by rw [put_ne (by decide), put_ne (by decide)]; exact h.e0, by rw [put_ne (by decide), put_ne (by decide)]; exact h.e1, by rw [put_ne (by decide), put_ne (by decide)]; exact h.e2, by rw [put_ne (by decide), put_ne (by decide)]; exact h.e3, fun v hv k hk => by rw [put_ne (by decide), put_ne (by decide)]; exact h.f0 v hv k hk⟩
theorem SimY.p33 {nv nc nf nl fl W : Nat} {y m : CT} {j : Nat} {x x' : Int32} (h : SimY nv nc nf nl fl W y m) (e : x = x') : SimY nv nc nf nl fl W (put y 33 j x) (put m 9 (3 * j + 1) x') := ⟨fun v hv k hk => by rw [put_ne (by decide), put_ne (by decide)]; exact h.s1 v hv k hk, fun v hv k hk => by rw [put_ne (by decide), put_ne (by decide)]; exact h.s2 v hv k hk, fun v hv k hk => by rw [put_ne (by decide), put_ne (by decide)]; exact h.s3 v hv k hk, fun v hv k hk => by rw [put_ne (by decide), put_ne (by decide)]; exact h.s4 v hv k hk, fun v hv => by rw [put_ne (by decide), put_ne (by decide)]; exact h.s5 v hv, by rw [put_ne (by decide), put_ne (by decide)]; exact h.s6, fun v hv => by rw [put_ne (by decide), show tnM fl (put m 9 (3 * j + 1) x') v = tnM fl m v from by simp only [tnM, put_ne (show (1 : Nat) ≠ 9 by decide)]]; exact h.s7 v hv, by rw [put_ne (by decide), put_ne (by decide)]; exact h.s8, by rw [put_ne (by decide), put_ne (by decide)]; exact h.s9, fun v hv => by rw [put_ne (by decide), put_ne (by decide)]; exact h.d1 v hv, fun v hv => by rw [put_ne (by decide), put_no (by omega)]; exact h.d2 v hv, fun v hv => by by_cases z : v = j; (subst z; rw [put_at, put_at]; exact e); (rw [put_no z, put_no (by omega)]; exact h.d3 v hv), fun v hv => by rw [put_ne (by decide), put_no (by omega)]; exact h.d4 v hv, fun v hv => by rw [put_ne (by decide), put_ne (by decide)]; exact h.d5 v hv, fun v hv => by rw [put_ne (by decide), put_ne (by decide)]; exact h.d6 v hv, fun v hv => by rw [put_ne (by decide), put_ne (by decide)]; exact h.d7 v hv, fun v hv => by rw [put_ne (by decide), put_ne (by decide)]; exact h.d8 v hv, fun v hv => by rw [put_ne (by decide), put_ne (by decide)]; exact h.d9 v hv, fun v hv => by rw [put_ne (by decide), put_ne (by decide)]; exact h.d10 v hv, by rw [put_ne (by decide), put_ne (by decide)]; exact h.e0, by rw [put_ne (by decide), put_ne (by decide)]; exact h.e1, by rw [put_ne (by decide), put_ne (by decide)]; exact h.e2, by rw [put_ne (by decide), put_ne (by decide)]; exact h.e3, fun v hv k hk => by rw [put_ne (by decide), put_ne (by decide)]; exact h.f0 v hv k hk⟩
theorem SimY.p34 {nv nc nf nl fl W : Nat} {y m : CT} {j : Nat} {x x' : Int32} (h : SimY nv nc nf nl fl W y m) (e : x = x') : SimY nv nc nf nl fl W (put y 34 j x) (put m 9 (3 * j + 2) x') := ⟨fun v hv k hk => by rw [put_ne (by decide), put_ne (by decide)]; exact h.s1 v hv k hk, fun v hv k hk => by rw [put_ne (by decide), put_ne (by decide)]; exact h.s2 v hv k hk, fun v hv k hk => by rw [put_ne (by decide), put_ne (by decide)]; exact h.s3 v hv k hk, fun v hv k hk => by rw [put_ne (by decide), put_ne (by decide)]; exact h.s4 v hv k hk, fun v hv => by rw [put_ne (by decide), put_ne (by decide)]; exact h.s5 v hv, by rw [put_ne (by decide), put_ne (by decide)]; exact h.s6, fun v hv => by rw [put_ne (by decide), show tnM fl (put m 9 (3 * j + 2) x') v = tnM fl m v from by simp only [tnM, put_ne (show (1 : Nat) ≠ 9 by decide)]]; exact h.s7 v hv, by rw [put_ne (by decide), put_ne (by decide)]; exact h.s8, by rw [put_ne (by decide), put_ne (by decide)]; exact h.s9, fun v hv => by rw [put_ne (by decide), put_ne (by decide)]; exact h.d1 v hv, fun v hv => by rw [put_ne (by decide), put_no (by omega)]; exact h.d2 v hv, fun v hv => by rw [put_ne (by decide), put_no (by omega)]; exact h.d3 v hv, fun v hv => by by_cases z : v = j; (subst z; rw [put_at, put_at]; exact e); (rw [put_no z, put_no (by omega)]; exact h.d4 v hv), fun v hv => by rw [put_ne (by decide), put_ne (by decide)]; exact h.d5 v hv, fun v hv => by rw [put_ne (by decide), put_ne (by decide)]; exact h.d6 v hv, fun v hv => by rw [put_ne (by decide), put_ne (by decide)]; exact h.d7 v hv, fun v hv => by rw [put_ne (by decide), put_ne (by decide)]; exact h.d8 v hv, fun v hv => by rw [put_ne (by decide), put_ne (by decide)]; exact h.d9 v hv, fun v hv => by rw [put_ne (by decide), put_ne (by decide)]; exact h.d10 v hv, by rw [put_ne (by decide), put_ne (by decide)]; exact h.e0, by rw [put_ne (by decide), put_ne (by decide)]; exact h.e1, by rw [put_ne (by decide), put_ne (by decide)]; exact h.e2, by rw [put_ne (by decide), put_ne (by decide)]; exact h.e3, fun v hv k hk => by rw [put_ne (by decide), put_ne (by decide)]; exact h.f0 v hv k hk⟩
theorem SimY.p35 {nv nc nf nl fl W : Nat} {y m : CT} {j : Nat} {x x' : Int32} (h : SimY nv nc nf nl fl W y m) (e : x = x') : SimY nv nc nf nl fl W (put y 35 j x) (put m 10 (3 * j + 0) x') := ⟨fun v hv k hk => by rw [put_ne (by decide), put_ne (by decide)]; exact h.s1 v hv k hk, fun v hv k hk => by rw [put_ne (by decide), put_ne (by decide)]; exact h.s2 v hv k hk, fun v hv k hk => by rw [put_ne (by decide), put_ne (by decide)]; exact h.s3 v hv k hk, fun v hv k hk => by rw [put_ne (by decide), put_ne (by decide)]; exact h.s4 v hv k hk, fun v hv => by rw [put_ne (by decide), put_ne (by decide)]; exact h.s5 v hv, by rw [put_ne (by decide), put_ne (by decide)]; exact h.s6, fun v hv => by rw [put_ne (by decide), show tnM fl (put m 10 (3 * j + 0) x') v = tnM fl m v from by simp only [tnM, put_ne (show (1 : Nat) ≠ 10 by decide)]]; exact h.s7 v hv, by rw [put_ne (by decide), put_ne (by decide)]; exact h.s8, by rw [put_ne (by decide), put_ne (by decide)]; exact h.s9, fun v hv => by rw [put_ne (by decide), put_ne (by decide)]; exact h.d1 v hv, fun v hv => by rw [put_ne (by decide), put_ne (by decide)]; exact h.d2 v hv, fun v hv => by rw [put_ne (by decide), put_ne (by decide)]; exact h.d3 v hv, fun v hv => by rw [put_ne (by decide), put_ne (by decide)]; exact h.d4 v hv, fun v hv => by by_cases z : v = j; (subst z; rw [put_at, put_at]; exact e); (rw [put_no z, put_no (by omega)]; exact h.d5 v hv), fun v hv => by rw [put_ne (by decide), put_no (by omega)]; exact h.d6 v hv, fun v hv => by rw [put_ne (by decide), put_no (by omega)]; exact h.d7 v hv, fun v hv => by rw [put_ne (by decide), put_ne (by decide)]; exact h.d8 v hv, fun v hv => by rw [put_ne (by decide), put_ne (by decide)]; exact h.d9 v hv, fun v hv => by rw [put_ne (by decide), put_ne (by decide)]; exact h.d10 v hv, by rw [put_ne (by decide), put_ne (by decide)]; exact h.e0, by rw [put_ne (by decide), put_ne (by decide)]; exact h.e1, by rw [put_ne (by decide), put_ne (by decide)]; exact h.e2, by rw [put_ne (by decide), put_ne (by decide)]; exact h.e3, fun v hv k hk => by rw [put_ne (by decide), put_ne (by decide)]; exact h.f0 v hv k hk⟩
theorem SimY.p36 {nv nc nf nl fl W : Nat} {y m : CT} {j : Nat} {x x' : Int32} (h : SimY nv nc nf nl fl W y m) (e : x = x') : SimY nv nc nf nl fl W (put y 36 j x) (put m 10 (3 * j + 1) x') := ⟨fun v hv k hk => by rw [put_ne (by decide), put_ne (by decide)]; exact h.s1 v hv k hk, fun v hv k hk => by rw [put_ne (by decide), put_ne (by decide)]; exact h.s2 v hv k hk, fun v hv k hk => by rw [put_ne (by decide), put_ne (by decide)]; exact h.s3 v hv k hk, fun v hv k hk => by rw [put_ne (by decide), put_ne (by decide)]; exact h.s4 v hv k hk, fun v hv => by rw [put_ne (by decide), put_ne (by decide)]; exact h.s5 v hv, by rw [put_ne (by decide), put_ne (by decide)]; exact h.s6, fun v hv => by rw [put_ne (by decide), show tnM fl (put m 10 (3 * j + 1) x') v = tnM fl m v from by simp only [tnM, put_ne (show (1 : Nat) ≠ 10 by decide)]]; exact h.s7 v hv, by rw [put_ne (by decide), put_ne (by decide)]; exact h.s8, by rw [put_ne (by decide), put_ne (by decide)]; exact h.s9, fun v hv => by rw [put_ne (by decide), put_ne (by decide)]; exact h.d1 v hv, fun v hv => by rw [put_ne (by decide), put_ne (by decide)]; exact h.d2 v hv, fun v hv => by rw [put_ne (by decide), put_ne (by decide)]; exact h.d3 v hv, fun v hv => by rw [put_ne (by decide), put_ne (by decide)]; exact h.d4 v hv, fun v hv => by rw [put_ne (by decide), put_no (by omega)]; exact h.d5 v hv, fun v hv => by by_cases z : v = j; (subst z; rw [put_at, put_at]; exact e); (rw [put_no z, put_no (by omega)]; exact h.d6 v hv), fun v hv => by rw [put_ne (by decide), put_no (by omega)]; exact h.d7 v hv, fun v hv => by rw [put_ne (by decide), put_ne (by decide)]; exact h.d8 v hv, fun v hv => by rw [put_ne (by decide), put_ne (by decide)]; exact h.d9 v hv, fun v hv => by rw [put_ne (by decide), put_ne (by decide)]; exact h.d10 v hv, by rw [put_ne (by decide), put_ne (by decide)]; exact h.e0, by rw [put_ne (by decide), put_ne (by decide)]; exact h.e1, by rw [put_ne (by decide), put_ne (by decide)]; exact h.e2, by rw [put_ne (by decide), put_ne (by decide)]; exact h.e3, fun v hv k hk => by rw [put_ne (by decide), put_ne (by decide)]; exact h.f0 v hv k hk⟩
theorem SimY.p37 {nv nc nf nl fl W : Nat} {y m : CT} {j : Nat} {x x' : Int32} (h : SimY nv nc nf nl fl W y m) (e : x = x') : SimY nv nc nf nl fl W (put y 37 j x) (put m 10 (3 * j + 2) x') := ⟨fun v hv k hk => by rw [put_ne (by decide), put_ne (by decide)]; exact h.s1 v hv k hk, fun v hv k hk => by rw [put_ne (by decide), put_ne (by decide)]; exact h.s2 v hv k hk, fun v hv k hk => by rw [put_ne (by decide), put_ne (by decide)]; exact h.s3 v hv k hk, fun v hv k hk => by rw [put_ne (by decide), put_ne (by decide)]; exact h.s4 v hv k hk, fun v hv => by rw [put_ne (by decide), put_ne (by decide)]; exact h.s5 v hv, by rw [put_ne (by decide), put_ne (by decide)]; exact h.s6, fun v hv => by rw [put_ne (by decide), show tnM fl (put m 10 (3 * j + 2) x') v = tnM fl m v from by simp only [tnM, put_ne (show (1 : Nat) ≠ 10 by decide)]]; exact h.s7 v hv, by rw [put_ne (by decide), put_ne (by decide)]; exact h.s8, by rw [put_ne (by decide), put_ne (by decide)]; exact h.s9, fun v hv => by rw [put_ne (by decide), put_ne (by decide)]; exact h.d1 v hv, fun v hv => by rw [put_ne (by decide), put_ne (by decide)]; exact h.d2 v hv, fun v hv => by rw [put_ne (by decide), put_ne (by decide)]; exact h.d3 v hv, fun v hv => by rw [put_ne (by decide), put_ne (by decide)]; exact h.d4 v hv, fun v hv => by rw [put_ne (by decide), put_no (by omega)]; exact h.d5 v hv, fun v hv => by rw [put_ne (by decide), put_no (by omega)]; exact h.d6 v hv, fun v hv => by by_cases z : v = j; (subst z; rw [put_at, put_at]; exact e); (rw [put_no z, put_no (by omega)]; exact h.d7 v hv), fun v hv => by rw [put_ne (by decide), put_ne (by decide)]; exact h.d8 v hv, fun v hv => by rw [put_ne (by decide), put_ne (by decide)]; exact h.d9 v hv, fun v hv => by rw [put_ne (by decide), put_ne (by decide)]; exact h.d10 v hv, by rw [put_ne (by decide), put_ne (by decide)]; exact h.e0, by rw [put_ne (by decide), put_ne (by decide)]; exact h.e1, by rw [put_ne (by decide), put_ne (by decide)]; exact h.e2, by rw [put_ne (by decide), put_ne (by decide)]; exact h.e3, fun v hv k hk => by rw [put_ne (by decide), put_ne (by decide)]; exact h.f0 v hv k hk⟩
theorem SimY.p38 {nv nc nf nl fl W : Nat} {y m : CT} {j : Nat} {x x' : Int32} (h : SimY nv nc nf nl fl W y m) (e : x = x') : SimY nv nc nf nl fl W (put y 38 j x) (put m 11 (3 * j + 0) x') := ⟨fun v hv k hk => by rw [put_ne (by decide), put_ne (by decide)]; exact h.s1 v hv k hk, fun v hv k hk => by rw [put_ne (by decide), put_ne (by decide)]; exact h.s2 v hv k hk, fun v hv k hk => by rw [put_ne (by decide), put_ne (by decide)]; exact h.s3 v hv k hk, fun v hv k hk => by rw [put_ne (by decide), put_ne (by decide)]; exact h.s4 v hv k hk, fun v hv => by rw [put_ne (by decide), put_ne (by decide)]; exact h.s5 v hv, by rw [put_ne (by decide), put_ne (by decide)]; exact h.s6, fun v hv => by rw [put_ne (by decide), show tnM fl (put m 11 (3 * j + 0) x') v = tnM fl m v from by simp only [tnM, put_ne (show (1 : Nat) ≠ 11 by decide)]]; exact h.s7 v hv, by rw [put_ne (by decide), put_ne (by decide)]; exact h.s8, by rw [put_ne (by decide), put_ne (by decide)]; exact h.s9, fun v hv => by rw [put_ne (by decide), put_ne (by decide)]; exact h.d1 v hv, fun v hv => by rw [put_ne (by decide), put_ne (by decide)]; exact h.d2 v hv, fun v hv => by rw [put_ne (by decide), put_ne (by decide)]; exact h.d3 v hv, fun v hv => by rw [put_ne (by decide), put_ne (by decide)]; exact h.d4 v hv, fun v hv => by rw [put_ne (by decide), put_ne (by decide)]; exact h.d5 v hv, fun v hv => by rw [put_ne (by decide), put_ne (by decide)]; exact h.d6 v hv, fun v hv => by rw [put_ne (by decide), put_ne (by decide)]; exact h.d7 v hv, fun v hv => by by_cases z : v = j; (subst z; rw [put_at, put_at]; exact e); (rw [put_no z, put_no (by omega)]; exact h.d8 v hv), fun v hv => by rw [put_ne (by decide), put_no (by omega)]; exact h.d9 v hv, fun v hv => by rw [put_ne (by decide), put_no (by omega)]; exact h.d10 v hv, by rw [put_ne (by decide), put_ne (by decide)]; exact h.e0, by rw [put_ne (by decide), put_ne (by decide)]; exact h.e1, by rw [put_ne (by decide), put_ne (by decide)]; exact h.e2, by rw [put_ne (by decide), put_ne (by decide)]; exact h.e3, fun v hv k hk => by rw [put_ne (by decide), put_ne (by decide)]; exact h.f0 v hv k hk⟩
theorem SimY.p39 {nv nc nf nl fl W : Nat} {y m : CT} {j : Nat} {x x' : Int32} (h : SimY nv nc nf nl fl W y m) (e : x = x') : SimY nv nc nf nl fl W (put y 39 j x) (put m 11 (3 * j + 1) x') := ⟨fun v hv k hk => by rw [put_ne (by decide), put_ne (by decide)]; exact h.s1 v hv k hk, fun v hv k hk => by rw [put_ne (by decide), put_ne (by decide)]; exact h.s2 v hv k hk, fun v hv k hk => by rw [put_ne (by decide), put_ne (by decide)]; exact h.s3 v hv k hk, fun v hv k hk => by rw [put_ne (by decide), put_ne (by decide)]; exact h.s4 v hv k hk, fun v hv => by rw [put_ne (by decide), put_ne (by decide)]; exact h.s5 v hv, by rw [put_ne (by decide), put_ne (by decide)]; exact h.s6, fun v hv => by rw [put_ne (by decide), show tnM fl (put m 11 (3 * j + 1) x') v = tnM fl m v from by simp only [tnM, put_ne (show (1 : Nat) ≠ 11 by decide)]]; exact h.s7 v hv, by rw [put_ne (by decide), put_ne (by decide)]; exact h.s8, by rw [put_ne (by decide), put_ne (by decide)]; exact h.s9, fun v hv => by rw [put_ne (by decide), put_ne (by decide)]; exact h.d1 v hv, fun v hv => by rw [put_ne (by decide), put_ne (by decide)]; exact h.d2 v hv, fun v hv => by rw [put_ne (by decide), put_ne (by decide)]; exact h.d3 v hv, fun v hv => by rw [put_ne (by decide), put_ne (by decide)]; exact h.d4 v hv, fun v hv => by rw [put_ne (by decide), put_ne (by decide)]; exact h.d5 v hv, fun v hv => by rw [put_ne (by decide), put_ne (by decide)]; exact h.d6 v hv, fun v hv => by rw [put_ne (by decide), put_ne (by decide)]; exact h.d7 v hv, fun v hv => by rw [put_ne (by decide), put_no (by omega)]; exact h.d8 v hv, fun v hv => by by_cases z : v = j; (subst z; rw [put_at, put_at]; exact e); (rw [put_no z, put_no (by omega)]; exact h.d9 v hv), fun v hv => by rw [put_ne (by decide), put_no (by omega)]; exact h.d10 v hv, by rw [put_ne (by decide), put_ne (by decide)]; exact h.e0, by rw [put_ne (by decide), put_ne (by decide)]; exact h.e1, by rw [put_ne (by decide), put_ne (by decide)]; exact h.e2, by rw [put_ne (by decide), put_ne (by decide)]; exact h.e3, fun v hv k hk => by rw [put_ne (by decide), put_ne (by decide)]; exact h.f0 v hv k hk⟩
theorem SimY.p40 {nv nc nf nl fl W : Nat} {y m : CT} {j : Nat} {x x' : Int32} (h : SimY nv nc nf nl fl W y m) (e : x = x') : SimY nv nc nf nl fl W (put y 40 j x) (put m 11 (3 * j + 2) x') := ⟨fun v hv k hk => by rw [put_ne (by decide), put_ne (by decide)]; exact h.s1 v hv k hk, fun v hv k hk => by rw [put_ne (by decide), put_ne (by decide)]; exact h.s2 v hv k hk, fun v hv k hk => by rw [put_ne (by decide), put_ne (by decide)]; exact h.s3 v hv k hk, fun v hv k hk => by rw [put_ne (by decide), put_ne (by decide)]; exact h.s4 v hv k hk, fun v hv => by rw [put_ne (by decide), put_ne (by decide)]; exact h.s5 v hv, by rw [put_ne (by decide), put_ne (by decide)]; exact h.s6, fun v hv => by rw [put_ne (by decide), show tnM fl (put m 11 (3 * j + 2) x') v = tnM fl m v from by simp only [tnM, put_ne (show (1 : Nat) ≠ 11 by decide)]]; exact h.s7 v hv, by rw [put_ne (by decide), put_ne (by decide)]; exact h.s8, by rw [put_ne (by decide), put_ne (by decide)]; exact h.s9, fun v hv => by rw [put_ne (by decide), put_ne (by decide)]; exact h.d1 v hv, fun v hv => by rw [put_ne (by decide), put_ne (by decide)]; exact h.d2 v hv, fun v hv => by rw [put_ne (by decide), put_ne (by decide)]; exact h.d3 v hv, fun v hv => by rw [put_ne (by decide), put_ne (by decide)]; exact h.d4 v hv, fun v hv => by rw [put_ne (by decide), put_ne (by decide)]; exact h.d5 v hv, fun v hv => by rw [put_ne (by decide), put_ne (by decide)]; exact h.d6 v hv, fun v hv => by rw [put_ne (by decide), put_ne (by decide)]; exact h.d7 v hv, fun v hv => by rw [put_ne (by decide), put_no (by omega)]; exact h.d8 v hv, fun v hv => by rw [put_ne (by decide), put_no (by omega)]; exact h.d9 v hv, fun v hv => by by_cases z : v = j; (subst z; rw [put_at, put_at]; exact e); (rw [put_no z, put_no (by omega)]; exact h.d10 v hv), by rw [put_ne (by decide), put_ne (by decide)]; exact h.e0, by rw [put_ne (by decide), put_ne (by decide)]; exact h.e1, by rw [put_ne (by decide), put_ne (by decide)]; exact h.e2, by rw [put_ne (by decide), put_ne (by decide)]; exact h.e3, fun v hv k hk => by rw [put_ne (by decide), put_ne (by decide)]; exact h.f0 v hv k hk⟩
theorem SimY.q16 {nv nc nf nl fl W : Nat} {y m : CT}  {x x' : Int32} (h : SimY nv nc nf nl fl W y m) (e : x = x') : SimY nv nc nf nl fl W (put y 28 16 x) (put m 0 (20) x') := ⟨fun v hv k hk => by rw [put_ne (by decide), put_ne (by decide)]; exact h.s1 v hv k hk, fun v hv k hk => by rw [put_ne (by decide), put_ne (by decide)]; exact h.s2 v hv k hk, fun v hv k hk => by rw [put_ne (by decide), put_ne (by decide)]; exact h.s3 v hv k hk, fun v hv k hk => by rw [put_ne (by decide), put_ne (by decide)]; exact h.s4 v hv k hk, fun v hv => by rw [put_ne (by decide), put_ne (by decide)]; exact h.s5 v hv, by rw [put_ne (by decide), put_ne (by decide)]; exact h.s6, fun v hv => by rw [put_ne (by decide), show tnM fl (put m 0 (20) x') v = tnM fl m v from by simp only [tnM, put_ne (show (1 : Nat) ≠ 0 by decide)]]; exact h.s7 v hv, by rw [put_no (by decide), put_ne (by decide)]; exact h.s8, by rw [put_no (by decide), put_no (by decide)]; exact h.s9, fun v hv => by rw [put_ne (by decide), put_ne (by decide)]; exact h.d1 v hv, fun v hv => by rw [put_ne (by decide), put_ne (by decide)]; exact h.d2 v hv, fun v hv => by rw [put_ne (by decide), put_ne (by decide)]; exact h.d3 v hv, fun v hv => by rw [put_ne (by decide), put_ne (by decide)]; exact h.d4 v hv, fun v hv => by rw [put_ne (by decide), put_ne (by decide)]; exact h.d5 v hv, fun v hv => by rw [put_ne (by decide), put_ne (by decide)]; exact h.d6 v hv, fun v hv => by rw [put_ne (by decide), put_ne (by decide)]; exact h.d7 v hv, fun v hv => by rw [put_ne (by decide), put_ne (by decide)]; exact h.d8 v hv, fun v hv => by rw [put_ne (by decide), put_ne (by decide)]; exact h.d9 v hv, fun v hv => by rw [put_ne (by decide), put_ne (by decide)]; exact h.d10 v hv, by rw [put_at, put_at]; exact e, by rw [put_no (by decide), put_no (by decide)]; exact h.e1, by rw [put_no (by decide), put_no (by decide)]; exact h.e2, by rw [put_no (by decide), put_no (by decide)]; exact h.e3, fun v hv k hk => by rw [put_ne (by decide), put_ne (by decide)]; exact h.f0 v hv k hk⟩
theorem SimY.q17 {nv nc nf nl fl W : Nat} {y m : CT}  {x x' : Int32} (h : SimY nv nc nf nl fl W y m) (e : x = x') : SimY nv nc nf nl fl W (put y 28 17 x) (put m 0 (21) x') := ⟨fun v hv k hk => by rw [put_ne (by decide), put_ne (by decide)]; exact h.s1 v hv k hk, fun v hv k hk => by rw [put_ne (by decide), put_ne (by decide)]; exact h.s2 v hv k hk, fun v hv k hk => by rw [put_ne (by decide), put_ne (by decide)]; exact h.s3 v hv k hk, fun v hv k hk => by rw [put_ne (by decide), put_ne (by decide)]; exact h.s4 v hv k hk, fun v hv => by rw [put_ne (by decide), put_ne (by decide)]; exact h.s5 v hv, by rw [put_ne (by decide), put_ne (by decide)]; exact h.s6, fun v hv => by rw [put_ne (by decide), show tnM fl (put m 0 (21) x') v = tnM fl m v from by simp only [tnM, put_ne (show (1 : Nat) ≠ 0 by decide)]]; exact h.s7 v hv, by rw [put_no (by decide), put_ne (by decide)]; exact h.s8, by rw [put_no (by decide), put_no (by decide)]; exact h.s9, fun v hv => by rw [put_ne (by decide), put_ne (by decide)]; exact h.d1 v hv, fun v hv => by rw [put_ne (by decide), put_ne (by decide)]; exact h.d2 v hv, fun v hv => by rw [put_ne (by decide), put_ne (by decide)]; exact h.d3 v hv, fun v hv => by rw [put_ne (by decide), put_ne (by decide)]; exact h.d4 v hv, fun v hv => by rw [put_ne (by decide), put_ne (by decide)]; exact h.d5 v hv, fun v hv => by rw [put_ne (by decide), put_ne (by decide)]; exact h.d6 v hv, fun v hv => by rw [put_ne (by decide), put_ne (by decide)]; exact h.d7 v hv, fun v hv => by rw [put_ne (by decide), put_ne (by decide)]; exact h.d8 v hv, fun v hv => by rw [put_ne (by decide), put_ne (by decide)]; exact h.d9 v hv, fun v hv => by rw [put_ne (by decide), put_ne (by decide)]; exact h.d10 v hv, by rw [put_no (by decide), put_no (by decide)]; exact h.e0, by rw [put_at, put_at]; exact e, by rw [put_no (by decide), put_no (by decide)]; exact h.e2, by rw [put_no (by decide), put_no (by decide)]; exact h.e3, fun v hv k hk => by rw [put_ne (by decide), put_ne (by decide)]; exact h.f0 v hv k hk⟩
theorem SimY.q18 {nv nc nf nl fl W : Nat} {y m : CT}  {x x' : Int32} (h : SimY nv nc nf nl fl W y m) (e : x = x') : SimY nv nc nf nl fl W (put y 28 18 x) (put m 0 (22) x') := ⟨fun v hv k hk => by rw [put_ne (by decide), put_ne (by decide)]; exact h.s1 v hv k hk, fun v hv k hk => by rw [put_ne (by decide), put_ne (by decide)]; exact h.s2 v hv k hk, fun v hv k hk => by rw [put_ne (by decide), put_ne (by decide)]; exact h.s3 v hv k hk, fun v hv k hk => by rw [put_ne (by decide), put_ne (by decide)]; exact h.s4 v hv k hk, fun v hv => by rw [put_ne (by decide), put_ne (by decide)]; exact h.s5 v hv, by rw [put_ne (by decide), put_ne (by decide)]; exact h.s6, fun v hv => by rw [put_ne (by decide), show tnM fl (put m 0 (22) x') v = tnM fl m v from by simp only [tnM, put_ne (show (1 : Nat) ≠ 0 by decide)]]; exact h.s7 v hv, by rw [put_no (by decide), put_ne (by decide)]; exact h.s8, by rw [put_no (by decide), put_no (by decide)]; exact h.s9, fun v hv => by rw [put_ne (by decide), put_ne (by decide)]; exact h.d1 v hv, fun v hv => by rw [put_ne (by decide), put_ne (by decide)]; exact h.d2 v hv, fun v hv => by rw [put_ne (by decide), put_ne (by decide)]; exact h.d3 v hv, fun v hv => by rw [put_ne (by decide), put_ne (by decide)]; exact h.d4 v hv, fun v hv => by rw [put_ne (by decide), put_ne (by decide)]; exact h.d5 v hv, fun v hv => by rw [put_ne (by decide), put_ne (by decide)]; exact h.d6 v hv, fun v hv => by rw [put_ne (by decide), put_ne (by decide)]; exact h.d7 v hv, fun v hv => by rw [put_ne (by decide), put_ne (by decide)]; exact h.d8 v hv, fun v hv => by rw [put_ne (by decide), put_ne (by decide)]; exact h.d9 v hv, fun v hv => by rw [put_ne (by decide), put_ne (by decide)]; exact h.d10 v hv, by rw [put_no (by decide), put_no (by decide)]; exact h.e0, by rw [put_no (by decide), put_no (by decide)]; exact h.e1, by rw [put_at, put_at]; exact e, by rw [put_no (by decide), put_no (by decide)]; exact h.e3, fun v hv k hk => by rw [put_ne (by decide), put_ne (by decide)]; exact h.f0 v hv k hk⟩
theorem SimY.q19 {nv nc nf nl fl W : Nat} {y m : CT}  {x x' : Int32} (h : SimY nv nc nf nl fl W y m) (e : x = x') : SimY nv nc nf nl fl W (put y 28 19 x) (put m 0 (23) x') := ⟨fun v hv k hk => by rw [put_ne (by decide), put_ne (by decide)]; exact h.s1 v hv k hk, fun v hv k hk => by rw [put_ne (by decide), put_ne (by decide)]; exact h.s2 v hv k hk, fun v hv k hk => by rw [put_ne (by decide), put_ne (by decide)]; exact h.s3 v hv k hk, fun v hv k hk => by rw [put_ne (by decide), put_ne (by decide)]; exact h.s4 v hv k hk, fun v hv => by rw [put_ne (by decide), put_ne (by decide)]; exact h.s5 v hv, by rw [put_ne (by decide), put_ne (by decide)]; exact h.s6, fun v hv => by rw [put_ne (by decide), show tnM fl (put m 0 (23) x') v = tnM fl m v from by simp only [tnM, put_ne (show (1 : Nat) ≠ 0 by decide)]]; exact h.s7 v hv, by rw [put_no (by decide), put_ne (by decide)]; exact h.s8, by rw [put_no (by decide), put_no (by decide)]; exact h.s9, fun v hv => by rw [put_ne (by decide), put_ne (by decide)]; exact h.d1 v hv, fun v hv => by rw [put_ne (by decide), put_ne (by decide)]; exact h.d2 v hv, fun v hv => by rw [put_ne (by decide), put_ne (by decide)]; exact h.d3 v hv, fun v hv => by rw [put_ne (by decide), put_ne (by decide)]; exact h.d4 v hv, fun v hv => by rw [put_ne (by decide), put_ne (by decide)]; exact h.d5 v hv, fun v hv => by rw [put_ne (by decide), put_ne (by decide)]; exact h.d6 v hv, fun v hv => by rw [put_ne (by decide), put_ne (by decide)]; exact h.d7 v hv, fun v hv => by rw [put_ne (by decide), put_ne (by decide)]; exact h.d8 v hv, fun v hv => by rw [put_ne (by decide), put_ne (by decide)]; exact h.d9 v hv, fun v hv => by rw [put_ne (by decide), put_ne (by decide)]; exact h.d10 v hv, by rw [put_no (by decide), put_no (by decide)]; exact h.e0, by rw [put_no (by decide), put_no (by decide)]; exact h.e1, by rw [put_no (by decide), put_no (by decide)]; exact h.e2, by rw [put_at, put_at]; exact e, fun v hv k hk => by rw [put_ne (by decide), put_ne (by decide)]; exact h.f0 v hv k hk⟩
theorem SimY.p31 {nv nc nf nl fl W w : Nat} {y m : CT} {j : Nat} {x : Int32} (h : SimY nv nc nf nl fl W y m) (hw : w < 30) : SimY nv nc nf nl fl W (put y 31 (j * 30 + w) x) (put m 8 (30 * j + w) x) := ⟨fun v hv k hk => by rw [put_ne (by decide), put_ne (by decide)]; exact h.s1 v hv k hk, fun v hv k hk => by rw [put_ne (by decide), put_ne (by decide)]; exact h.s2 v hv k hk, fun v hv k hk => by rw [put_ne (by decide), put_ne (by decide)]; exact h.s3 v hv k hk, fun v hv k hk => by rw [put_ne (by decide), put_ne (by decide)]; exact h.s4 v hv k hk, fun v hv => by rw [put_ne (by decide), put_ne (by decide)]; exact h.s5 v hv, by rw [put_ne (by decide), put_ne (by decide)]; exact h.s6, fun v hv => by rw [put_ne (by decide), show tnM fl (put m 8 (30 * j + w) x) v = tnM fl m v from by simp only [tnM, put_ne (show (1 : Nat) ≠ 8 by decide)]]; exact h.s7 v hv, by rw [put_ne (by decide), put_ne (by decide)]; exact h.s8, by rw [put_ne (by decide), put_ne (by decide)]; exact h.s9, fun v hv => by rw [put_ne (by decide), put_ne (by decide)]; exact h.d1 v hv, fun v hv => by rw [put_ne (by decide), put_ne (by decide)]; exact h.d2 v hv, fun v hv => by rw [put_ne (by decide), put_ne (by decide)]; exact h.d3 v hv, fun v hv => by rw [put_ne (by decide), put_ne (by decide)]; exact h.d4 v hv, fun v hv => by rw [put_ne (by decide), put_ne (by decide)]; exact h.d5 v hv, fun v hv => by rw [put_ne (by decide), put_ne (by decide)]; exact h.d6 v hv, fun v hv => by rw [put_ne (by decide), put_ne (by decide)]; exact h.d7 v hv, fun v hv => by rw [put_ne (by decide), put_ne (by decide)]; exact h.d8 v hv, fun v hv => by rw [put_ne (by decide), put_ne (by decide)]; exact h.d9 v hv, fun v hv => by rw [put_ne (by decide), put_ne (by decide)]; exact h.d10 v hv, by rw [put_ne (by decide), put_ne (by decide)]; exact h.e0, by rw [put_ne (by decide), put_ne (by decide)]; exact h.e1, by rw [put_ne (by decide), put_ne (by decide)]; exact h.e2, by rw [put_ne (by decide), put_ne (by decide)]; exact h.e3, fun v hv k hk => by by_cases z : v * 30 + k = j * 30 + w; (rw [z, show 30 * v + k = 30 * j + w by omega, put_at, put_at]); (rw [put_no z, put_no (by omega)]; exact h.f0 v hv k hk)⟩
theorem SimY.p41 {nv nc nf nl fl W : Nat} {y m : CT} {j : Nat} {x : Int32} (h : SimY nv nc nf nl fl W y m) : SimY nv nc nf nl fl W (put y 41 j x) m := ⟨fun v hv k hk => by rw [put_ne (by decide)]; exact h.s1 v hv k hk, fun v hv k hk => by rw [put_ne (by decide)]; exact h.s2 v hv k hk, fun v hv k hk => by rw [put_ne (by decide)]; exact h.s3 v hv k hk, fun v hv k hk => by rw [put_ne (by decide)]; exact h.s4 v hv k hk, fun v hv => by rw [put_ne (by decide)]; exact h.s5 v hv, by rw [put_ne (by decide)]; exact h.s6, fun v hv => by rw [put_ne (by decide)]; exact h.s7 v hv, by rw [put_ne (by decide)]; exact h.s8, by rw [put_ne (by decide)]; exact h.s9, fun v hv => by rw [put_ne (by decide)]; exact h.d1 v hv, fun v hv => by rw [put_ne (by decide)]; exact h.d2 v hv, fun v hv => by rw [put_ne (by decide)]; exact h.d3 v hv, fun v hv => by rw [put_ne (by decide)]; exact h.d4 v hv, fun v hv => by rw [put_ne (by decide)]; exact h.d5 v hv, fun v hv => by rw [put_ne (by decide)]; exact h.d6 v hv, fun v hv => by rw [put_ne (by decide)]; exact h.d7 v hv, fun v hv => by rw [put_ne (by decide)]; exact h.d8 v hv, fun v hv => by rw [put_ne (by decide)]; exact h.d9 v hv, fun v hv => by rw [put_ne (by decide)]; exact h.d10 v hv, by rw [put_ne (by decide)]; exact h.e0, by rw [put_ne (by decide)]; exact h.e1, by rw [put_ne (by decide)]; exact h.e2, by rw [put_ne (by decide)]; exact h.e3, fun v hv k hk => by rw [put_ne (by decide)]; exact h.f0 v hv k hk⟩
theorem SimY.room {nv nc nf nl fl W : Nat} {y m : CT} (h : SimY nv nc nf nl fl W y m) {v : Nat} (hv : v < nv) : roomF y v = roomM m v := by
  rw [roomF, roomM, h.d1 v hv, h.s1 v hv 0 (by decide)]
theorem SimY.more {nv nc nf nl fl W : Nat} {y m : CT} (h : SimY nv nc nf nl fl W y m) (x : Int32) : moreF y x = owedM m x := by
  rw [moreF, owedM, h.s8, Int32.sub_eq_add_neg, Int32.add_assoc]
  rfl
theorem SimY.note {nv nc nf nl fl W : Nat} {y m : CT} (h : SimY nv nc nf nl fl W y m) (w : Int32) : SimY nv nc nf nl fl W (noteF w y) (wrongM w m) := by
  rw [noteF, wrongM, h.e3]
  split
  · exact h.q19 rfl
  · exact h
theorem mn_assoc (a b c : Int32) : mn (mn a b) c = mn a (mn b c) := by
  have L : ∀ x y : Int32, x < y ↔ x.toInt < y.toInt := fun x y => Int32.lt_iff_toInt_lt
  simp only [mn]
  repeat' split
  all_goals first
    | rfl
    | (simp only [L] at *; exfalso; omega)
    | (simp only [L] at *; apply Int32.toInt_inj.mp; omega)
theorem take_sim {nv nc nf nl fl W i : Nat} {y m : CT} {w : Int32} (h : SimY nv nc nf nl fl W y m) (hT : TX y nv nf) (hi : i < nf) : SimY nv nc nf nl fl W (takeS w i y) (takeM fl w i m) := by
  unfold takeS takeM
  rw [← h.s7 i hi, ← h.s3 i hi 0 (by decide), ← h.s3 i hi 1 (by decide)]
  by_cases z : y 29 i = -1
  · rw [if_pos z, if_pos z]
    split
    · exact h
    · exact h
  · rw [if_neg z, if_neg z]
    by_cases z2 : y 12 (4 * i + 0) = w
    · rw [if_pos z2, if_pos z2]
      have hv := vp_tcl (hT i hi z)
      dsimp only
      rw [← h.room hv]
      generalize mn (y 12 (4 * i + 1)) (roomF y (tcl (y 29 i))) = q
      generalize tcl (y 29 i) = v at hv ⊢
      have h1 := h.p32 (j := i) (rfl : q = q)
      have a1 : put y 32 i q 32 i = q := put_at
      have b1 : put m 9 (3 * i + 0) q 9 (3 * i + 0) = q := put_at
      generalize put y 32 i q = y1 at h1 a1 ⊢
      generalize put m 9 (3 * i + 0) q = m1 at h1 b1 ⊢
      rw [a1, b1]
      have h2 := h1.p33 (j := i) (h1.more q)
      have a2 : put y1 33 i (moreF y1 q) 32 i = q := by rw [put_ne (by decide)]; exact a1
      have b2 : put m1 9 (3 * i + 1) (owedM m1 q) 9 (3 * i + 0) = q := by rw [put_no (by omega)]; exact b1
      generalize put y1 33 i (moreF y1 q) = y2 at h2 a2 ⊢
      generalize put m1 9 (3 * i + 1) (owedM m1 q) = m2 at h2 b2 ⊢
      rw [a2, b2]
      exact h2.p30 (by rw [h2.d1 _ hv])
    · rw [if_neg z2, if_neg z2]; exact h
theorem lend_sim {nv nc nf nl fl W i : Nat} {y m : CT} {w : Int32} (h : SimY nv nc nf nl fl W y m) (hL : vp_in (y 14 (5 * i + 0)) nv ∧ vp_in (y 14 (5 * i + 1)) nv) (hi : i < nl) : SimY nv nc nf nl fl W (lendS w i y) (lendM w i m) := by
  have ha := vp_tcl hL.1
  have hb := vp_tcl hL.2
  have eN : lendN m i = mn (mn (y 14 (5 * i + 2)) (y 30 (tcl (y 14 (5 * i + 0))))) (roomF y (tcl (y 14 (5 * i + 1)))) := by
    rw [lendN, mn_assoc, h.room hb, h.d1 _ ha, h.s4 i hi 0 (by decide), h.s4 i hi 1 (by decide), h.s4 i hi 2 (by decide)]
  unfold lendS lendM
  rw [eN, ← h.s4 i hi 0 (by decide), ← h.s4 i hi 1 (by decide), ← h.s4 i hi 3 (by decide), ← h.s9]
  split
  · split
    · exact h
    · dsimp only
      generalize mn (mn (y 14 (5 * i + 2)) (y 30 (tcl (y 14 (5 * i + 0))))) (roomF y (tcl (y 14 (5 * i + 1)))) = q
      generalize tcl (y 14 (5 * i + 0)) = v at ha ⊢
      generalize tcl (y 14 (5 * i + 1)) = t at hb ⊢
      have h1 := h.p35 (j := i) (rfl : q = q)
      have a1 : put y 35 i q 35 i = q := put_at
      generalize put y 35 i q = y1 at h1 a1 ⊢
      generalize put m 10 (3 * i + 0) q = m1 at h1 ⊢
      rw [a1]
      have h2 := h1.p36 (j := i) (h1.more q)
      have a2 : put y1 36 i (moreF y1 q) 35 i = q := by rw [put_ne (by decide)]; exact a1
      generalize put y1 36 i (moreF y1 q) = y2 at h2 a2 ⊢
      generalize put m1 10 (3 * i + 1) (owedM m1 q) = m2 at h2 ⊢
      rw [a2]
      have h3 := h2.p30 (j := v) (x := y2 30 v - q) (x' := m2 7 v - q) (by rw [h2.d1 _ ha])
      have a3 : put y2 30 v (y2 30 v - q) 35 i = q := by rw [put_ne (by decide)]; exact a2
      generalize put y2 30 v (y2 30 v - q) = y3 at h3 a3 ⊢
      generalize put m2 7 v (m2 7 v - q) = m3 at h3 ⊢
      rw [a3]
      exact h3.p30 (by rw [h3.d1 _ hb])
  · exact h
theorem repay_sim {nv nc nf nl fl W i : Nat} {y m : CT} {w : Int32} (h : SimY nv nc nf nl fl W y m) (hL : vp_in (y 14 (5 * i + 0)) nv ∧ vp_in (y 14 (5 * i + 1)) nv) (hi : i < nl) : SimY nv nc nf nl fl W (repayS w i y) (repayM w i m) := by
  have ha := vp_tcl hL.1
  have hb := vp_tcl hL.2
  have eN : repayN m i = mn (mn (y 36 i) (y 30 (tcl (y 14 (5 * i + 1))))) (roomF y (tcl (y 14 (5 * i + 0)))) := by
    rw [repayN, mn_assoc, h.room ha, h.d1 _ hb, h.s4 i hi 0 (by decide), h.s4 i hi 1 (by decide), h.d6 i hi]
  unfold repayS repayM
  rw [eN, ← h.s4 i hi 0 (by decide), ← h.s4 i hi 1 (by decide), ← h.s4 i hi 4 (by decide)]
  split
  · dsimp only
    generalize mn (mn (y 36 i) (y 30 (tcl (y 14 (5 * i + 1))))) (roomF y (tcl (y 14 (5 * i + 0)))) = q
    generalize tcl (y 14 (5 * i + 0)) = v at ha ⊢
    generalize tcl (y 14 (5 * i + 1)) = t at hb ⊢
    have h1 := h.p37 (j := i) (rfl : q = q)
    have a1 : put y 37 i q 37 i = q := put_at
    generalize put y 37 i q = y1 at h1 a1 ⊢
    generalize put m 10 (3 * i + 2) q = m1 at h1 ⊢
    rw [a1]
    have h2 := h1.p30 (j := t) (x := y1 30 t - q) (x' := m1 7 t - q) (by rw [h1.d1 _ hb])
    have a2 : put y1 30 t (y1 30 t - q) 37 i = q := by rw [put_ne (by decide)]; exact a1
    generalize put y1 30 t (y1 30 t - q) = y2 at h2 a2 ⊢
    generalize put m1 7 t (m1 7 t - q) = m2 at h2 ⊢
    rw [a2]
    have h3 := h2.p30 (j := v) (x := y2 30 v + q) (x' := m2 7 v + q) (by rw [h2.d1 _ ha])
    have a3 : put y2 30 v (y2 30 v + q) 37 i = q := by rw [put_ne (by decide)]; exact a2
    generalize put y2 30 v (y2 30 v + q) = y3 at h3 a3 ⊢
    generalize put m2 7 v (m2 7 v + q) = m3 at h3 ⊢
    rw [a3, h3.d6 i hi]
    split
    · exact h3
    · exact h3.note w
  · exact h
theorem give_sim {nv nc nf nl fl W i : Nat} {y m : CT} {w : Int32} (h : SimY nv nc nf nl fl W y m) (hT : TX y nv nf) (hi : i < nf) (hz : ¬ y 29 i = -1 → w < y 12 (4 * i + 0) → y 33 i = 0 ∧ y 34 i = 0 ∧ ¬ y 30 (tcl (y 29 i)) < 0) : SimY nv nc nf nl fl W (giveS w i y) (giveM fl w i m) := by
  unfold giveS giveM giveN
  rw [← h.s7 i hi, ← h.s3 i hi 0 (by decide)]
  by_cases z : y 29 i = -1
  · rw [if_pos z, if_pos z]; exact h
  · rw [if_neg z, if_neg z]
    have hv := vp_tcl (hT i hi z)
    have hz := hz z
    generalize tcl (y 29 i) = v at hv hz ⊢
    by_cases z2 : w < y 12 (4 * i + 0)
    · rw [if_pos z2]
      obtain ⟨e1, e2, e3⟩ := hz z2
      dsimp only
      have e4 : mn (y 33 i) (y 30 v) = 0 := by rw [mn, e1, if_neg e3]
      rw [e4]
      have e5 : put y 34 i 0 = y := by
        have := put_self y 34 i
        rw [e2] at this
        exact this
      rw [e5, e2, Int32.sub_zero, put_self, e1, if_pos (show (0 : Int32) ≤ y 34 i by rw [e2]; decide)]
      exact h
    · rw [if_neg z2]
      dsimp only
      rw [← h.d1 _ hv, ← h.d3 i hi]
      generalize mn (y 33 i) (y 30 v) = q
      have h1 := h.p34 (j := i) (rfl : q = q)
      have a1 : put y 34 i q 34 i = q := put_at
      generalize put y 34 i q = y1 at h1 a1 ⊢
      generalize put m 9 (3 * i + 2) q = m1 at h1 ⊢
      rw [a1]
      have h2 := h1.p30 (j := v) (x := y1 30 v - q) (x' := m1 7 v - q) (by rw [h1.d1 _ hv])
      have a2 : put y1 30 v (y1 30 v - q) 34 i = q := by rw [put_ne (by decide)]; exact a1
      generalize put y1 30 v (y1 30 v - q) = y2 at h2 a2 ⊢
      generalize put m1 7 v (m1 7 v - q) = m2 at h2 ⊢
      rw [a2, h2.d3 i hi]
      split
      · exact h2
      · exact h2.note w
theorem drink_sim {nv nc nf nl fl W i : Nat} {y m : CT} {w : Int32} (h : SimY nv nc nf nl fl W y m) (hC : vp_in (y 10 (5 * i + 0)) nv) (hd : (y 39 i = 0 ↔ y 40 i = -1)) (hi : i < nc) : SimY nv nc nf nl fl W (drinkS w i y) (drinkM w i m) := by
  have hv := vp_tcl hC
  unfold drinkS drinkM
  rw [← h.s2 i hi 0 (by decide), ← h.s2 i hi 1 (by decide), ← h.s2 i hi 3 (by decide), ← h.s2 i hi 4 (by decide), ← h.d1 _ hv]
  by_cases z1 : w < y 10 (5 * i + 3)
  · rw [if_pos z1, if_pos (by rw [inL, if_pos (Or.inl (i64_lt.mpr z1))])]; exact h
  · by_cases z2 : y 10 (5 * i + 4) < w
    · rw [if_neg z1, if_pos z2, if_pos (by rw [inL, if_pos (Or.inr (i64_lt.mpr z2))])]; exact h
    · have e9 : ¬ inL w.toInt64 (y 10 (5 * i + 3)).toInt64 (y 10 (5 * i + 4)).toInt64 = 0 := by
        rw [inL, if_neg (fun q => q.elim (fun q => z1 (i64_lt.mp q)) (fun q => z2 (i64_lt.mp q)))]; decide
      rw [if_neg z1, if_neg z2, if_neg e9]
      split
      · unfold dryF dryM
        dsimp only
        have h1 : SimY nv nc nf nl fl W (put (if y 39 i = 0 then put y 40 i w else y) 39 i ((if y 39 i = 0 then put y 40 i w else y) 39 i + 1)) (put (put m 11 (3 * i + 1) (m 11 (3 * i + 1) + 1)) 11 (3 * i + 2) (fdM w ((put m 11 (3 * i + 1) (m 11 (3 * i + 1) + 1)) 11 (3 * i + 2)))) := by
          rw [put_no (show 3 * i + 2 ≠ 3 * i + 1 by omega)]
          by_cases z : y 39 i = 0
          · rw [if_pos z]
            have e2 := hd.mp z
            have e3 : fdM w (m 11 (3 * i + 2)) = w := by rw [fdM, if_pos ((h.d10 i hi).symm.trans e2)]
            rw [e3]
            have h2 := (h.p39 (j := i) (x := y 39 i + 1) (by rw [h.d9 i hi])).p40 (j := i) (rfl : w = w)
            have e4 : put (put y 40 i w) 39 i ((put y 40 i w) 39 i + 1) = put (put y 39 i (y 39 i + 1)) 40 i w := by
              funext l j
              rw [put_ne (show (39 : Nat) ≠ 40 by decide)]
              by_cases a : l = 39
              · subst a; simp [put]
              · by_cases b : l = 40
                · subst b; simp [put]
                · simp [put, a, b]
            rw [e4]
            exact h2
          · rw [if_neg z]
            have e2 : ¬ y 40 i = -1 := fun q => z (hd.mpr q)
            have e3 : fdM w (m 11 (3 * i + 2)) = m 11 (3 * i + 2) := by rw [fdM, if_neg (fun q => e2 ((h.d10 i hi).trans q))]
            rw [e3, show put (put m 11 (3 * i + 1) (m 11 (3 * i + 1) + 1)) 11 (3 * i + 2) (m 11 (3 * i + 2)) = put m 11 (3 * i + 1) (m 11 (3 * i + 1) + 1) from by
              rw [← put_no (c := m) (k := 11) (i := 3 * i + 1) (v := m 11 (3 * i + 1) + 1) (show 3 * i + 2 ≠ 3 * i + 1 by omega)]; exact put_self _ _ _]
            exact h.p39 (by rw [h.d9 i hi])
        exact SimY.note (h1.p41) w
      · dsimp only
        generalize tcl (y 10 (5 * i + 0)) = v at hv ⊢
        generalize hD : y 10 (5 * i + 1) = D
        have h1 := h.p30 (j := v) (rfl : y 30 v - D = _)
        generalize put y 30 v (y 30 v - D) = y1 at h1 ⊢
        generalize put m 7 v (y 30 v - D) = m1 at h1 ⊢
        have h2 := h1.q18 (x := y1 28 18 + D) (x' := m1 0 22 + D) (by rw [h1.e2])
        generalize put y1 28 18 (y1 28 18 + D) = y2 at h2 ⊢
        generalize put m1 0 22 (m1 0 22 + D) = m2 at h2 ⊢
        exact h2.p38 (by rw [h2.d8 i hi, h2.s2 i hi 2 (by decide)])
theorem sky_sim {nv nc nf nl fl W i w : Nat} {y m : CT} (h : SimY nv nc nf nl fl W y m) (hw : w < 30) (hi : i < nv) : SimY nv nc nf nl fl W (skyS (y 15 w) i y) (skyM (m 1 (78 + w)) i m) := by
  unfold skyS skyM skyN
  dsimp only
  have e : mn (y 30 i) (y 8 (5 * i + 2) * y 15 w / 100) = mn (m 7 i) (m 1 (8 + 5 * i + 2) * m 1 (78 + w) / 100) := by rw [h.d1 i hi, h.s1 i hi 2 (by decide), h.s5 w hw]
  rw [← e, ← h.d1 i hi]
  generalize mn (y 30 i) (y 8 (5 * i + 2) * y 15 w / 100) = q
  have h1 := h.p30 (j := i) (rfl : y 30 i - q = _)
  generalize put y 30 i (y 30 i - q) = y1 at h1 ⊢
  generalize put m 7 i (y 30 i - q) = m1 at h1 ⊢
  exact h1.q16 (by rw [h1.e0])
theorem seep_sim {nv nc nf nl fl W i : Nat} {y m : CT} (h : SimY nv nc nf nl fl W y m) (hi : i < nv) (hr : ∀ q : Int32, mn (mn (y 30 i) (y 8 (5 * i + 3))) (roomF y (i + 1)) = q → i + 1 < nv → q ≤ 0 → q = 0) : SimY nv nc nf nl fl W (seepS nv i y) (seepM nv i m) := by
  unfold seepS seepM lostN
  dsimp only
  rw [← h.d1 i hi, ← h.s1 i hi 3 (by decide)]
  generalize mn (y 30 i) (y 8 (5 * i + 3)) = l at hr ⊢
  by_cases z : i + 1 < nv
  · rw [if_pos z, if_neg (by omega)]
    have er : roomM (put m 7 i (y 30 i - l)) (i + 1) = roomF y (i + 1) := by
      rw [h.room z, roomM, roomM, put_ne (by decide), put_no (by omega)]
    rw [er]
    have hq := hr _ rfl z
    generalize mn l (roomF y (i + 1)) = q at hq ⊢
    have h1 := h.p30 (j := i) (rfl : y 30 i - l = _)
    generalize put y 30 i (y 30 i - l) = y1 at h1 ⊢
    generalize put m 7 i (y 30 i - l) = m1 at h1 ⊢
    by_cases z2 : q ≤ 0
    · rw [if_pos z2]
      have e0 := hq z2
      subst e0
      rw [Int32.add_zero, put_self]
      exact h1.q17 (by rw [h1.e1])
    · rw [if_neg z2]
      have h2 := h1.p30 (j := i + 1) (x := y1 30 (i + 1) + q) (x' := m1 7 (i + 1) + q) (by rw [h1.d1 _ z])
      generalize put y1 30 (i + 1) (y1 30 (i + 1) + q) = y2 at h2 ⊢
      generalize put m1 7 (i + 1) (m1 7 (i + 1) + q) = m2 at h2 ⊢
      exact h2.q17 (by rw [h2.e1])
  · rw [if_neg z, if_pos (by omega)]
    have h1 := h.p30 (j := i) (rfl : y 30 i - l = _)
    generalize put y 30 i (y 30 i - l) = y1 at h1 ⊢
    generalize put m 7 i (y 30 i - l) = m1 at h1 ⊢
    exact h1.q17 (by rw [h1.e1])
theorem wb_sim {nv nc nf nl fl W i w : Nat} {y m : CT} (h : SimY nv nc nf nl fl W y m) (hw : w < 30) (hi : i < nv) : SimY nv nc nf nl fl W (wbS w i y) (wbM w i m) := by
  unfold wbS wbM
  rw [← h.d1 i hi]
  exact h.p31 hw