/-! THE REFERENCE's TOKENS -/
def myF (m : CT) (i : Nat) : Int32 := if m 0 7 ≤ nI i then -1 else m 4 i &&& 255
def SMt (m y : CT) : Prop := (∀ l, l ≠ 0 → y l = m l) ∧ ∀ j, j ≠ 8 → j ≠ 9 → j ≠ 10 → j ≠ 11 → y 0 j = m 0 j
theorem SMt.rf {m : CT} : SMt m m := ⟨fun _ _ => rfl, fun _ _ _ _ _ => rfl⟩
theorem SMt.tr {a b c : CT} (h : SMt a b) (h2 : SMt b c) : SMt a c := ⟨fun l x => (h2.1 l x).trans (h.1 l x), fun j x y z w => (h2.2 j x y z w).trans (h.2 j x y z w)⟩
theorem SMt.put {a b : CT} {i : Nat} {v : Int32} (h : SMt a b) (hi : i = 8 ∨ i = 9 ∨ i = 10 ∨ i = 11) : SMt a (put b 0 i v) := ⟨fun l x => by rw [put_ne x]; exact h.1 l x, fun j x y z w => by rw [put_no (by omega)]; exact h.2 j x y z w⟩
theorem SMt.f {a b : CT} (h : SMt a b) : myF b = myF a := by
  funext i
  unfold myF
  rw [h.2 7 (by decide) (by decide) (by decide) (by decide), h.1 4 (by decide)]
/-- the reference looks at the TOKEN that begins at p, or behind blanks from there -/
def LK (L : Nat) (f : Nat → Int32) (p : Nat) (m : CT) : Prop := m 0 7 = nI L ∧ L ≤ 1600 ∧ p ≤ L ∧ myF m = f ∧ m 0 10 = tkK f (tkS f L p) ∧ m 0 9 = nI (tkS f L p) ∧ m 0 8 = nI (tkE f L (tkS f L p)) ∧ (tkK f (tkS f L p) = 2 → m 0 11 = tkV f 99999 L (tkS f L p))
theorem myF_L {L : Nat} {m : CT} (h : m 0 7 = nI L) : myF m L = -1 := by rw [myF, h, if_pos (Int32.le_refl _)]
theorem see_no {x : Int32} : ¬ (x &&& 255) = -1 := fun h => by
  have := congrArg (fun z => z &&& (256 : Int32)) h
  simp only [Int32.and_assoc] at this
  exact absurd this (by
    show ¬ x &&& (255 &&& 256) = -1 &&& 256
    rw [show (255 : Int32) &&& 256 = 0 by decide, show (-1 : Int32) &&& 256 = 256 by decide, Int32.and_zero]
    decide)
theorem myF_lt {L i : Nat} {m : CT} (h : m 0 7 = nI L) (hL : L ≤ 1600) (hi : i < L) : myF m i = m 4 i &&& 255 := by rw [myF, h, if_neg (nI_ge hi (by omega))]
theorem myF_ge {L i : Nat} {m : CT} (h : m 0 7 = nI L) (hi : L ≤ i) (h2 : i < 2 ^ 31) : myF m i = -1 := by rw [myF, h, if_pos (nI_le hi h2)]
theorem in_lt {x : Int32} : inL x.toInt64 97 122 = if x < 97 ∨ 122 < x then 0 else 1 := by
  have e1 : (x.toInt64 < 97) ↔ x < 97 := i64_lt (y := 97)
  have e2 : ((122 : Int64) < x.toInt64) ↔ 122 < x := i64_lt (x := 122)
  simp only [inL, e1, e2]
theorem in_dg {x : Int32} : inL x.toInt64 48 57 = if x < 48 ∨ 57 < x then 0 else 1 := by
  have e1 : (x.toInt64 < 48) ↔ x < 48 := i64_lt (y := 48)
  have e2 : ((57 : Int64) < x.toInt64) ↔ 57 < x := i64_lt (x := 57)
  simp only [inL, e1, e2]
theorem k_see (G : GX) {b : Nat} {m : CT} {ml : Nat → Nat → Int64} {r : Nat → Option AE} {n : Nat} {L i : Nat} (h7 : m 0 7 = nI L) (hL : L ≤ 1600) (hi : i ≤ 1600) : MA G 0 yX10_see cX10_see 2 (some .int) 0 0 [.ref b, .int (nI i)] (HM b m ml r n) (qI fun x9 h1 => x9 = myF m i ∧ h1 = HM b m ml r n) := by
  refine MA.of (own := RX10) false [some (.ref b), some (.int (nI i))] (by decide +kernel) rfl (fun h => by cases h) (Nat.le_of_ble_eq_true rfl) rfl (fun X => ?_)
  refine A_iload_n dX10_see_0 rfl rfl ?_
  refine A_aload_n dX10_see_1 rfl rfl ?_
  refine A_get dX10_see_2 f_X10_100 HM_at0 rfl ?_
  refine A_icmp_ge 21 dX10_see_5 (by decide) (fun c5 => ?_) (fun c5 => ?_)
  · refine A_iconst (v := (-1)) dX10_see_21 (by decide) ?_
    exact A_iret dX10_see_22 ⟨by rw [myF, if_pos c5], rfl⟩ ⟨by decide, by decide⟩
  · refine A_aload_n dX10_see_8 rfl rfl ?_
    refine A_get dX10_see_9 f_X10_20 HM_at0 rfl ?_
    refine A_iload_n dX10_see_12 rfl rfl ?_
    have hiL : i < L := by rcases Nat.lt_or_ge i L with z | z; exact z; exact absurd (by rw [h7]; exact nI_le z (by omega)) c5
    refine A_baldN dX10_see_13 (HM_at (by decide)) (by omega) (by decide) ?_
    refine A_sipush (v := 255) dX10_see_14 (by decide) ?_
    refine A_iand dX10_see_17 ?_
    refine A_goto 22 dX10_see_18 (by decide) ?_
    exact A_iret dX10_see_22 ⟨by rw [myF, if_neg c5], rfl⟩ ⟨by decide, by decide⟩

theorem ad_w1 (G : GX) (X : XC) {b : Nat} {m : CT} {ml : Nat → Nat → Int64} {r : Nat → Option AE} {n L p q : Nat} {f : Nat → Int32} (hL : L ≤ 1600) (hp : p ≤ L) (hfL : f L = -1) (hge : ∀ i, L ≤ i → i ≤ 1600 → f i = -1) (hq0 : tkS f L p = q) {c0 : Int32} (k0 : ¬ f q = -1) (k1 : ¬ (f q < 97 ∨ 122 < f q)) : ∀ (k i : Nat) (y : CT), i + k = L → q ≤ i → wdN f (L - q) q = wdN f k i → SMt m y → y 0 7 = nI L → myF y = f → y 0 8 = nI i → y 0 9 = nI q → WA X G RX10 cX10_advance false none (qV fun h1 => ∃ m1, h1 = HM b m1 ml r n ∧ SMt m m1 ∧ LK L f p m1) 1 0 0 (HM b y ml r n) 0 0 83 [some (.ref b), some (.int c0)] [] := by
  intro k
  induction k with
  | zero =>
    intro i y hk hqi hT hS hy7 hyf hy8 hy9
    have e9 : i = L := by omega
    subst e9
    refine A_aload_n dX10_advance_83 rfl rfl ?_
    refine A_aload_n dX10_advance_84 rfl rfl ?_
    refine A_get dX10_advance_85 f_X10_103 HM_at0 rfl ?_
    refine A_eqI (y := nI i) hy8 ?_
    refine A_callVi dX10_advance_88 m_X10_106 cb_X10_see (As := [_]) rfl HM_at0 rfl (k_see G hy7 hL (by omega)) rfl ⟨by decide, by decide⟩ (Nat.le_of_ble_eq_true rfl) ⟨by decide, by decide⟩ (fun x88 h88 hq => ?_)
    obtain ⟨rfl, rfl⟩ := hq
    rw [hyf]
    refine A_i2l dX10_advance_91 ?_
    refine A_ldc2 dX10_advance_92 w_1323 ?_
    refine A_ldc2 dX10_advance_95 w_1324 ?_
    refine A_callSi dX10_advance_98 m_X10_85 cb_X10_in (As := [_, _, _]) rfl (k_in G) rfl ⟨by decide, by decide⟩ (Nat.le_of_ble_eq_true rfl) ⟨by decide, by decide⟩ (fun x98 h98 hq => ?_)
    obtain ⟨rfl, rfl⟩ := hq
    refine A_eqI in_lt ?_
    refine A_if_eq 117 dX10_advance_101 (by decide) (fun c101 => ?_) (fun c101 => ?_)
    · refine A_aload_n dX10_advance_117 rfl rfl ?_
      refine A_iconst (v := 1) dX10_advance_118 (by decide) ?_
      refine A_putM0 dX10_advance_119 p_X10_113 rfl (Nat.le_of_ble_eq_true rfl) rfl ?_
      refine A_goto 239 dX10_advance_122 (by decide) ?_
      exact A_vret dX10_advance_239 ⟨_, rfl, hS.put (by decide), by rw [put_no (by decide)]; exact hy7, hL, hp, by rw [(SMt.rf (m := y)).put (by decide) |>.f]; exact hyf, by rw [hq0, put_at, tkK, if_neg k0, if_pos k1], by rw [hq0, put_no (by decide)]; exact hy9, by rw [hq0, put_no (by decide), tkE, if_neg k0, if_pos k1, hT]; exact hy8, fun z => by rw [hq0, tkK, if_neg k0, if_pos k1] at z; exact absurd z (by decide)⟩ ⟨by decide, by decide⟩
    · exact absurd (by rw [hfL]; decide) c101
  | succ k ih =>
    intro i y hk hqi hT hS hy7 hyf hy8 hy9
    refine A_aload_n dX10_advance_83 rfl rfl ?_
    refine A_aload_n dX10_advance_84 rfl rfl ?_
    refine A_get dX10_advance_85 f_X10_103 HM_at0 rfl ?_
    refine A_eqI (y := nI i) hy8 ?_
    refine A_callVi dX10_advance_88 m_X10_106 cb_X10_see (As := [_]) rfl HM_at0 rfl (k_see G hy7 hL (by omega)) rfl ⟨by decide, by decide⟩ (Nat.le_of_ble_eq_true rfl) ⟨by decide, by decide⟩ (fun x88 h88 hq => ?_)
    obtain ⟨rfl, rfl⟩ := hq
    rw [hyf]
    refine A_i2l dX10_advance_91 ?_
    refine A_ldc2 dX10_advance_92 w_1323 ?_
    refine A_ldc2 dX10_advance_95 w_1324 ?_
    refine A_callSi dX10_advance_98 m_X10_85 cb_X10_in (As := [_, _, _]) rfl (k_in G) rfl ⟨by decide, by decide⟩ (Nat.le_of_ble_eq_true rfl) ⟨by decide, by decide⟩ (fun x98 h98 hq => ?_)
    obtain ⟨rfl, rfl⟩ := hq
    refine A_eqI in_lt ?_
    refine A_if_eq 117 dX10_advance_101 (by decide) (fun c101 => ?_) (fun c101 => ?_)
    · refine A_aload_n dX10_advance_117 rfl rfl ?_
      refine A_iconst (v := 1) dX10_advance_118 (by decide) ?_
      refine A_putM0 dX10_advance_119 p_X10_113 rfl (Nat.le_of_ble_eq_true rfl) rfl ?_
      refine A_goto 239 dX10_advance_122 (by decide) ?_
      exact A_vret dX10_advance_239 ⟨_, rfl, hS.put (by decide), by rw [put_no (by decide)]; exact hy7, hL, hp, by rw [(SMt.rf (m := y)).put (by decide) |>.f]; exact hyf, by rw [hq0, put_at, tkK, if_neg k0, if_pos k1], by rw [hq0, put_no (by decide)]; exact hy9, by rw [hq0, put_no (by decide), tkE, if_neg k0, if_pos k1, hT]; rw [wdN, if_pos (by by_cases w : f i < 97 ∨ 122 < f i; exact w; rw [if_neg w] at c101; exact absurd c101 (by decide))]; exact hy8, fun z => by rw [hq0, tkK, if_neg k0, if_pos k1] at z; exact absurd z (by decide)⟩ ⟨by decide, by decide⟩
    · refine A_aload_n dX10_advance_104 rfl rfl ?_
      refine A_dup dX10_advance_105 rfl ?_
      refine A_get dX10_advance_106 f_X10_103 HM_at0 rfl ?_
      refine A_eqI (y := nI i) hy8 ?_
      refine A_iconst (v := 1) dX10_advance_109 (by decide) ?_
      refine A_iadd dX10_advance_110 ?_
      refine A_putM0 dX10_advance_111 p_X10_103 rfl (Nat.le_of_ble_eq_true rfl) rfl ?_
      refine A_goto 83 dX10_advance_114 (by decide) ?_
      have hw : ¬ (f i < 97 ∨ 122 < f i) := fun w => c101 (if_pos w)
      rw [nI_1]
      exact ih (i + 1) _ (by omega) (by omega) (by rw [hT, wdN, if_neg hw]) (hS.put (by decide)) (by rw [put_no (by decide)]; exact hy7) (by rw [(SMt.rf (m := y)).put (by decide) |>.f]; exact hyf) put_at (by rw [put_no (by decide)]; exact hy9)

theorem ad_w2 (G : GX) (X : XC) {b : Nat} {m : CT} {ml : Nat → Nat → Int64} {r : Nat → Option AE} {n L p q : Nat} {f : Nat → Int32} (hL : L ≤ 1600) (hp : p ≤ L) (hfL : f L = -1) (hge : ∀ i, L ≤ i → i ≤ 1600 → f i = -1) (hq0 : tkS f L p = q) {c0 : Int32} (k0 : ¬ f q = -1) (k1 : f q < 97 ∨ 122 < f q) (k2 : ¬ (f q < 48 ∨ 57 < f q)) : ∀ (k i : Nat) (y : CT), i + k = L → q ≤ i → dgN f (L - q) q = dgN f k i → vlN f 99999 (L - q) q 0 = vlN f 99999 k i (y 0 11) → SMt m y → y 0 7 = nI L → myF y = f → y 0 8 = nI i → y 0 9 = nI q → WA X G RX10 cX10_advance false none (qV fun h1 => ∃ m1, h1 = HM b m1 ml r n ∧ SMt m m1 ∧ LK L f p m1) 1 0 0 (HM b y ml r n) 0 0 144 [some (.ref b), some (.int c0)] [] := by
  intro k
  induction k with
  | zero =>
    intro i y hk hqi hT hV hS hy7 hyf hy8 hy9
    have e9 : i = L := by omega
    subst e9
    refine A_aload_n dX10_advance_144 rfl rfl ?_
    refine A_aload_n dX10_advance_145 rfl rfl ?_
    refine A_get dX10_advance_146 f_X10_103 HM_at0 rfl ?_
    refine A_eqI (y := nI i) hy8 ?_
    refine A_callVi dX10_advance_149 m_X10_106 cb_X10_see (As := [_]) rfl HM_at0 rfl (k_see G hy7 hL (by omega)) rfl ⟨by decide, by decide⟩ (Nat.le_of_ble_eq_true rfl) ⟨by decide, by decide⟩ (fun x149 h149 hq => ?_)
    obtain ⟨rfl, rfl⟩ := hq
    rw [hyf]
    refine A_i2l dX10_advance_152 ?_
    refine A_ldc2 dX10_advance_153 w_1325 ?_
    refine A_ldc2 dX10_advance_156 w_1326 ?_
    refine A_callSi dX10_advance_159 m_X10_85 cb_X10_in (As := [_, _, _]) rfl (k_in G) rfl ⟨by decide, by decide⟩ (Nat.le_of_ble_eq_true rfl) ⟨by decide, by decide⟩ (fun x159 h159 hq => ?_)
    obtain ⟨rfl, rfl⟩ := hq
    refine A_eqI in_dg ?_
    refine A_if_eq 206 dX10_advance_162 (by decide) (fun c162 => ?_) (fun c162 => ?_)
    · refine A_aload_n dX10_advance_206 rfl rfl ?_
      refine A_iconst (v := 2) dX10_advance_207 (by decide) ?_
      refine A_putM0 dX10_advance_208 p_X10_113 rfl (Nat.le_of_ble_eq_true rfl) rfl ?_
      refine A_goto 239 dX10_advance_211 (by decide) ?_
      exact A_vret dX10_advance_239 ⟨_, rfl, hS.put (by decide), by rw [put_no (by decide)]; exact hy7, hL, hp, by rw [(SMt.rf (m := y)).put (by decide) |>.f]; exact hyf, by rw [hq0, put_at, tkK, if_neg k0, if_neg (fun w => w k1), if_pos k2], by rw [hq0, put_no (by decide)]; exact hy9, by rw [hq0, put_no (by decide), tkE, if_neg k0, if_neg (fun w => w k1), if_pos k2, hT]; exact hy8, fun _ => by rw [hq0, put_no (by decide), tkV, hV]; rfl⟩ ⟨by decide, by decide⟩
    · exact absurd (by rw [hfL]; decide) c162
  | succ k ih =>
    intro i y hk hqi hT hV hS hy7 hyf hy8 hy9
    refine A_aload_n dX10_advance_144 rfl rfl ?_
    refine A_aload_n dX10_advance_145 rfl rfl ?_
    refine A_get dX10_advance_146 f_X10_103 HM_at0 rfl ?_
    refine A_eqI (y := nI i) hy8 ?_
    refine A_callVi dX10_advance_149 m_X10_106 cb_X10_see (As := [_]) rfl HM_at0 rfl (k_see G hy7 hL (by omega)) rfl ⟨by decide, by decide⟩ (Nat.le_of_ble_eq_true rfl) ⟨by decide, by decide⟩ (fun x149 h149 hq => ?_)
    obtain ⟨rfl, rfl⟩ := hq
    rw [hyf]
    refine A_i2l dX10_advance_152 ?_
    refine A_ldc2 dX10_advance_153 w_1325 ?_
    refine A_ldc2 dX10_advance_156 w_1326 ?_
    refine A_callSi dX10_advance_159 m_X10_85 cb_X10_in (As := [_, _, _]) rfl (k_in G) rfl ⟨by decide, by decide⟩ (Nat.le_of_ble_eq_true rfl) ⟨by decide, by decide⟩ (fun x159 h159 hq => ?_)
    obtain ⟨rfl, rfl⟩ := hq
    refine A_eqI in_dg ?_
    refine A_if_eq 206 dX10_advance_162 (by decide) (fun c162 => ?_) (fun c162 => ?_)
    · refine A_aload_n dX10_advance_206 rfl rfl ?_
      refine A_iconst (v := 2) dX10_advance_207 (by decide) ?_
      refine A_putM0 dX10_advance_208 p_X10_113 rfl (Nat.le_of_ble_eq_true rfl) rfl ?_
      refine A_goto 239 dX10_advance_211 (by decide) ?_
      exact A_vret dX10_advance_239 ⟨_, rfl, hS.put (by decide), by rw [put_no (by decide)]; exact hy7, hL, hp, by rw [(SMt.rf (m := y)).put (by decide) |>.f]; exact hyf, by rw [hq0, put_at, tkK, if_neg k0, if_neg (fun w => w k1), if_pos k2], by rw [hq0, put_no (by decide)]; exact hy9, by rw [hq0, put_no (by decide), tkE, if_neg k0, if_neg (fun w => w k1), if_pos k2, hT]; rw [dgN, if_pos (by by_cases w : f i < 48 ∨ 57 < f i; exact w; rw [if_neg w] at c162; exact absurd c162 (by decide))]; exact hy8, fun _ => by rw [hq0, put_no (by decide), tkV, hV]; rw [vlN, if_pos (by by_cases w : f i < 48 ∨ 57 < f i; exact w; rw [if_neg w] at c162; exact absurd c162 (by decide))]⟩ ⟨by decide, by decide⟩
    · refine A_aload_n dX10_advance_165 rfl rfl ?_
      refine A_ldc dX10_advance_166 w_1327 ?_
      refine A_bipush (v := 10) dX10_advance_168 (by decide) ?_
      refine A_aload_n dX10_advance_170 rfl rfl ?_
      refine A_get dX10_advance_171 f_X10_124 HM_at0 rfl ?_
      refine A_imul dX10_advance_174 ?_
      refine A_aload_n dX10_advance_175 rfl rfl ?_
      refine A_aload_n dX10_advance_176 rfl rfl ?_
      refine A_get dX10_advance_177 f_X10_103 HM_at0 rfl ?_
      refine A_eqI (y := nI i) hy8 ?_
      refine A_callVi dX10_advance_180 m_X10_106 cb_X10_see (As := [_]) rfl HM_at0 rfl (k_see G hy7 hL (by omega)) rfl ⟨by decide, by decide⟩ (Nat.le_of_ble_eq_true rfl) ⟨by decide, by decide⟩ (fun x180 h180 hq => ?_)
      obtain ⟨rfl, rfl⟩ := hq
      rw [hyf]
      refine A_iadd dX10_advance_183 ?_
      refine A_bipush (v := 48) dX10_advance_184 (by decide) ?_
      refine A_isub dX10_advance_186 ?_
      refine A_min dX10_advance_187 w_1328 (by decide) (Nat.le_of_ble_eq_true rfl) ⟨by decide, by decide⟩ ?_
      refine A_eqI (y := mn 99999 (y 0 11 * 10 + f i - 48)) (by rw [Int32.mul_comm (y 0 11)]; rfl) ?_
      refine A_putM0 dX10_advance_190 p_X10_124 rfl (Nat.le_of_ble_eq_true rfl) rfl ?_
      refine A_aload_n dX10_advance_193 rfl rfl ?_
      refine A_dup dX10_advance_194 rfl ?_
      refine A_get dX10_advance_195 f_X10_103 HM_at0 rfl ?_
      refine A_eqI (y := nI i) (by rw [put_no (by decide)]; exact hy8) ?_
      refine A_iconst (v := 1) dX10_advance_198 (by decide) ?_
      refine A_iadd dX10_advance_199 ?_
      refine A_putM0 dX10_advance_200 p_X10_103 rfl (Nat.le_of_ble_eq_true rfl) rfl ?_
      refine A_goto 144 dX10_advance_203 (by decide) ?_
      have hw : ¬ (f i < 48 ∨ 57 < f i) := fun w => c162 (if_pos w)
      rw [nI_1]
      exact ih (i + 1) _ (by omega) (by omega) (by rw [hT, dgN, if_neg hw]) (by rw [hV, vlN, if_neg hw, put_no (by decide), put_at]) ((hS.put (by decide)).put (by decide)) (by rw [put_no (by decide), put_no (by decide)]; exact hy7) (by rw [((SMt.rf (m := y)).put (by decide)).put (by decide) |>.f]; exact hyf) put_at (by rw [put_no (by decide), put_no (by decide)]; exact hy9)

theorem ad_w3 (G : GX) (X : XC) {b : Nat} {m : CT} {ml : Nat → Nat → Int64} {r : Nat → Option AE} {n L p q : Nat} {f : Nat → Int32} (hL : L ≤ 1600) (hp : p ≤ L) (hfL : f L = -1) (hge : ∀ i, L ≤ i → i ≤ 1600 → f i = -1) (hq0 : tkS f L p = q) {y : CT} {c0 : Option Value} (hqL : q ≤ L) (hS : SMt m y) (hy7 : y 0 7 = nI L) (hyf : myF y = f) (hy8 : y 0 8 = nI q) : WA X G RX10 cX10_advance false none (qV fun h1 => ∃ m1, h1 = HM b m1 ml r n ∧ SMt m m1 ∧ LK L f p m1) 1 0 0 (HM b y ml r n) 0 0 39 [some (.ref b), c0] [] := by
  refine A_aload_n dX10_advance_39 rfl rfl ?_
  refine A_aload_n dX10_advance_40 rfl rfl ?_
  refine A_get dX10_advance_41 f_X10_103 HM_at0 rfl ?_
  refine A_eqI (y := nI q) hy8 ?_
  refine A_putM0 dX10_advance_44 p_X10_110 rfl (Nat.le_of_ble_eq_true rfl) rfl ?_
  refine A_aload_n dX10_advance_47 rfl rfl ?_
  refine A_aload_n dX10_advance_48 rfl rfl ?_
  refine A_get dX10_advance_49 f_X10_103 HM_at0 rfl ?_
  refine A_eqI (y := nI q) (by rw [put_no (by decide)]; exact hy8) ?_
  obtain ⟨z, ez⟩ : ∃ z, put y 0 9 (nI q) = z := ⟨_, rfl⟩
  have hS2 : SMt m z := by rw [← ez]; exact hS.put (by decide)
  have hz7 : z 0 7 = nI L := by rw [← ez, put_no (by decide)]; exact hy7
  have hzf : myF z = f := by rw [← ez, ((SMt.rf (m := y)).put (by decide)).f]; exact hyf
  have hz8 : z 0 8 = nI q := by rw [← ez, put_no (by decide)]; exact hy8
  have hz9 : z 0 9 = nI q := by rw [← ez, put_at]
  rw [ez]
  refine A_callVi dX10_advance_52 m_X10_106 cb_X10_see (As := [_]) rfl HM_at0 rfl (k_see G hz7 hL (by omega)) rfl ⟨by decide, by decide⟩ (Nat.le_of_ble_eq_true rfl) ⟨by decide, by decide⟩ (fun x52 h52 hq => ?_)
  obtain ⟨rfl, rfl⟩ := hq
  rw [hzf]
  refine A_istore_n (lv1 := [_, _]) dX10_advance_55 rfl (Nat.le_of_ble_eq_true rfl) rfl rfl ?_
  refine A_iload_n dX10_advance_56 rfl rfl ?_
  refine A_iconst (v := (-1)) dX10_advance_57 (by decide) ?_
  refine A_icmp_ne 69 dX10_advance_58 (by decide) (fun c58 => ?_) (fun c58 => ?_)
  · refine A_iload_n dX10_advance_69 rfl rfl ?_
    refine A_i2l dX10_advance_70 ?_
    refine A_ldc2 dX10_advance_71 w_1323 ?_
    refine A_ldc2 dX10_advance_74 w_1324 ?_
    refine A_callSi dX10_advance_77 m_X10_85 cb_X10_in (As := [_, _, _]) rfl (k_in G) rfl ⟨by decide, by decide⟩ (Nat.le_of_ble_eq_true rfl) ⟨by decide, by decide⟩ (fun x77 h77 hq => ?_)
    obtain ⟨rfl, rfl⟩ := hq
    refine A_eqI in_lt ?_
    refine A_if_eq 125 dX10_advance_80 (by decide) (fun c80 => ?_) (fun c80 => ?_)
    · refine A_iload_n dX10_advance_125 rfl rfl ?_
      refine A_i2l dX10_advance_126 ?_
      refine A_ldc2 dX10_advance_127 w_1325 ?_
      refine A_ldc2 dX10_advance_130 w_1326 ?_
      refine A_callSi dX10_advance_133 m_X10_85 cb_X10_in (As := [_, _, _]) rfl (k_in G) rfl ⟨by decide, by decide⟩ (Nat.le_of_ble_eq_true rfl) ⟨by decide, by decide⟩ (fun x133 h133 hq => ?_)
      obtain ⟨rfl, rfl⟩ := hq
      refine A_eqI in_dg ?_
      refine A_if_eq 214 dX10_advance_136 (by decide) (fun c136 => ?_) (fun c136 => ?_)
      · refine A_aload_n dX10_advance_214 rfl rfl ?_
        refine A_iload_n dX10_advance_215 rfl rfl ?_
        refine A_bipush (v := 59) dX10_advance_216 (by decide) ?_
        refine A_icmp_ne 225 dX10_advance_218 (by decide) (fun c218 => ?_) (fun c218 => ?_)
        · refine A_iconst (v := 4) dX10_advance_225 (by decide) ?_
          refine A_putM0 dX10_advance_226 p_X10_113 rfl (Nat.le_of_ble_eq_true rfl) rfl ?_
          refine A_aload_n dX10_advance_229 rfl rfl ?_
          refine A_dup dX10_advance_230 rfl ?_
          refine A_get dX10_advance_231 f_X10_103 HM_at0 rfl ?_
          refine A_eqI (y := nI q) (by rw [put_no (by decide)]; exact hz8) ?_
          refine A_iconst (v := 1) dX10_advance_234 (by decide) ?_
          refine A_iadd dX10_advance_235 ?_
          refine A_putM0 dX10_advance_236 p_X10_103 rfl (Nat.le_of_ble_eq_true rfl) rfl ?_
          exact A_vret dX10_advance_239 ⟨_, rfl, (hS2.put (by decide)).put (by decide), by rw [put_no (by decide), put_no (by decide)]; exact hz7, hL, hp, by rw [(((SMt.rf (m := z)).put (by decide)).put (by decide)).f]; exact hzf, by rw [hq0, put_no (by decide), put_at, tkK, if_neg c58, if_neg (fun w => w (by by_cases w : f q < 97 ∨ 122 < f q; exact w; rw [if_neg w] at c80; exact absurd c80 (by decide))), if_neg (fun w => w (by by_cases w : f q < 48 ∨ 57 < f q; exact w; rw [if_neg w] at c136; exact absurd c136 (by decide))), if_neg c218], by rw [hq0, put_no (by decide), put_no (by decide)]; exact hz9, by rw [hq0, put_at, tkE, if_neg c58, if_neg (fun w => w (by by_cases w : f q < 97 ∨ 122 < f q; exact w; rw [if_neg w] at c80; exact absurd c80 (by decide))), if_neg (fun w => w (by by_cases w : f q < 48 ∨ 57 < f q; exact w; rw [if_neg w] at c136; exact absurd c136 (by decide)))]; exact nI_1 q, fun w => by rw [hq0, tkK, if_neg c58, if_neg (fun w => w (by by_cases w : f q < 97 ∨ 122 < f q; exact w; rw [if_neg w] at c80; exact absurd c80 (by decide))), if_neg (fun w => w (by by_cases w : f q < 48 ∨ 57 < f q; exact w; rw [if_neg w] at c136; exact absurd c136 (by decide))), if_neg c218] at w; exact absurd w (by decide)⟩ ⟨by decide, by decide⟩
        · refine A_iconst (v := 3) dX10_advance_221 (by decide) ?_
          refine A_goto 226 dX10_advance_222 (by decide) ?_
          refine A_putM0 dX10_advance_226 p_X10_113 rfl (Nat.le_of_ble_eq_true rfl) rfl ?_
          refine A_aload_n dX10_advance_229 rfl rfl ?_
          refine A_dup dX10_advance_230 rfl ?_
          refine A_get dX10_advance_231 f_X10_103 HM_at0 rfl ?_
          refine A_eqI (y := nI q) (by rw [put_no (by decide)]; exact hz8) ?_
          refine A_iconst (v := 1) dX10_advance_234 (by decide) ?_
          refine A_iadd dX10_advance_235 ?_
          refine A_putM0 dX10_advance_236 p_X10_103 rfl (Nat.le_of_ble_eq_true rfl) rfl ?_
          exact A_vret dX10_advance_239 ⟨_, rfl, (hS2.put (by decide)).put (by decide), by rw [put_no (by decide), put_no (by decide)]; exact hz7, hL, hp, by rw [(((SMt.rf (m := z)).put (by decide)).put (by decide)).f]; exact hzf, by rw [hq0, put_no (by decide), put_at, tkK, if_neg c58, if_neg (fun w => w (by by_cases w : f q < 97 ∨ 122 < f q; exact w; rw [if_neg w] at c80; exact absurd c80 (by decide))), if_neg (fun w => w (by by_cases w : f q < 48 ∨ 57 < f q; exact w; rw [if_neg w] at c136; exact absurd c136 (by decide))), if_pos c218], by rw [hq0, put_no (by decide), put_no (by decide)]; exact hz9, by rw [hq0, put_at, tkE, if_neg c58, if_neg (fun w => w (by by_cases w : f q < 97 ∨ 122 < f q; exact w; rw [if_neg w] at c80; exact absurd c80 (by decide))), if_neg (fun w => w (by by_cases w : f q < 48 ∨ 57 < f q; exact w; rw [if_neg w] at c136; exact absurd c136 (by decide)))]; exact nI_1 q, fun w => by rw [hq0, tkK, if_neg c58, if_neg (fun w => w (by by_cases w : f q < 97 ∨ 122 < f q; exact w; rw [if_neg w] at c80; exact absurd c80 (by decide))), if_neg (fun w => w (by by_cases w : f q < 48 ∨ 57 < f q; exact w; rw [if_neg w] at c136; exact absurd c136 (by decide))), if_pos c218] at w; exact absurd w (by decide)⟩ ⟨by decide, by decide⟩
      · refine A_aload_n dX10_advance_139 rfl rfl ?_
        refine A_iconst (v := 0) dX10_advance_140 (by decide) ?_
        refine A_putM0 dX10_advance_141 p_X10_124 rfl (Nat.le_of_ble_eq_true rfl) rfl ?_
        have k1 : f q < 97 ∨ 122 < f q := by by_cases w : f q < 97 ∨ 122 < f q; exact w; rw [if_neg w] at c80; exact absurd c80 (by decide)
        have k2 : ¬ (f q < 48 ∨ 57 < f q) := fun w => c136 (if_pos w)
        exact ad_w2 G X hL hp hfL hge hq0 c58 k1 k2 (L - q) q _ (by omega) (Nat.le_refl _) rfl (by rw [put_at]) (hS2.put (by decide)) (by rw [put_no (by decide)]; exact hz7) (by rw [((SMt.rf (m := z)).put (by decide)).f]; exact hzf) (by rw [put_no (by decide)]; exact hz8) (by rw [put_no (by decide)]; exact hz9)
    · have k1 : ¬ (f q < 97 ∨ 122 < f q) := fun w => c80 (if_pos w)
      exact ad_w1 G X hL hp hfL hge hq0 c58 k1 (L - q) q z (by omega) (Nat.le_refl _) rfl hS2 hz7 hzf hz8 hz9
  · refine A_aload_n dX10_advance_61 rfl rfl ?_
    refine A_iconst (v := 0) dX10_advance_62 (by decide) ?_
    refine A_putM0 dX10_advance_63 p_X10_113 rfl (Nat.le_of_ble_eq_true rfl) rfl ?_
    refine A_goto 239 dX10_advance_66 (by decide) ?_
    exact A_vret dX10_advance_239 ⟨_, rfl, hS2.put (by decide), by rw [put_no (by decide)]; exact hz7, hL, hp, by rw [((SMt.rf (m := z)).put (by decide)).f]; exact hzf, by rw [hq0, put_at, tkK, if_pos c58], by rw [hq0, put_no (by decide)]; exact hz9, by rw [hq0, put_no (by decide), tkE, if_pos c58]; exact hz8, fun w => by rw [hq0, tkK, if_pos c58] at w; exact absurd w (by decide)⟩ ⟨by decide, by decide⟩
theorem k_advance (G : GX) {b : Nat} {m : CT} {ml : Nat → Nat → Int64} {r : Nat → Option AE} {n L p : Nat} {f : Nat → Int32} (h7 : m 0 7 = nI L) (hL : L ≤ 1600) (hp : p ≤ L) (hf : myF m = f) (h8 : m 0 8 = nI p) : MA G 1 yX10_advance cX10_advance 2 none 0 0 [.ref b] (HM b m ml r n) (qV fun h1 => ∃ m1, h1 = HM b m1 ml r n ∧ SMt m m1 ∧ LK L f p m1) := by
  refine MA.of (own := RX10) false [some (.ref b), none] (by decide +kernel) rfl (fun h => by cases h) (Nat.le_of_ble_eq_true rfl) rfl (fun X => ?_)
  have hfL : f L = -1 := by rw [← hf]; exact myF_L h7
  have hge : ∀ i, L ≤ i → i ≤ 1600 → f i = -1 := fun i a c => by rw [← hf]; exact myF_ge h7 a (by omega)
  have loop : ∀ (k i : Nat) (y : CT), i + k = L → p ≤ i → skN f (L - p) p = skN f k i → SMt m y → y 0 7 = nI L → myF y = f → y 0 8 = nI i → WA X G RX10 cX10_advance false none (qV fun h1 => ∃ m1, h1 = HM b m1 ml r n ∧ SMt m m1 ∧ LK L f p m1) 1 0 0 (HM b y ml r n) 0 0 0 [some (.ref b), none] [] := by
    intro k
    induction k with
    | zero =>
      intro i y hk hpi hT hS hy7 hyf hy8
      have e9 : i = L := by omega
      subst e9
      refine A_aload_n dX10_advance_0 rfl rfl ?_
      refine A_aload_n dX10_advance_1 rfl rfl ?_
      refine A_get dX10_advance_2 f_X10_103 HM_at0 rfl ?_
      refine A_eqI (y := nI i) hy8 ?_
      refine A_callVi dX10_advance_5 m_X10_106 cb_X10_see (As := [_]) rfl HM_at0 rfl (k_see G hy7 hL (by omega)) rfl ⟨by decide, by decide⟩ (Nat.le_of_ble_eq_true rfl) ⟨by decide, by decide⟩ (fun x5 h5 hq => ?_)
      obtain ⟨rfl, rfl⟩ := hq
      rw [hyf]
      refine A_bipush (v := 32) dX10_advance_8 (by decide) ?_
      refine A_icmp_eq 26 dX10_advance_10 (by decide) (fun c10 => ?_) (fun c10 => ?_)
      · exact absurd c10 (by rw [hfL]; decide)
      · refine A_aload_n dX10_advance_13 rfl rfl ?_
        refine A_aload_n dX10_advance_14 rfl rfl ?_
        refine A_get dX10_advance_15 f_X10_103 HM_at0 rfl ?_
        refine A_eqI (y := nI i) hy8 ?_
        refine A_callVi dX10_advance_18 m_X10_106 cb_X10_see (As := [_]) rfl HM_at0 rfl (k_see G hy7 hL (by omega)) rfl ⟨by decide, by decide⟩ (Nat.le_of_ble_eq_true rfl) ⟨by decide, by decide⟩ (fun x18 h18 hq => ?_)
        obtain ⟨rfl, rfl⟩ := hq
        rw [hyf]
        refine A_bipush (v := 10) dX10_advance_21 (by decide) ?_
        refine A_icmp_ne 39 dX10_advance_23 (by decide) (fun c23 => ?_) (fun c23 => ?_)
        · exact ad_w3 G X hL hp hfL hge hT (Nat.le_refl _) hS hy7 hyf hy8
        · exact absurd c23 (by rw [hfL]; decide)
    | succ k ih =>
      intro i y hk hpi hT hS hy7 hyf hy8
      refine A_aload_n dX10_advance_0 rfl rfl ?_
      refine A_aload_n dX10_advance_1 rfl rfl ?_
      refine A_get dX10_advance_2 f_X10_103 HM_at0 rfl ?_
      refine A_eqI (y := nI i) hy8 ?_
      refine A_callVi dX10_advance_5 m_X10_106 cb_X10_see (As := [_]) rfl HM_at0 rfl (k_see G hy7 hL (by omega)) rfl ⟨by decide, by decide⟩ (Nat.le_of_ble_eq_true rfl) ⟨by decide, by decide⟩ (fun x5 h5 hq => ?_)
      obtain ⟨rfl, rfl⟩ := hq
      rw [hyf]
      refine A_bipush (v := 32) dX10_advance_8 (by decide) ?_
      refine A_icmp_eq 26 dX10_advance_10 (by decide) (fun c10 => ?_) (fun c10 => ?_)
      · refine A_aload_n dX10_advance_26 rfl rfl ?_
        refine A_dup dX10_advance_27 rfl ?_
        refine A_get dX10_advance_28 f_X10_103 HM_at0 rfl ?_
        refine A_eqI (y := nI i) hy8 ?_
        refine A_iconst (v := 1) dX10_advance_31 (by decide) ?_
        refine A_iadd dX10_advance_32 ?_
        refine A_putM0 dX10_advance_33 p_X10_103 rfl (Nat.le_of_ble_eq_true rfl) rfl ?_
        refine A_goto 0 dX10_advance_36 (by decide) ?_
        rw [nI_1]
        exact ih (i + 1) _ (by omega) (by omega) (by rw [hT, skN, if_pos (Or.inl c10)]) (hS.put (by decide)) (by rw [put_no (by decide)]; exact hy7) (by rw [((SMt.rf (m := y)).put (by decide)).f]; exact hyf) put_at
      · refine A_aload_n dX10_advance_13 rfl rfl ?_
        refine A_aload_n dX10_advance_14 rfl rfl ?_
        refine A_get dX10_advance_15 f_X10_103 HM_at0 rfl ?_
        refine A_eqI (y := nI i) hy8 ?_
        refine A_callVi dX10_advance_18 m_X10_106 cb_X10_see (As := [_]) rfl HM_at0 rfl (k_see G hy7 hL (by omega)) rfl ⟨by decide, by decide⟩ (Nat.le_of_ble_eq_true rfl) ⟨by decide, by decide⟩ (fun x18 h18 hq => ?_)
        obtain ⟨rfl, rfl⟩ := hq
        rw [hyf]
        refine A_bipush (v := 10) dX10_advance_21 (by decide) ?_
        refine A_icmp_ne 39 dX10_advance_23 (by decide) (fun c23 => ?_) (fun c23 => ?_)
        · exact ad_w3 G X hL hp hfL hge (q := i) (hT.trans (by rw [skN, if_neg (fun z => z.elim c10 c23)])) (by omega) hS hy7 hyf hy8
        · refine A_aload_n dX10_advance_26 rfl rfl ?_
          refine A_dup dX10_advance_27 rfl ?_
          refine A_get dX10_advance_28 f_X10_103 HM_at0 rfl ?_
          refine A_eqI (y := nI i) hy8 ?_
          refine A_iconst (v := 1) dX10_advance_31 (by decide) ?_
          refine A_iadd dX10_advance_32 ?_
          refine A_putM0 dX10_advance_33 p_X10_103 rfl (Nat.le_of_ble_eq_true rfl) rfl ?_
          refine A_goto 0 dX10_advance_36 (by decide) ?_
          rw [nI_1]
          exact ih (i + 1) _ (by omega) (by omega) (by rw [hT, skN, if_pos (Or.inr c23)]) (hS.put (by decide)) (by rw [put_no (by decide)]; exact hy7) (by rw [((SMt.rf (m := y)).put (by decide)).f]; exact hyf) put_at
  
  exact loop (L - p) p m (by omega) (Nat.le_refl _) rfl SMt.rf h7 hf h8