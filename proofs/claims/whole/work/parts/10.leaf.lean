theorem arrV_cong (cA : ClassId) (n : Nat) {f g : Nat → Value} (h : ∀ i, i < n → f i = g i) : arrV cA n f = arrV cA n g := by
  unfold arrV
  congr 1
  apply Array.ext
  · simp
  · intro i h1 h2
    simp at h1
    simp [h i h1]
/-- what a row holds behind its end is nobody's business -/
theorem WA_aI {X : XC} {G : GX} {own : String} {cc : ByteArray} {ini : Bool} {ret : Option FieldType} {Qp : Option Value → AH → Prop} {d mc ms : Nat} {uc us pc : Nat} {lv : List (Option Value)} {st : List Value} {h : AH} {a k n : Nat} {f g : Nat → Int32} (ha : h.1 a = some (.inl (k, n, .inl f))) (hfg : ∀ i, i < n → f i = g i) (kk : WA X G own cc ini ret Qp d mc ms (upH h a (.inl (k, n, .inl g))) uc us pc lv st) : WA X G own cc ini ret Qp d mc ms h uc us pc lv st := by
  obtain ⟨p, e, s, m, args, below, meth, c, h0⟩ := X
  intro H locs ls hX hR hS hdm hL
  refine kk H locs ls hX (hR.put rfl (fun _ _ => rfl) ?_) hS (fun q hq => hdm q (dmA_up ha q hq)) hL
  have h1 := hR.2 a _ ha
  have h2 : vp_cell (gC G k) (n, .inl f) = vp_cell (gC G k) (n, .inl g) := by
    rw [vp_cell_i, vp_cell_i]
    exact arrV_cong _ _ (fun i hi => by rw [hfg i hi])
  show H[a]? = some (vp_cell (gC G k) (n, .inl g))
  rw [← h2]
  exact h1
theorem upH_upH {h : AH} {a : Nat} {e e' : AE} : upH (upH h a e) a e' = upH h a e' := by
  refine Prod.ext ?_ rfl
  funext q
  simp only [upH]
  by_cases hq : q = a <;> simp [hq]
theorem upH_self {h : AH} {a : Nat} {e : AE} (ha : h.1 a = some e) : upH h a e = h := by
  refine Prod.ext ?_ rfl
  funext q
  simp only [upH]
  by_cases hq : q = a
  · subst hq; rw [if_pos rfl, ha]
  · rw [if_neg hq]
def rAt (w n : Int32) (f : Nat → Int32) (i c : Int32) : Int32 := if i < 0 ∨ n ≤ i ∨ c < 0 ∨ w ≤ c then 0 else f (i * w + c).toNatClampNeg
theorem nI_ti (n : Nat) (h : n < 2 ^ 31) : (nI n).toNatClampNeg = n := nI_clamp h

theorem c_at (G : GX) (h : AH) (a q : Nat) (mx w n : Int32) (len : Nat) (f : Nat → Int32) (i c : Int32) (hr : h.1 a = some (ob 3 [.int mx, .int w, .ref q, .int n])) (hq : h.1 q = some (aI len f)) (hi : ¬ i < 0 → i < n → ¬ c < 0 → c < w → vp_in (i * w + c) len) : MA G 0 yX3_at cX3_at 3 (some .int) 0 0 [.ref a, .int i, .int c] h (qI fun x h1 => x = rAt w n f i c ∧ h1 = h) := by
  refine MA.of (own := RX3) false [some (.ref a), some (.int i), some (.int c)] (by decide +kernel) rfl (fun h => by cases h) (Nat.le_of_ble_eq_true rfl) rfl (fun X => ?_)
  refine A_iload_n dX3_at_0 rfl rfl ?_
  refine A_if_lt 40 dX3_at_1 (by decide) (fun c1 => ?_) (fun c1 => ?_)
  · refine A_iconst (v := 0) dX3_at_40 (by decide) ?_
    exact A_iret dX3_at_41 ⟨by rw [rAt, if_pos (by first | exact Or.inl (by assumption) | exact Or.inr (Or.inl (by assumption)) | exact Or.inr (Or.inr (Or.inl (by assumption))) | exact Or.inr (Or.inr (Or.inr (by assumption))))], rfl⟩ ⟨by decide, by decide⟩
  · refine A_iload_n dX3_at_4 rfl rfl ?_
    refine A_aload_n dX3_at_5 rfl rfl ?_
    refine A_get dX3_at_6 f_X3_20 hr rfl ?_
    refine A_icmp_ge 40 dX3_at_9 (by decide) (fun c9 => ?_) (fun c9 => ?_)
    · refine A_iconst (v := 0) dX3_at_40 (by decide) ?_
      exact A_iret dX3_at_41 ⟨by rw [rAt, if_pos (by first | exact Or.inl (by assumption) | exact Or.inr (Or.inl (by assumption)) | exact Or.inr (Or.inr (Or.inl (by assumption))) | exact Or.inr (Or.inr (Or.inr (by assumption))))], rfl⟩ ⟨by decide, by decide⟩
    · refine A_iload_n dX3_at_12 rfl rfl ?_
      refine A_if_lt 40 dX3_at_13 (by decide) (fun c13 => ?_) (fun c13 => ?_)
      · refine A_iconst (v := 0) dX3_at_40 (by decide) ?_
        exact A_iret dX3_at_41 ⟨by rw [rAt, if_pos (by first | exact Or.inl (by assumption) | exact Or.inr (Or.inl (by assumption)) | exact Or.inr (Or.inr (Or.inl (by assumption))) | exact Or.inr (Or.inr (Or.inr (by assumption))))], rfl⟩ ⟨by decide, by decide⟩
      · refine A_iload_n dX3_at_16 rfl rfl ?_
        refine A_aload_n dX3_at_17 rfl rfl ?_
        refine A_get dX3_at_18 f_X3_13 hr rfl ?_
        refine A_icmp_ge 40 dX3_at_21 (by decide) (fun c21 => ?_) (fun c21 => ?_)
        · refine A_iconst (v := 0) dX3_at_40 (by decide) ?_
          exact A_iret dX3_at_41 ⟨by rw [rAt, if_pos (by first | exact Or.inl (by assumption) | exact Or.inr (Or.inl (by assumption)) | exact Or.inr (Or.inr (Or.inl (by assumption))) | exact Or.inr (Or.inr (Or.inr (by assumption))))], rfl⟩ ⟨by decide, by decide⟩
        · refine A_aload_n dX3_at_24 rfl rfl ?_
          refine A_get dX3_at_25 f_X3_16 hr rfl ?_
          refine A_iload_n dX3_at_28 rfl rfl ?_
          refine A_aload_n dX3_at_29 rfl rfl ?_
          refine A_get dX3_at_30 f_X3_13 hr rfl ?_
          refine A_imul dX3_at_33 ?_
          refine A_iload_n dX3_at_34 rfl rfl ?_
          refine A_iadd dX3_at_35 ?_
          refine A_iald dX3_at_36 hq (hi c1 (Int32.not_le.mp c9) c13 (Int32.not_le.mp c21)) ?_
          refine A_goto 41 dX3_at_37 (by decide) ?_
          exact A_iret dX3_at_41 ⟨by rw [rAt, if_neg (by rintro (z | z | z | z) <;> first | exact c1 z | exact c9 z | exact c13 z | exact c21 z)], rfl⟩ ⟨by decide, by decide⟩

def rPut (w n : Int32) (f : Nat → Int32) (i c v : Int32) : Nat → Int32 := if i < 0 ∨ n ≤ i ∨ c < 0 ∨ w ≤ c then f else upd f (i * w + c).toNatClampNeg v
theorem c_put (G : GX) (h : AH) (a q : Nat) (mx w n : Int32) (len : Nat) (f : Nat → Int32) (i c v : Int32) (hr : h.1 a = some (ob 3 [.int mx, .int w, .ref q, .int n])) (hq : h.1 q = some (aI len f)) (hi : ¬ i < 0 → i < n → ¬ c < 0 → c < w → vp_in (i * w + c) len) : MA G 0 yX3_put cX3_put 4 none 0 0 [.ref a, .int i, .int c, .int v] h (qV fun h1 => h1 = upH h q (aI len (rPut w n f i c v))) := by
  refine MA.of (own := RX3) false [some (.ref a), some (.int i), some (.int c), some (.int v)] (by decide +kernel) rfl (fun h => by cases h) (Nat.le_of_ble_eq_true rfl) rfl (fun X => ?_)
  refine A_iload_n dX3_put_0 rfl rfl ?_
  refine A_if_lt 38 dX3_put_1 (by decide) (fun c1 => ?_) (fun c1 => ?_)
  · exact A_vret dX3_put_38 (by rw [rPut, if_pos (by first | exact Or.inl (by assumption) | exact Or.inr (Or.inl (by assumption)) | exact Or.inr (Or.inr (Or.inl (by assumption))) | exact Or.inr (Or.inr (Or.inr (by assumption))))]; exact (upH_self hq).symm) ⟨by decide, by decide⟩
  · refine A_iload_n dX3_put_4 rfl rfl ?_
    refine A_aload_n dX3_put_5 rfl rfl ?_
    refine A_get dX3_put_6 f_X3_20 hr rfl ?_
    refine A_icmp_ge 38 dX3_put_9 (by decide) (fun c9 => ?_) (fun c9 => ?_)
    · exact A_vret dX3_put_38 (by rw [rPut, if_pos (by first | exact Or.inl (by assumption) | exact Or.inr (Or.inl (by assumption)) | exact Or.inr (Or.inr (Or.inl (by assumption))) | exact Or.inr (Or.inr (Or.inr (by assumption))))]; exact (upH_self hq).symm) ⟨by decide, by decide⟩
    · refine A_iload_n dX3_put_12 rfl rfl ?_
      refine A_if_lt 38 dX3_put_13 (by decide) (fun c13 => ?_) (fun c13 => ?_)
      · exact A_vret dX3_put_38 (by rw [rPut, if_pos (by first | exact Or.inl (by assumption) | exact Or.inr (Or.inl (by assumption)) | exact Or.inr (Or.inr (Or.inl (by assumption))) | exact Or.inr (Or.inr (Or.inr (by assumption))))]; exact (upH_self hq).symm) ⟨by decide, by decide⟩
      · refine A_iload_n dX3_put_16 rfl rfl ?_
        refine A_aload_n dX3_put_17 rfl rfl ?_
        refine A_get dX3_put_18 f_X3_13 hr rfl ?_
        refine A_icmp_ge 38 dX3_put_21 (by decide) (fun c21 => ?_) (fun c21 => ?_)
        · exact A_vret dX3_put_38 (by rw [rPut, if_pos (by first | exact Or.inl (by assumption) | exact Or.inr (Or.inl (by assumption)) | exact Or.inr (Or.inr (Or.inl (by assumption))) | exact Or.inr (Or.inr (Or.inr (by assumption))))]; exact (upH_self hq).symm) ⟨by decide, by decide⟩
        · refine A_aload_n dX3_put_24 rfl rfl ?_
          refine A_get dX3_put_25 f_X3_16 hr rfl ?_
          refine A_iload_n dX3_put_28 rfl rfl ?_
          refine A_aload_n dX3_put_29 rfl rfl ?_
          refine A_get dX3_put_30 f_X3_13 hr rfl ?_
          refine A_imul dX3_put_33 ?_
          refine A_iload_n dX3_put_34 rfl rfl ?_
          refine A_iadd dX3_put_35 ?_
          refine A_iload_n dX3_put_36 rfl rfl ?_
          refine A_iast dX3_put_37 hq (hi c1 (Int32.not_le.mp c9) c13 (Int32.not_le.mp c21)) ?_
          exact A_vret dX3_put_38 (by rw [rPut, if_neg (by rintro (z | z | z | z) <;> first | exact c1 z | exact c9 z | exact c13 z | exact c21 z)]) ⟨by decide, by decide⟩

theorem c_isFull (G : GX) (h : AH) (a q : Nat) (mx w n : Int32) (hr : h.1 a = some (ob 3 [.int mx, .int w, .ref q, .int n])) : MA G 0 yX3_isFull cX3_isFull 1 (some .boolean) 0 0 [.ref a] h (qI fun x h1 => x = (if mx ≤ n then 1 else 0) ∧ h1 = h) := by
  refine MA.of (own := RX3) false [some (.ref a)] (by decide +kernel) rfl (fun h => by cases h) (Nat.le_of_ble_eq_true rfl) rfl (fun X => ?_)
  refine A_aload_n dX3_isFull_0 rfl rfl ?_
  refine A_get dX3_isFull_1 f_X3_20 hr rfl ?_
  refine A_aload_n dX3_isFull_4 rfl rfl ?_
  refine A_get dX3_isFull_5 f_X3_7 hr rfl ?_
  refine A_icmp_lt 15 dX3_isFull_8 (by decide) (fun c8 => ?_) (fun c8 => ?_)
  · refine A_iconst (v := 0) dX3_isFull_15 (by decide) ?_
    exact A_zret dX3_isFull_16 rfl ⟨(if_neg (Int32.not_le.mpr c8)).symm, rfl⟩ ⟨by decide, by decide⟩
  · refine A_iconst (v := 1) dX3_isFull_11 (by decide) ?_
    refine A_goto 16 dX3_isFull_12 (by decide) ?_
    exact A_zret dX3_isFull_16 rfl ⟨(if_pos (Int32.not_lt.mp c8)).symm, rfl⟩ ⟨by decide, by decide⟩

def inI (x y : Int32) : Int32 := if x < 0 ∨ y ≤ x then 0 else 1
theorem c_has (G : GX) (h : AH) (a q : Nat) (mx w n i : Int32) (hr : h.1 a = some (ob 3 [.int mx, .int w, .ref q, .int n])) : MA G 0 yX3_has cX3_has 2 (some .boolean) 0 0 [.ref a, .int i] h (qI fun x h1 => x = inI i n ∧ h1 = h) := by
  refine MA.of (own := RX3) false [some (.ref a), some (.int i)] (by decide +kernel) rfl (fun h => by cases h) (Nat.le_of_ble_eq_true rfl) rfl (fun X => ?_)
  refine A_iload_n dX3_has_0 rfl rfl ?_
  refine A_if_lt 16 dX3_has_1 (by decide) (fun c1 => ?_) (fun c1 => ?_)
  · refine A_iconst (v := 0) dX3_has_16 (by decide) ?_
    exact A_zret dX3_has_17 rfl ⟨(if_pos (by first | exact Or.inl (by assumption) | exact Or.inr (by assumption))).symm, rfl⟩ ⟨by decide, by decide⟩
  · refine A_iload_n dX3_has_4 rfl rfl ?_
    refine A_aload_n dX3_has_5 rfl rfl ?_
    refine A_get dX3_has_6 f_X3_20 hr rfl ?_
    refine A_icmp_ge 16 dX3_has_9 (by decide) (fun c9 => ?_) (fun c9 => ?_)
    · refine A_iconst (v := 0) dX3_has_16 (by decide) ?_
      exact A_zret dX3_has_17 rfl ⟨(if_pos (by first | exact Or.inl (by assumption) | exact Or.inr (by assumption))).symm, rfl⟩ ⟨by decide, by decide⟩
    · refine A_iconst (v := 1) dX3_has_12 (by decide) ?_
      refine A_goto 17 dX3_has_13 (by decide) ?_
      exact A_zret dX3_has_17 rfl ⟨(if_neg (fun z => z.elim c1 c9)).symm, rfl⟩ ⟨by decide, by decide⟩

theorem c_fill (G : GX) (h : AH) (a n : Nat) (v : Int32) (f : Nat → Int32) (ha : h.1 a = some (aI n f)) (hn : n < 2 ^ 31) : MA G 0 yJ7_fill_53178 cJ7_fill_53178 4 none 0 0 [.ref a, .int v] h (qV fun h1 => h1 = upH h a (aI n (fun _ => v))) := by
  refine MA.of (own := RJ7) false [some (.ref a), some (.int v), none, none] (by decide +kernel) rfl (fun h => by cases h) (Nat.le_of_ble_eq_true rfl) rfl (fun X => ?_)
  have loop : ∀ (k i : Nat) (g : Nat → Int32), i + k = n → (∀ j, j < i → g j = v) → WA X G RJ7 cJ7_fill_53178 false none (qV fun h1 => h1 = upH h a (aI n (fun _ => v))) 0 0 0 (upH h a (aI n g)) 0 0 5 [some (.ref a), some (.int v), some (.int (nI i)), some (.int (nI n))] [] := by
    intro k
    induction k with
    | zero =>
      intro i g hk hg
      have e : i = n := by omega
      subst e
      refine A_iload_n dJ7_fill_53178_5 rfl rfl ?_
      refine A_iload_n dJ7_fill_53178_6 rfl rfl ?_
      refine A_icmp_ge 20 dJ7_fill_53178_7 (by decide) (fun c7 => ?_) (fun c7 => ?_)
      · refine WA_aI (a := a) (k := 0) (n := i) (g := fun _ => v) up_eq hg (WA_h upH_upH ?_)
        exact A_vret dJ7_fill_53178_20 rfl ⟨by decide, by decide⟩
      · exact absurd (nI_le (Nat.le_refl _) (by omega)) c7
    | succ k ih =>
      intro i g hk hg
      refine A_iload_n dJ7_fill_53178_5 rfl rfl ?_
      refine A_iload_n dJ7_fill_53178_6 rfl rfl ?_
      refine A_icmp_ge 20 dJ7_fill_53178_7 (by decide) (fun c7 => ?_) (fun c7 => ?_)
      · exact absurd c7 (nI_ge (by omega) (by omega))
      · refine A_aload_n dJ7_fill_53178_10 rfl rfl ?_
        refine A_iload_n dJ7_fill_53178_11 rfl rfl ?_
        refine A_iload_n dJ7_fill_53178_12 rfl rfl ?_
        refine A_iast dJ7_fill_53178_13 up_eq (vp_in_nI (by omega) (by omega)) ?_
        rw [nI_clamp (by omega)]
        refine WA_h upH_upH ?_
        refine A_inc 1 (lv1 := [_, _, _, _]) dJ7_fill_53178_14 rfl (by decide) rfl rfl ?_
        refine A_goto 5 dJ7_fill_53178_17 (by decide) ?_
        rw [nI_1]
        exact ih (i + 1) (upd g i v) (by omega) (fun j hj => by by_cases e : j = i <;> simp [upd, e]; exact hg j (by omega))
  refine A_iconst (v := 0) dJ7_fill_53178_0 (by decide) ?_
  refine A_istore_n (lv1 := [_, _, _, _]) dJ7_fill_53178_1 rfl (Nat.le_of_ble_eq_true rfl) rfl rfl ?_
  refine A_aload_n dJ7_fill_53178_2 rfl rfl ?_
  refine A_alenI (v := nI _) dJ7_fill_53178_3 ha rfl ?_
  refine A_istore_n (lv1 := [_, _, _, _]) dJ7_fill_53178_4 rfl (Nat.le_of_ble_eq_true rfl) rfl rfl ?_
  have e := loop n 0 f (by omega) (fun j hj => by omega)
  rw [upH_self ha] at e
  exact e

def forR {α : Type} (f : Nat → α → α) : Nat → Nat → α → α
  | _, 0, c => c
  | i, k + 1, c => forR f (i + 1) k (f i c)
theorem forR_inv {α : Type} {f : Nat → α → α} (I : Nat → α → Prop) (N : Nat) (hs : ∀ i c, i < N → I i c → I (i + 1) (f i c)) : ∀ k i c, i + k ≤ N → I i c → I (i + k) (forR f i k c) := by
  intro k
  induction k with
  | zero => intro i c _ h; exact h
  | succ k ih =>
    intro i c hk h
    have := ih (i + 1) (f i c) (by omega) (hs i c (by omega) h)
    rw [show i + (k + 1) = i + 1 + k by omega]
    exact this
theorem forR_keep {α : Type} {f : Nat → α → α} (I : α → Prop) (hs : ∀ i c, I c → I (f i c)) (k i : Nat) (c : α) (h : I c) : I (forR f i k c) := forR_inv (fun _ c => I c) (i + k) (fun i c _ h => hs i c h) k i c (Nat.le_refl _) h
theorem A_fg {X : XC} {G : GX} {own : String} {cc : ByteArray} {ini : Bool} {ret : Option FieldType} {Qp : Option Value → AH → Prop} {d mc ms : Nat} {h : AH} {uc us pc : Nat} {lv : List (Option Value)} {st : List Value} (i : Nat) {lv1 : List (Option Value)} (h1 : lv.set i none = lv1) (k : WA X G own cc ini ret Qp d mc ms h uc us pc lv1 st) : WA X G own cc ini ret Qp d mc ms h uc us pc lv st := by
  subst h1
  obtain ⟨p, e, s, m, args, below, meth, c, h0⟩ := X
  intro H locs ls hX hR hS hdm hL
  refine k H locs ls (by simpa using hX) hR hS hdm ⟨by simp [hL.1], hL.2.1, fun j v hv => ?_⟩
  by_cases hj : i = j
  · subst hj
    by_cases hl : i < lv.length
    · rw [List.getElem?_set_self hl] at hv; cases hv
    · have := (List.getElem?_eq_some_iff.mp hv).1
      simp at this
      omega
  · rw [List.getElem?_set_ne hj] at hv
    exact hL.2.2 j v hv
abbrev tcl (x : Int32) : Nat := x.toNatClampNeg
/-- the lesser, as Math.min has it -/
def mn (x y : Int32) : Int32 := if y < x then y else x
theorem rAt_in {W N k c : Nat} {f : Nat → Int32} (hk : k < N) (hc : c < W) (hN : N * W < 2 ^ 31) : rAt (nI W) (nI N) f (nI k) (nI c) = f (W * k + c) := by
  have h1 : k * W + c < 2 ^ 31 := by
    have : (k + 1) * W ≤ N * W := Nat.mul_le_mul_right W hk
    have : (k + 1) * W = k * W + W := Nat.succ_mul k W
    omega
  have hW : W < 2 ^ 31 := by
    rcases Nat.eq_zero_or_pos N with h | h
    · omega
    · have : 1 * W ≤ N * W := Nat.mul_le_mul_right W h
      omega
  have hN2 : N < 2 ^ 31 := by
    rcases Nat.eq_zero_or_pos W with h | h
    · omega
    · have : N * 1 ≤ N * W := Nat.mul_le_mul_left N h
      omega
  rw [rAt, if_neg, pk_mul, nI_add, nI_clamp h1, Nat.mul_comm W k]
  rintro (z | z | z | z)
  · exact nI_pos (by omega) z
  · exact absurd z (nI_ge hk hN2)
  · exact nI_pos (by omega) z
  · exact absurd z (nI_ge hc hW)
theorem rAt_vp {W N c : Nat} {x : Int32} {f : Nat → Int32} (hx : vp_in x N) (hc : c < W) (hN : N * W < 2 ^ 31) (hN2 : N < 2 ^ 31) : rAt (nI W) (nI N) f x (nI c) = f (W * tcl x + c) := by
  obtain ⟨j, hj, rfl⟩ := vp_in_of hx hN2
  rw [rAt_in hj hc hN, tcl, nI_clamp (by omega)]
theorem vp_tcl {x : Int32} {n : Nat} (h : vp_in x n) : tcl x < n := Nat.not_le.mp fun q => h (Or.inr q)
theorem vp_mono {x : Int32} {n m : Nat} (h : vp_in x n) (hm : n ≤ m) : vp_in x m := fun q => h (q.imp id (fun z => Nat.le_trans hm z))
theorem c_at7 (G : GX) (b : Nat) (ci : Nat → Nat → Int32) (co : Nat → Nat → Option Nat) (r : Nat → Option AE) (n : Nat) {N i : Nat} (c : Nat) (hN : ci 7 2 = nI N) (hM : N ≤ 6) (hi : i < N) (hc : c < 5) : MA G 0 yX3_at cX3_at 3 (some .int) 0 0 [.ref (b + 7), .int (nI i), .int (nI c)] (HC b ci co r n) (qI fun x h1 => x = ci 8 (5 * i + c) ∧ h1 = HC b ci co r n) := by
  have e := c_at G (HC b ci co r n) (b + 7) (b + 8) (nI 6) (nI 5) (nI N) 30 (ci 8) (nI i) (nI c) ((HC_at (by decide)).trans (by rw [← hN]; rfl)) (HC_at (by decide)) (fun _ _ _ _ => by rw [pk_mul, nI_add]; exact vp_in_nI (by omega) (by decide))
  rw [rAt_in hi hc (by omega)] at e
  exact e
theorem c_at7v (G : GX) (b : Nat) (ci : Nat → Nat → Int32) (co : Nat → Nat → Option Nat) (r : Nat → Option AE) (n : Nat) {N : Nat} {x : Int32} (c : Nat) (hN : ci 7 2 = nI N) (hM : N ≤ 6) (hx : vp_in x N) (hc : c < 5) : MA G 0 yX3_at cX3_at 3 (some .int) 0 0 [.ref (b + 7), .int x, .int (nI c)] (HC b ci co r n) (qI fun y h1 => y = ci 8 (5 * tcl x + c) ∧ h1 = HC b ci co r n) := by
  obtain ⟨j, hj, rfl⟩ := vp_in_of hx (by omega)
  have e := c_at7 G b ci co r n (i := j) c hN hM hj hc
  rw [tcl, nI_clamp (by omega)]
  exact e
theorem c_at9 (G : GX) (b : Nat) (ci : Nat → Nat → Int32) (co : Nat → Nat → Option Nat) (r : Nat → Option AE) (n : Nat) {N i : Nat} (c : Nat) (hN : ci 9 2 = nI N) (hM : N ≤ 8) (hi : i < N) (hc : c < 5) : MA G 0 yX3_at cX3_at 3 (some .int) 0 0 [.ref (b + 9), .int (nI i), .int (nI c)] (HC b ci co r n) (qI fun x h1 => x = ci 10 (5 * i + c) ∧ h1 = HC b ci co r n) := by
  have e := c_at G (HC b ci co r n) (b + 9) (b + 10) (nI 8) (nI 5) (nI N) 40 (ci 10) (nI i) (nI c) ((HC_at (by decide)).trans (by rw [← hN]; rfl)) (HC_at (by decide)) (fun _ _ _ _ => by rw [pk_mul, nI_add]; exact vp_in_nI (by omega) (by decide))
  rw [rAt_in hi hc (by omega)] at e
  exact e
theorem c_at9v (G : GX) (b : Nat) (ci : Nat → Nat → Int32) (co : Nat → Nat → Option Nat) (r : Nat → Option AE) (n : Nat) {N : Nat} {x : Int32} (c : Nat) (hN : ci 9 2 = nI N) (hM : N ≤ 8) (hx : vp_in x N) (hc : c < 5) : MA G 0 yX3_at cX3_at 3 (some .int) 0 0 [.ref (b + 9), .int x, .int (nI c)] (HC b ci co r n) (qI fun y h1 => y = ci 10 (5 * tcl x + c) ∧ h1 = HC b ci co r n) := by
  obtain ⟨j, hj, rfl⟩ := vp_in_of hx (by omega)
  have e := c_at9 G b ci co r n (i := j) c hN hM hj hc
  rw [tcl, nI_clamp (by omega)]
  exact e
theorem c_at11 (G : GX) (b : Nat) (ci : Nat → Nat → Int32) (co : Nat → Nat → Option Nat) (r : Nat → Option AE) (n : Nat) {N i : Nat} (c : Nat) (hN : ci 11 2 = nI N) (hM : N ≤ 3) (hi : i < N) (hc : c < 4) : MA G 0 yX3_at cX3_at 3 (some .int) 0 0 [.ref (b + 11), .int (nI i), .int (nI c)] (HC b ci co r n) (qI fun x h1 => x = ci 12 (4 * i + c) ∧ h1 = HC b ci co r n) := by
  have e := c_at G (HC b ci co r n) (b + 11) (b + 12) (nI 3) (nI 4) (nI N) 12 (ci 12) (nI i) (nI c) ((HC_at (by decide)).trans (by rw [← hN]; rfl)) (HC_at (by decide)) (fun _ _ _ _ => by rw [pk_mul, nI_add]; exact vp_in_nI (by omega) (by decide))
  rw [rAt_in hi hc (by omega)] at e
  exact e
theorem c_at11v (G : GX) (b : Nat) (ci : Nat → Nat → Int32) (co : Nat → Nat → Option Nat) (r : Nat → Option AE) (n : Nat) {N : Nat} {x : Int32} (c : Nat) (hN : ci 11 2 = nI N) (hM : N ≤ 3) (hx : vp_in x N) (hc : c < 4) : MA G 0 yX3_at cX3_at 3 (some .int) 0 0 [.ref (b + 11), .int x, .int (nI c)] (HC b ci co r n) (qI fun y h1 => y = ci 12 (4 * tcl x + c) ∧ h1 = HC b ci co r n) := by
  obtain ⟨j, hj, rfl⟩ := vp_in_of hx (by omega)
  have e := c_at11 G b ci co r n (i := j) c hN hM hj hc
  rw [tcl, nI_clamp (by omega)]
  exact e
theorem c_at13 (G : GX) (b : Nat) (ci : Nat → Nat → Int32) (co : Nat → Nat → Option Nat) (r : Nat → Option AE) (n : Nat) {N i : Nat} (c : Nat) (hN : ci 13 2 = nI N) (hM : N ≤ 8) (hi : i < N) (hc : c < 5) : MA G 0 yX3_at cX3_at 3 (some .int) 0 0 [.ref (b + 13), .int (nI i), .int (nI c)] (HC b ci co r n) (qI fun x h1 => x = ci 14 (5 * i + c) ∧ h1 = HC b ci co r n) := by
  have e := c_at G (HC b ci co r n) (b + 13) (b + 14) (nI 8) (nI 5) (nI N) 40 (ci 14) (nI i) (nI c) ((HC_at (by decide)).trans (by rw [← hN]; rfl)) (HC_at (by decide)) (fun _ _ _ _ => by rw [pk_mul, nI_add]; exact vp_in_nI (by omega) (by decide))
  rw [rAt_in hi hc (by omega)] at e
  exact e
theorem c_at13v (G : GX) (b : Nat) (ci : Nat → Nat → Int32) (co : Nat → Nat → Option Nat) (r : Nat → Option AE) (n : Nat) {N : Nat} {x : Int32} (c : Nat) (hN : ci 13 2 = nI N) (hM : N ≤ 8) (hx : vp_in x N) (hc : c < 5) : MA G 0 yX3_at cX3_at 3 (some .int) 0 0 [.ref (b + 13), .int x, .int (nI c)] (HC b ci co r n) (qI fun y h1 => y = ci 14 (5 * tcl x + c) ∧ h1 = HC b ci co r n) := by
  obtain ⟨j, hj, rfl⟩ := vp_in_of hx (by omega)
  have e := c_at13 G b ci co r n (i := j) c hN hM hj hc
  rw [tcl, nI_clamp (by omega)]
  exact e
theorem c_has7 (G : GX) {b : Nat} {ci : Nat → Nat → Int32} {co : Nat → Nat → Option Nat} {r : Nat → Option AE} {n : Nat} {x : Int32} : MA G 0 yX3_has cX3_has 2 (some .boolean) 0 0 [.ref (b + 7), .int x] (HC b ci co r n) (qI fun y h1 => y = inI x (ci 7 2) ∧ h1 = HC b ci co r n) := c_has G (HC b ci co r n) (b + 7) (b + 8) (nI 6) (nI 5) (ci 7 2) x (HC_at (by decide))
theorem c_has9 (G : GX) {b : Nat} {ci : Nat → Nat → Int32} {co : Nat → Nat → Option Nat} {r : Nat → Option AE} {n : Nat} {x : Int32} : MA G 0 yX3_has cX3_has 2 (some .boolean) 0 0 [.ref (b + 9), .int x] (HC b ci co r n) (qI fun y h1 => y = inI x (ci 9 2) ∧ h1 = HC b ci co r n) := c_has G (HC b ci co r n) (b + 9) (b + 10) (nI 8) (nI 5) (ci 9 2) x (HC_at (by decide))
theorem c_has11 (G : GX) {b : Nat} {ci : Nat → Nat → Int32} {co : Nat → Nat → Option Nat} {r : Nat → Option AE} {n : Nat} {x : Int32} : MA G 0 yX3_has cX3_has 2 (some .boolean) 0 0 [.ref (b + 11), .int x] (HC b ci co r n) (qI fun y h1 => y = inI x (ci 11 2) ∧ h1 = HC b ci co r n) := c_has G (HC b ci co r n) (b + 11) (b + 12) (nI 3) (nI 4) (ci 11 2) x (HC_at (by decide))
theorem c_has13 (G : GX) {b : Nat} {ci : Nat → Nat → Int32} {co : Nat → Nat → Option Nat} {r : Nat → Option AE} {n : Nat} {x : Int32} : MA G 0 yX3_has cX3_has 2 (some .boolean) 0 0 [.ref (b + 13), .int x] (HC b ci co r n) (qI fun y h1 => y = inI x (ci 13 2) ∧ h1 = HC b ci co r n) := c_has G (HC b ci co r n) (b + 13) (b + 14) (nI 8) (nI 5) (ci 13 2) x (HC_at (by decide))