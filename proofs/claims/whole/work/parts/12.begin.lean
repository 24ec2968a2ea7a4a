theorem st1_st1 {α : Type} {c : Nat → α} {k : Nat} {g g' : α} : st1 (st1 c k g) k g' = st1 c k g' := by
  funext l
  simp only [st1]
  by_cases h : l = k <;> simp [h]
/-- a row of the class' world: what stands behind its end may be anything -/
theorem WA_rowC {X : XC} {G : GX} {own : String} {cc : ByteArray} {ini : Bool} {ret : Option FieldType} {Qp : Option Value → AH → Prop} {d mc ms : Nat} {uc us pc : Nat} {lv : List (Option Value)} {st : List Value} {b : Nat} {c : CT} {co : Nat → Nat → Option Nat} {r : Nat → Option AE} {n k len : Nat} (F : Nat → Int32) (hk : k < 55) (hm : ∀ f, mkC b k f (co k) = aI len f) (hF : ∀ i, i < len → c k i = F i) (kk : WA X G own cc ini ret Qp d mc ms (HC b (st1 c k F) co r n) uc us pc lv st) : WA X G own cc ini ret Qp d mc ms (HC b c co r n) uc us pc lv st := by
  refine WA_aI (a := b + k) (k := 0) (n := len) (f := c k) (g := F) ((HC_at hk).trans (congrArg some (hm _))) hF (WA_h (HC_up hk (hm F)) kk)
theorem WA_rowZ {X : XC} {G : GX} {own : String} {cc : ByteArray} {ini : Bool} {ret : Option FieldType} {Qp : Option Value → AH → Prop} {d mc ms : Nat} {uc us pc : Nat} {lv : List (Option Value)} {st : List Value} {b : Nat} {c : CT} {co : Nat → Nat → Option Nat} {r : Nat → Option AE} {n k len : Nat} (F : Nat → Int32) (hk : k < 55) (hm : ∀ f, mkC b k f (co k) = aZ len f) (hF : ∀ i, i < len → c k i = F i) (kk : WA X G own cc ini ret Qp d mc ms (HC b (st1 c k F) co r n) uc us pc lv st) : WA X G own cc ini ret Qp d mc ms (HC b c co r n) uc us pc lv st := by
  refine WA_aI (a := b + k) (k := 3) (n := len) (f := c k) (g := F) ((HC_at hk).trans (congrArg some (hm _))) hF (WA_h (HC_up hk (hm F)) kk)
theorem st1_sw {α : Type} {c : Nat → α} {k l : Nat} {f g h : α} (hkl : k ≠ l) : st1 (st1 (st1 c k f) l g) k h = st1 (st1 c k h) l g := by
  funext x
  simp only [st1]
  by_cases e : x = k
  · subst e; simp [hkl]
  · simp [e]
theorem put_st1 {α : Type} {c : Nat → Nat → α} {k i : Nat} {g : Nat → α} {v : α} : put (st1 c k g) k i v = st1 c k (fun j => if j = i then v else g j) := by
  funext x
  simp only [put, st1]
  by_cases e : x = k
  · subst e; simp
  · simp [e]
theorem put_st1_ne {α : Type} {c : Nat → Nat → α} {k l i : Nat} {g : Nat → α} {v : α} (hkl : k ≠ l) : put (st1 c l g) k i v = st1 (put c k i v) l g := by
  funext x
  simp only [put, st1]
  by_cases e : x = k
  · subst e; simp [hkl]
  · simp [e]
theorem rAt_out {W N k c : Nat} {f : Nat → Int32} (hk : N ≤ k) (hk2 : k < 2 ^ 31) : rAt (nI W) (nI N) f (nI k) (nI c) = 0 := by
  rw [rAt, if_pos (Or.inr (Or.inl (nI_le hk hk2)))]

theorem c_at7z (G : GX) (b : Nat) (ci : Nat → Nat → Int32) (co : Nat → Nat → Option Nat) (r : Nat → Option AE) (n : Nat) {N i : Nat} (c : Nat) (hN : ci 7 2 = nI N) (hM : N ≤ 6) (hi : i < 100) (hc : c < 5) : MA G 0 yX3_at cX3_at 3 (some .int) 0 0 [.ref (b + 7), .int (nI i), .int (nI c)] (HC b ci co r n) (qI fun x h1 => x = (if i < N then ci 8 (5 * i + c) else 0) ∧ h1 = HC b ci co r n) := by
  by_cases h : i < N
  · rw [if_pos h]; exact c_at7 G b ci co r n c hN hM h hc
  · rw [if_neg h]
    have e := c_at G (HC b ci co r n) (b + 7) (b + 8) (nI 6) (nI 5) (nI N) 30 (ci 8) (nI i) (nI c) ((HC_at (by decide)).trans (by rw [← hN]; rfl)) (HC_at (by decide)) (fun _ z _ _ => absurd z (nI_nlt (by omega) (by omega)))
    rw [rAt_out (by omega) (by omega)] at e
    exact e
theorem c_at11z (G : GX) (b : Nat) (ci : Nat → Nat → Int32) (co : Nat → Nat → Option Nat) (r : Nat → Option AE) (n : Nat) {N i : Nat} (c : Nat) (hN : ci 11 2 = nI N) (hM : N ≤ 3) (hi : i < 100) (hc : c < 4) : MA G 0 yX3_at cX3_at 3 (some .int) 0 0 [.ref (b + 11), .int (nI i), .int (nI c)] (HC b ci co r n) (qI fun x h1 => x = (if i < N then ci 12 (4 * i + c) else 0) ∧ h1 = HC b ci co r n) := by
  by_cases h : i < N
  · rw [if_pos h]; exact c_at11 G b ci co r n c hN hM h hc
  · rw [if_neg h]
    have e := c_at G (HC b ci co r n) (b + 11) (b + 12) (nI 3) (nI 4) (nI N) 12 (ci 12) (nI i) (nI c) ((HC_at (by decide)).trans (by rw [← hN]; rfl)) (HC_at (by decide)) (fun _ z _ _ => absurd z (nI_nlt (by omega) (by omega)))
    rw [rAt_out (by omega) (by omega)] at e
    exact e
def sumI (f : Nat → Int32) : Nat → Int32
  | 0 => 0
  | n + 1 => sumI f n + f n
theorem c_together (G : GX) {h : AH} {a n : Nat} {f : Nat → Int32} (ha : h.1 a = some (aI n f)) (hn : n < 2 ^ 31) : MA G 0 yX9_together cX9_together 6 (some .int) 0 0 [.ref a] h (qI fun x h1 => x = sumI f n ∧ h1 = h) := by
  refine MA.of (own := RX9) false [some (.ref a), none, none, none, none, none] (by decide +kernel) rfl (fun h => by cases h) (Nat.le_of_ble_eq_true rfl) rfl (fun X => ?_)
  have loop : ∀ (k i : Nat), i + k = n → WA X G RX9 cX9_together false (some .int) (qI fun x h1 => x = sumI f n ∧ h1 = h) 0 0 0 h 0 0 10 [some (.ref a), some (.int (sumI f i)), some (.ref a), some (.int (nI n)), some (.int (nI i)), none] [] := by
    intro k
    induction k with
    | zero =>
      intro i hk
      have e : i = n := by omega
      subst e
      refine A_iload dX9_together_10 rfl ?_
      refine A_iload_n dX9_together_12 rfl rfl ?_
      refine A_icmp_ge 33 dX9_together_13 (by decide) (fun c13 => ?_) (fun c13 => ?_)
      · refine A_iload_n dX9_together_33 rfl rfl ?_
        exact A_iret dX9_together_34 ⟨rfl, rfl⟩ ⟨by decide, by decide⟩
      · exact absurd (nI_le (Nat.le_refl _) (by omega)) c13
    | succ k ih =>
      intro i hk
      refine A_iload dX9_together_10 rfl ?_
      refine A_iload_n dX9_together_12 rfl rfl ?_
      refine A_icmp_ge 33 dX9_together_13 (by decide) (fun c13 => ?_) (fun c13 => ?_)
      · exact absurd c13 (nI_ge (by omega) (by omega))
      · refine A_aload_n dX9_together_16 rfl rfl ?_
        refine A_iload dX9_together_17 rfl ?_
        refine A_iald dX9_together_19 ha (vp_in_nI (by omega) (by omega)) ?_
        rw [nI_clamp (by omega)]
        refine A_istore (lv1 := [_, _, _, _, _, _]) dX9_together_20 (Nat.le_of_ble_eq_true rfl) rfl rfl ?_
        refine A_iload_n dX9_together_22 rfl rfl ?_
        refine A_iload dX9_together_23 rfl ?_
        refine A_iadd dX9_together_25 ?_
        refine A_istore_n (lv1 := [_, _, _, _, _, _]) dX9_together_26 rfl (Nat.le_of_ble_eq_true rfl) rfl rfl ?_
        refine A_inc 1 (lv1 := [_, _, _, _, _, _]) dX9_together_27 rfl (by decide) rfl rfl ?_
        refine A_goto 10 dX9_together_30 (by decide) ?_
        refine A_fg 5 (lv1 := [_, _, _, _, _, _]) rfl ?_
        rw [nI_1]
        exact ih (i + 1) (by omega)
  refine A_iconst (v := 0) dX9_together_0 (by decide) ?_
  refine A_istore_n (lv1 := [_, _, _, _, _, _]) dX9_together_1 rfl (Nat.le_of_ble_eq_true rfl) rfl rfl ?_
  refine A_aload_n dX9_together_2 rfl rfl ?_
  refine A_astore_n (lv1 := [_, _, _, _, _, _]) dX9_together_3 rfl (Nat.le_of_ble_eq_true rfl) rfl rfl ?_
  refine A_aload_n dX9_together_4 rfl rfl ?_
  refine A_alenI (v := nI _) dX9_together_5 ha rfl ?_
  refine A_istore_n (lv1 := [_, _, _, _, _, _]) dX9_together_6 rfl (Nat.le_of_ble_eq_true rfl) rfl rfl ?_
  refine A_iconst (v := 0) dX9_together_7 (by decide) ?_
  refine A_istore (lv1 := [_, _, _, _, _, _]) dX9_together_8 (Nat.le_of_ble_eq_true rfl) rfl rfl ?_
  exact loop n 0 (by omega)

def shortF (c : CT) : Int32 := sumI (c 33) 3 - sumI (c 34) 3 + sumI (c 36) 8 - sumI (c 37) 8
theorem c_shortInAll (G : GX) {b : Nat} {c : CT} {co : Nat → Nat → Option Nat} {r : Nat → Option AE} {n : Nat} : MA G 1 yX8_shortInAll cX8_shortInAll 1 (some .int) 0 0 [.ref (b + 28)] (HC b c co r n) (qI fun x h1 => x = shortF c ∧ h1 = (HC b c co r n)) := by
  refine MA.of (own := RX8) false [some (.ref (b + 28))] (by decide +kernel) rfl (fun h => by cases h) (Nat.le_of_ble_eq_true rfl) rfl (fun X => ?_)
  refine A_aload_n dX8_shortInAll_0 rfl rfl ?_
  refine A_get dX8_shortInAll_1 f_X8_24 (HC_at (by decide)) rfl ?_
  refine A_callSNi dX8_shortInAll_4 m_X8_133 cb_X9_together (As := [_]) rfl (c_together G (HC_at (by decide)) (by decide)) rfl ⟨by decide, by decide⟩ (Nat.le_of_ble_eq_true rfl) ⟨by decide, by decide⟩ (fun x4 h4 hq => ?_)
  obtain ⟨rfl, rfl⟩ := hq
  refine A_aload_n dX8_shortInAll_7 rfl rfl ?_
  refine A_get dX8_shortInAll_8 f_X8_27 (HC_at (by decide)) rfl ?_
  refine A_callSNi dX8_shortInAll_11 m_X8_133 cb_X9_together (As := [_]) rfl (c_together G (HC_at (by decide)) (by decide)) rfl ⟨by decide, by decide⟩ (Nat.le_of_ble_eq_true rfl) ⟨by decide, by decide⟩ (fun x11 h11 hq => ?_)
  obtain ⟨rfl, rfl⟩ := hq
  refine A_isub dX8_shortInAll_14 ?_
  refine A_aload_n dX8_shortInAll_15 rfl rfl ?_
  refine A_get dX8_shortInAll_16 f_X8_33 (HC_at (by decide)) rfl ?_
  refine A_callSNi dX8_shortInAll_19 m_X8_133 cb_X9_together (As := [_]) rfl (c_together G (HC_at (by decide)) (by decide)) rfl ⟨by decide, by decide⟩ (Nat.le_of_ble_eq_true rfl) ⟨by decide, by decide⟩ (fun x19 h19 hq => ?_)
  obtain ⟨rfl, rfl⟩ := hq
  refine A_iadd dX8_shortInAll_22 ?_
  refine A_aload_n dX8_shortInAll_23 rfl rfl ?_
  refine A_get dX8_shortInAll_24 f_X8_36 (HC_at (by decide)) rfl ?_
  refine A_callSNi dX8_shortInAll_27 m_X8_133 cb_X9_together (As := [_]) rfl (c_together G (HC_at (by decide)) (by decide)) rfl ⟨by decide, by decide⟩ (Nat.le_of_ble_eq_true rfl) ⟨by decide, by decide⟩ (fun x27 h27 hq => ?_)
  obtain ⟨rfl, rfl⟩ := hq
  refine A_isub dX8_shortInAll_30 ?_
  exact A_iret dX8_shortInAll_31 ⟨rfl, rfl⟩ ⟨by decide, by decide⟩

theorem c_waterBehind (G : GX) {b : Nat} {c : CT} {co : Nat → Nat → Option Nat} {r : Nat → Option AE} {n : Nat} {v w : Nat} (hv : v < 6) (hw : w < 30) : MA G 0 yX8_waterBehind cX8_waterBehind 3 (some .int) 0 0 [.ref (b + 28), .int (nI v), .int (nI w)] (HC b c co r n) (qI fun x h1 => x = c 31 (v * 30 + w) ∧ h1 = (HC b c co r n)) := by
  refine MA.of (own := RX8) false [some (.ref (b + 28)), some (.int (nI v)), some (.int (nI w))] (by decide +kernel) rfl (fun h => by cases h) (Nat.le_of_ble_eq_true rfl) rfl (fun X => ?_)
  refine A_iload_n dX8_waterBehind_0 rfl rfl ?_
  refine A_if_lt 20 dX8_waterBehind_1 (by decide) (fun c1 => ?_) (fun c1 => ?_)
  · exact absurd c1 (nI_pos (by omega))
  · refine A_iload_n dX8_waterBehind_4 rfl rfl ?_
    refine A_bipush (v := 6) dX8_waterBehind_5 (by decide) ?_
    refine A_icmp_ge 20 dX8_waterBehind_7 (by decide) (fun c7 => ?_) (fun c7 => ?_)
    · exact absurd c7 (nI_ge (b := 6) hv (by decide))
    · refine A_iload_n dX8_waterBehind_10 rfl rfl ?_
      refine A_if_lt 20 dX8_waterBehind_11 (by decide) (fun c11 => ?_) (fun c11 => ?_)
      · exact absurd c11 (nI_pos (by omega))
      · refine A_iload_n dX8_waterBehind_14 rfl rfl ?_
        refine A_bipush (v := 30) dX8_waterBehind_15 (by decide) ?_
        refine A_icmp_lt 22 dX8_waterBehind_17 (by decide) (fun c17 => ?_) (fun c17 => ?_)
        · refine A_aload_n dX8_waterBehind_22 rfl rfl ?_
          refine A_get dX8_waterBehind_23 f_X8_18 (HC_at (by decide)) rfl ?_
          refine A_iload_n dX8_waterBehind_26 rfl rfl ?_
          refine A_bipush (v := 30) dX8_waterBehind_27 (by decide) ?_
          refine A_imul dX8_waterBehind_29 ?_
          refine A_iload_n dX8_waterBehind_30 rfl rfl ?_
          refine A_iadd dX8_waterBehind_31 ?_
          rw [show (30 : Int32) = nI 30 from rfl, pk_mul, nI_add]
          refine A_ialdN dX8_waterBehind_32 (HC_at (by decide)) (by omega) (by decide) ?_
          exact A_iret dX8_waterBehind_33 ⟨rfl, rfl⟩ ⟨by decide, by decide⟩
        · exact absurd (nI_lt (b := 30) hw (by decide)) c17

def zF : Nat → Int32 := fun _ => 0
def tkF (c : CT) : Nat → Int32 := fun j => if j < tcl (c 11 2) then c 12 (4 * j + 3) else 0
def waF (c : CT) : Nat → Int32 := fun j => if j < tcl (c 7 2) then c 8 (5 * j + 1) else 0
def beginF (c : CT) : CT := put (put (put (put (st1 (st1 (st1 (st1 (st1 (st1 (st1 (st1 (st1 (st1 (st1 (st1 (put (put c 28 2 (c 6 7)) 28 3 (-1)) 29 (tkF c)) 30 (waF c)) 41 (fun _ => 0)) 32 (fun _ => 0)) 33 (fun _ => 0)) 34 (fun _ => 0)) 35 (fun _ => 0)) 36 (fun _ => 0)) 37 (fun _ => 0)) 38 (fun _ => 0)) 39 (fun _ => 0)) 40 (fun _ => -1)) 28 16 0) 28 17 0) 28 18 0) 28 19 (-1)
theorem begin_t2 (G : GX) (X : XC) {b : Nat} {d D : CT} {co : Nat → Nat → Option Nat} {r : Nat → Option AE} {n : Nat} {u1 u2 : Nat} (hu : u1 = 0 ∧ u2 = 0) (hD : put (put (put (put (st1 (st1 (st1 (st1 d 37 (fun _ => 0)) 38 (fun _ => 0)) 39 (fun _ => 0)) 40 (fun _ => -1)) 28 16 0) 28 17 0) 28 18 0) 28 19 (-1) = D) : WA X G RX8 cX8_begin false none (qV fun h1 => h1 = HC b D co r n) 1 0 0 (HC b d co r n) u1 u2 126 [some (.ref (b + 28)), none] [] := by
  obtain ⟨rfl, rfl⟩ := hu
  refine A_aload_n dX8_begin_126 rfl rfl ?_
  refine A_get dX8_begin_127 f_X8_36 (HC_at (by decide)) rfl ?_
  refine A_iconst (v := 0) dX8_begin_130 (by decide) ?_
  refine A_callSv dX8_begin_131 m_X8_81 cb_J7_fill_53178 (As := [_, _]) rfl (c_fill G (HC b _ co r n) (b + 37) _ _ _ (HC_at (by decide)) (by decide)) rfl ⟨by decide, by decide⟩ (Nat.le_of_ble_eq_true rfl) ⟨by decide, by decide⟩ (fun h131 hq => ?_)
  obtain rfl := hq
  refine WA_h (HC_up (by decide) rfl) ?_
  generalize e37 : st1 d 37 _ = d37
  refine A_aload_n dX8_begin_134 rfl rfl ?_
  refine A_get dX8_begin_135 f_X8_39 (HC_at (by decide)) rfl ?_
  refine A_iconst (v := 0) dX8_begin_138 (by decide) ?_
  refine A_callSv dX8_begin_139 m_X8_81 cb_J7_fill_53178 (As := [_, _]) rfl (c_fill G (HC b _ co r n) (b + 38) _ _ _ (HC_at (by decide)) (by decide)) rfl ⟨by decide, by decide⟩ (Nat.le_of_ble_eq_true rfl) ⟨by decide, by decide⟩ (fun h139 hq => ?_)
  obtain rfl := hq
  refine WA_h (HC_up (by decide) rfl) ?_
  generalize e38 : st1 d37 38 _ = d38
  refine A_aload_n dX8_begin_142 rfl rfl ?_
  refine A_get dX8_begin_143 f_X8_42 (HC_at (by decide)) rfl ?_
  refine A_iconst (v := 0) dX8_begin_146 (by decide) ?_
  refine A_callSv dX8_begin_147 m_X8_81 cb_J7_fill_53178 (As := [_, _]) rfl (c_fill G (HC b _ co r n) (b + 39) _ _ _ (HC_at (by decide)) (by decide)) rfl ⟨by decide, by decide⟩ (Nat.le_of_ble_eq_true rfl) ⟨by decide, by decide⟩ (fun h147 hq => ?_)
  obtain rfl := hq
  refine WA_h (HC_up (by decide) rfl) ?_
  generalize e39 : st1 d38 39 _ = d39
  refine A_aload_n dX8_begin_150 rfl rfl ?_
  refine A_get dX8_begin_151 f_X8_45 (HC_at (by decide)) rfl ?_
  refine A_iconst (v := (-1)) dX8_begin_154 (by decide) ?_
  refine A_callSv dX8_begin_155 m_X8_81 cb_J7_fill_53178 (As := [_, _]) rfl (c_fill G (HC b _ co r n) (b + 40) _ _ _ (HC_at (by decide)) (by decide)) rfl ⟨by decide, by decide⟩ (Nat.le_of_ble_eq_true rfl) ⟨by decide, by decide⟩ (fun h155 hq => ?_)
  obtain rfl := hq
  refine WA_h (HC_up (by decide) rfl) ?_
  generalize e40 : st1 d39 40 _ = d40
  refine A_aload_n dX8_begin_158 rfl rfl ?_
  refine A_iconst (v := 0) dX8_begin_159 (by decide) ?_
  refine A_putC 16 dX8_begin_160 p_X8_87 (by decide) rfl (Nat.le_of_ble_eq_true rfl) rfl ?_
  generalize f16 : put d40 28 16 _ = d16
  refine A_aload_n dX8_begin_163 rfl rfl ?_
  refine A_iconst (v := 0) dX8_begin_164 (by decide) ?_
  refine A_putC 17 dX8_begin_165 p_X8_90 (by decide) rfl (Nat.le_of_ble_eq_true rfl) rfl ?_
  generalize f17 : put d16 28 17 _ = d17
  refine A_aload_n dX8_begin_168 rfl rfl ?_
  refine A_iconst (v := 0) dX8_begin_169 (by decide) ?_
  refine A_putC 18 dX8_begin_170 p_X8_93 (by decide) rfl (Nat.le_of_ble_eq_true rfl) rfl ?_
  generalize f18 : put d17 28 18 _ = d18
  refine A_aload_n dX8_begin_173 rfl rfl ?_
  refine A_iconst (v := (-1)) dX8_begin_174 (by decide) ?_
  refine A_putC 19 dX8_begin_175 p_X8_96 (by decide) rfl (Nat.le_of_ble_eq_true rfl) rfl ?_
  exact A_vret dX8_begin_178 (by rw [← hD, ← f18, ← f17, ← f16, ← e40, ← e39, ← e38, ← e37]) ⟨by decide, by decide⟩
theorem begin_t1 (G : GX) (X : XC) {b : Nat} {d D : CT} {co : Nat → Nat → Option Nat} {r : Nat → Option AE} {n : Nat} {u1 u2 : Nat} (hu : u1 = 0 ∧ u2 = 0) (hD : put (put (put (put (st1 (st1 (st1 (st1 (st1 (st1 (st1 (st1 (st1 d 32 (fun _ => 0)) 33 (fun _ => 0)) 34 (fun _ => 0)) 35 (fun _ => 0)) 36 (fun _ => 0)) 37 (fun _ => 0)) 38 (fun _ => 0)) 39 (fun _ => 0)) 40 (fun _ => -1)) 28 16 0) 28 17 0) 28 18 0) 28 19 (-1) = D) : WA X G RX8 cX8_begin false none (qV fun h1 => h1 = HC b D co r n) 1 0 0 (HC b d co r n) u1 u2 86 [some (.ref (b + 28)), none] [] := by
  obtain ⟨rfl, rfl⟩ := hu
  refine A_aload_n dX8_begin_86 rfl rfl ?_
  refine A_get dX8_begin_87 f_X8_21 (HC_at (by decide)) rfl ?_
  refine A_iconst (v := 0) dX8_begin_90 (by decide) ?_
  refine A_callSv dX8_begin_91 m_X8_81 cb_J7_fill_53178 (As := [_, _]) rfl (c_fill G (HC b _ co r n) (b + 32) _ _ _ (HC_at (by decide)) (by decide)) rfl ⟨by decide, by decide⟩ (Nat.le_of_ble_eq_true rfl) ⟨by decide, by decide⟩ (fun h91 hq => ?_)
  obtain rfl := hq
  refine WA_h (HC_up (by decide) rfl) ?_
  generalize e32 : st1 d 32 _ = d32
  refine A_aload_n dX8_begin_94 rfl rfl ?_
  refine A_get dX8_begin_95 f_X8_24 (HC_at (by decide)) rfl ?_
  refine A_iconst (v := 0) dX8_begin_98 (by decide) ?_
  refine A_callSv dX8_begin_99 m_X8_81 cb_J7_fill_53178 (As := [_, _]) rfl (c_fill G (HC b _ co r n) (b + 33) _ _ _ (HC_at (by decide)) (by decide)) rfl ⟨by decide, by decide⟩ (Nat.le_of_ble_eq_true rfl) ⟨by decide, by decide⟩ (fun h99 hq => ?_)
  obtain rfl := hq
  refine WA_h (HC_up (by decide) rfl) ?_
  generalize e33 : st1 d32 33 _ = d33
  refine A_aload_n dX8_begin_102 rfl rfl ?_
  refine A_get dX8_begin_103 f_X8_27 (HC_at (by decide)) rfl ?_
  refine A_iconst (v := 0) dX8_begin_106 (by decide) ?_
  refine A_callSv dX8_begin_107 m_X8_81 cb_J7_fill_53178 (As := [_, _]) rfl (c_fill G (HC b _ co r n) (b + 34) _ _ _ (HC_at (by decide)) (by decide)) rfl ⟨by decide, by decide⟩ (Nat.le_of_ble_eq_true rfl) ⟨by decide, by decide⟩ (fun h107 hq => ?_)
  obtain rfl := hq
  refine WA_h (HC_up (by decide) rfl) ?_
  generalize e34 : st1 d33 34 _ = d34
  refine A_aload_n dX8_begin_110 rfl rfl ?_
  refine A_get dX8_begin_111 f_X8_30 (HC_at (by decide)) rfl ?_
  refine A_iconst (v := 0) dX8_begin_114 (by decide) ?_
  refine A_callSv dX8_begin_115 m_X8_81 cb_J7_fill_53178 (As := [_, _]) rfl (c_fill G (HC b _ co r n) (b + 35) _ _ _ (HC_at (by decide)) (by decide)) rfl ⟨by decide, by decide⟩ (Nat.le_of_ble_eq_true rfl) ⟨by decide, by decide⟩ (fun h115 hq => ?_)
  obtain rfl := hq
  refine WA_h (HC_up (by decide) rfl) ?_
  generalize e35 : st1 d34 35 _ = d35
  refine A_aload_n dX8_begin_118 rfl rfl ?_
  refine A_get dX8_begin_119 f_X8_33 (HC_at (by decide)) rfl ?_
  refine A_iconst (v := 0) dX8_begin_122 (by decide) ?_
  refine A_callSv dX8_begin_123 m_X8_81 cb_J7_fill_53178 (As := [_, _]) rfl (c_fill G (HC b _ co r n) (b + 36) _ _ _ (HC_at (by decide)) (by decide)) rfl ⟨by decide, by decide⟩ (Nat.le_of_ble_eq_true rfl) ⟨by decide, by decide⟩ (fun h123 hq => ?_)
  obtain rfl := hq
  refine WA_h (HC_up (by decide) rfl) ?_
  generalize e36 : st1 d35 36 _ = d36
  exact begin_t2 G X ⟨rfl, rfl⟩ (by rw [← hD, ← e36, ← e35, ← e34, ← e33, ← e32])
set_option maxRecDepth 100000 in
theorem c_begin (G : GX) {b : Nat} {c : CT} {co : Nat → Nat → Option Nat} {r : Nat → Option AE} {n : Nat} {nv nc nf nl wk : Nat} (hI : IX c nv nc nf nl wk) : MA G 1 yX8_begin cX8_begin 2 none 0 0 [.ref (b + 28)] (HC b c co r n) (qV fun h1 => h1 = HC b (beginF c) co r n) := by
  refine MA.of (own := RX8) false [some (.ref (b + 28)), none] (by decide +kernel) rfl (fun h => by cases h) (Nat.le_of_ble_eq_true rfl) rfl (fun X => ?_)
  obtain ⟨hv, hv6, hc, hc8, hf, hf3, hl, hl8, hw, hw30, gC, gL⟩ := id hI
  have htk : ∀ j, j < 100 → tkF c j = if j < nf then c 12 (4 * j + 3) else 0 := fun j hj => by rw [tkF, hf, tcl, nI_clamp (by omega)]
  have hwa : ∀ j, j < 100 → waF c j = if j < nv then c 8 (5 * j + 1) else 0 := fun j hj => by rw [waF, hv, tcl, nI_clamp (by omega)]
  have loop2 : ∀ (k i : Nat) (g g2 : Nat → Int32), i + k = 6 → (∀ j, j < i → g j = waF c j) → (∀ j, j < i → g2 j = 0) → WA X G RX8 cX8_begin false none (qV fun h1 => h1 = HC b (beginF c) co r n) 1 0 0 (HC b (st1 (st1 (st1 (put (put c 28 2 (c 6 7)) 28 3 (-1)) 29 (tkF c)) 30 g) 41 g2) co r n) 0 0 49 [some (.ref (b + 28)), some (.int (nI i))] [] := by
    intro k
    induction k with
    | zero =>
      intro i g g2 hk hg hg2
      have e : i = 6 := by omega
      subst e
      refine WA_rowZ (k := 41) (fun _ => 0) (by decide) (fun _ => rfl) (fun i hi => by rw [st1_eq]; exact hg2 i hi) ?_
      rw [st1_st1]
      refine WA_rowC (k := 30) (waF c) (by decide) (fun _ => rfl) (fun i hi => by rw [st1_ne (by decide), st1_eq]; exact hg i hi) ?_
      rw [st1_sw (by decide)]
      refine A_iload_n dX8_begin_49 rfl rfl ?_
      refine A_bipush (v := 6) dX8_begin_50 (by decide) ?_
      refine A_icmp_ge 86 dX8_begin_52 (by decide) (fun c52 => ?_) (fun c52 => ?_)
      · refine A_fg 1 (lv1 := [_, _]) rfl ?_
        exact begin_t1 G X ⟨rfl, rfl⟩ rfl
      · exact absurd (by decide) c52
    | succ k ih =>
      intro i g g2 hk hg hg2
      refine A_iload_n dX8_begin_49 rfl rfl ?_
      refine A_bipush (v := 6) dX8_begin_50 (by decide) ?_
      refine A_icmp_ge 86 dX8_begin_52 (by decide) (fun c52 => ?_) (fun c52 => ?_)
      · exact absurd c52 (nI_ge (b := 6) (by omega) (by decide))
      · refine A_aload_n dX8_begin_55 rfl rfl ?_
        refine A_get dX8_begin_56 f_X8_15 (HC_at (by decide)) rfl ?_
        refine A_iload_n dX8_begin_59 rfl rfl ?_
        refine A_aload_n dX8_begin_60 rfl rfl ?_
        refine A_get dX8_begin_61 f_X8_52 (HC_at (by decide)) rfl ?_
        refine A_get dX8_begin_64 f_X8_78 (HC_at (by decide)) rfl ?_
        refine A_iload_n dX8_begin_67 rfl rfl ?_
        refine A_iconst (v := 1) dX8_begin_68 (by decide) ?_
        refine A_callVi dX8_begin_69 m_X8_72 cb_X3_at (As := [_, _]) rfl (HC_at (by decide)) rfl (c_at7z G b _ co r n 1 hv hv6 (by omega) (by decide)) rfl ⟨by decide, by decide⟩ (Nat.le_of_ble_eq_true rfl) ⟨by decide, by decide⟩ (fun x69 h69 hq => ?_)
        obtain ⟨rfl, rfl⟩ := hq
        refine A_iastCN dX8_begin_72 (by decide) (fun _ => rfl) (by omega) (by decide) ?_
        refine A_aload_n dX8_begin_73 rfl rfl ?_
        refine A_get dX8_begin_74 f_X8_48 (HC_at (by decide)) rfl ?_
        refine A_iload_n dX8_begin_77 rfl rfl ?_
        refine A_iconst (v := 0) dX8_begin_78 (by decide) ?_
        refine A_zastCN dX8_begin_79 (by decide) (fun _ => rfl) (by omega) (by decide) ?_
        rw [show vp_nar .boolean 0 = 0 from rfl]
        refine A_inc 1 (lv1 := [_, _]) dX8_begin_80 rfl (by decide) rfl rfl ?_
        refine A_goto 49 dX8_begin_83 (by decide) ?_
        rw [nI_1]
        exact WA_h (congrArg (fun z => HC b z co r n) (show _ = st1 (st1 (st1 (put (put c 28 2 (c 6 7)) 28 3 (-1)) 29 (tkF c)) 30 (fun j => if j = i then (if i < nv then c 8 (5 * i + 1) else 0) else g j)) 41 (fun j => if j = i then 0 else g2 j) from by rw [put_st1_ne (by decide), put_st1, put_st1]; rfl)) (ih (i + 1) _ _ (by omega) (fun j hj => by by_cases e : j = i; (subst e; rw [if_pos rfl, hwa j (by omega)]); (rw [if_neg e]; exact hg j (by omega))) (fun j hj => by by_cases e : j = i; (subst e; rw [if_pos rfl]); (rw [if_neg e]; exact hg2 j (by omega))))
  have loop1 : ∀ (k i : Nat) (g : Nat → Int32), i + k = 3 → (∀ j, j < i → g j = tkF c j) → WA X G RX8 cX8_begin false none (qV fun h1 => h1 = HC b (beginF c) co r n) 1 0 0 (HC b (st1 (put (put c 28 2 (c 6 7)) 28 3 (-1)) 29 g) co r n) 0 0 18 [some (.ref (b + 28)), some (.int (nI i))] [] := by
    intro k
    induction k with
    | zero =>
      intro i g hk hg
      have e : i = 3 := by omega
      subst e
      refine WA_rowC (k := 29) (tkF c) (by decide) (fun _ => rfl) (fun i hi => by rw [st1_eq]; exact hg i hi) ?_
      rw [st1_st1]
      refine A_iload_n dX8_begin_18 rfl rfl ?_
      refine A_iconst (v := 3) dX8_begin_19 (by decide) ?_
      refine A_icmp_ge 47 dX8_begin_20 (by decide) (fun c20 => ?_) (fun c20 => ?_)
      · refine A_iconst (v := 0) dX8_begin_47 (by decide) ?_
        refine A_istore_n (lv1 := [_, _]) dX8_begin_48 rfl (Nat.le_of_ble_eq_true rfl) rfl rfl ?_
        have e := loop2 6 0 (c 30) (c 41) (by omega) (fun j hj => by omega) (fun j hj => by omega)
        refine WA_h (congrArg (fun z => HC b z co r n) (show _ = st1 (st1 (st1 (put (put c 28 2 (c 6 7)) 28 3 (-1)) 29 (tkF c)) 30 (c 30)) 41 (c 41) from by funext l; by_cases h : l = 30 <;> by_cases h2 : l = 41 <;> simp [put, st1, h, h2])) e
      · exact absurd (by decide) c20
    | succ k ih =>
      intro i g hk hg
      refine A_iload_n dX8_begin_18 rfl rfl ?_
      refine A_iconst (v := 3) dX8_begin_19 (by decide) ?_
      refine A_icmp_ge 47 dX8_begin_20 (by decide) (fun c20 => ?_) (fun c20 => ?_)
      · exact absurd c20 (nI_ge (b := 3) (by omega) (by decide))
      · refine A_aload_n dX8_begin_23 rfl rfl ?_
        refine A_get dX8_begin_24 f_X8_9 (HC_at (by decide)) rfl ?_
        refine A_iload_n dX8_begin_27 rfl rfl ?_
        refine A_aload_n dX8_begin_28 rfl rfl ?_
        refine A_get dX8_begin_29 f_X8_52 (HC_at (by decide)) rfl ?_
        refine A_get dX8_begin_32 f_X8_68 (HC_at (by decide)) rfl ?_
        refine A_iload_n dX8_begin_35 rfl rfl ?_
        refine A_iconst (v := 3) dX8_begin_36 (by decide) ?_
        refine A_callVi dX8_begin_37 m_X8_72 cb_X3_at (As := [_, _]) rfl (HC_at (by decide)) rfl (c_at11z G b _ co r n 3 hf hf3 (by omega) (by decide)) rfl ⟨by decide, by decide⟩ (Nat.le_of_ble_eq_true rfl) ⟨by decide, by decide⟩ (fun x37 h37 hq => ?_)
        obtain ⟨rfl, rfl⟩ := hq
        refine A_iastCN dX8_begin_40 (by decide) (fun _ => rfl) (by omega) (by decide) ?_
        refine A_inc 1 (lv1 := [_, _]) dX8_begin_41 rfl (by decide) rfl rfl ?_
        refine A_goto 18 dX8_begin_44 (by decide) ?_
        rw [nI_1]
        exact WA_h (congrArg (fun z => HC b z co r n) (show _ = st1 (put (put c 28 2 (c 6 7)) 28 3 (-1)) 29 (upd g i (if i < nf then c 12 (4 * i + 3) else 0)) from by funext l; by_cases h : l = 29 <;> simp [put, st1, h]; rfl)) (ih (i + 1) _ (by omega) (fun j hj => by by_cases e : j = i; (subst e; rw [pk_us, htk j (by omega)]); (rw [pk_un e]; exact hg j (by omega))))
  refine A_aload_n dX8_begin_0 rfl rfl ?_
  refine A_aload_n dX8_begin_1 rfl rfl ?_
  refine A_get dX8_begin_2 f_X8_52 (HC_at (by decide)) rfl ?_
  refine A_get dX8_begin_5 f_X8_56 (HC_at (by decide)) rfl ?_
  refine A_putC 2 dX8_begin_8 p_X8_62 (by decide) rfl (Nat.le_of_ble_eq_true rfl) rfl ?_
  refine A_aload_n dX8_begin_11 rfl rfl ?_
  refine A_iconst (v := (-1)) dX8_begin_12 (by decide) ?_
  refine A_putC 3 dX8_begin_13 p_X8_65 (by decide) rfl (Nat.le_of_ble_eq_true rfl) rfl ?_
  refine A_iconst (v := 0) dX8_begin_16 (by decide) ?_
  refine A_istore_n (lv1 := [_, _]) dX8_begin_17 rfl (Nat.le_of_ble_eq_true rfl) rfl rfl ?_
  have e := loop1 3 0 (c 29) (by omega) (fun j hj => by omega)
  refine WA_h (congrArg (fun z => HC b z co r n) (show _ = st1 (put (put c 28 2 (c 6 7)) 28 3 (-1)) 29 (c 29) from by funext l; by_cases h : l = 29 <;> simp [put, st1, h])) e
