/-! THE REFERENCE: LAWS -/
theorem sh6 : ∀ s, s < 64 → ∀ t, t < 6 → ((nI s >>> (nI t &&& 31)) &&& 1) = nI (if s.testBit t then 1 else 0) := by decide +kernel
theorem or6 : ∀ s, s < 64 → ∀ t, t < 6 → (nI s ||| ((1 : Int32) <<< (nI t &&& 31))) = nI (s ||| 2 ^ t) ∧ s ||| 2 ^ t < 64 := by decide +kernel
def cU (s : Nat) : Nat → Nat
  | 0 => 0
  | t + 1 => cU s t + (if s.testBit t then 0 else 1)
theorem cU_s : ∀ s, s < 64 → ∀ t, t < 6 → ∀ nv, nv < 7 → t < nv → s.testBit t = false → cU (s ||| 2 ^ t) nv < cU s nv := by decide +kernel
theorem cU_0 : ∀ nv, cU 0 nv = nv
  | 0 => rfl
  | n + 1 => by rw [cU, cU_0 n]; simp
theorem nextF_un {d : Nat → Int32} {law dn : Int32} {v : Nat} : ∀ {k j : Nat}, k < 2 ^ 31 → j < 2 ^ 31 → nextF d law v dn k = nI j → j < k ∧ (dn >>> (nI j &&& 31)) &&& 1 = 0 ∧ ¬ d (v * 6 + j) ≤ 0
  | 0, j, _, hj, e => by
    have e := congrArg Int32.toInt e
    rw [nextF, nI_toInt hj] at e
    have : (-1 : Int32).toInt = -1 := rfl
    omega
  | k + 1, j, hk, hj, e => by
    have up : nextF d law v dn k = nI j → j < k + 1 ∧ (dn >>> (nI j &&& 31)) &&& 1 = 0 ∧ ¬ d (v * 6 + j) ≤ 0 := fun z => by
      obtain ⟨h1, h2⟩ := nextF_un (by omega) hj z
      exact ⟨by omega, h2⟩
    rw [nextF] at e
    split at e
    · exact up e
    · next h1 =>
      split at e
      · exact up e
      · next h2 =>
        have h3 : (dn >>> (nI k &&& 31)) &&& 1 = 0 := by
          rcases bit01 dn (nI k &&& 31) with z | z
          · exact z
          · exact absurd (by rw [z]; decide) h2
        have me : (nI k : Int32) = nI j → j < k + 1 ∧ (dn >>> (nI j &&& 31)) &&& 1 = 0 ∧ ¬ d (v * 6 + j) ≤ 0 := fun z => by
          have := (nI_eq (by omega) hj).mp z
          subst this
          exact ⟨by omega, h3, h1⟩
        split at e
        · exact me e
        · split at e
          · exact up e
          · split at e
            · exact up e
            · exact me e
theorem next_bits {d : Nat → Int32} {law : Int32} {v s nv : Nat} (hs : s < 64) (hv : nv ≤ 6) : nextF d law v (nI s) nv = -1 ∨ ∃ t, t < nv ∧ nextF d law v (nI s) nv = nI t ∧ s.testBit t = false ∧ ¬ d (v * 6 + t) ≤ 0 := by
  rcases nextF_ix (d := d) (law := law) (done := nI s) (v := v) nv with e | ⟨t, ht, e⟩
  · exact Or.inl e
  · obtain ⟨_, h2, h3⟩ := nextF_un (by omega) (by omega) e
    rw [sh6 s hs t (by omega)] at h2
    refine Or.inr ⟨t, ht, e, ?_, h3⟩
    cases z : s.testBit t
    · rfl
    · rw [z] at h2; exact absurd h2 (by decide)
theorem next_end {d : Nat → Int32} {law : Int32} {v s nv : Nat} (hs : s < 64) (hv : nv ≤ 6) (h0 : cU s nv ≤ 0) : nextF d law v (nI s) nv = -1 := by
  rcases next_bits (d := d) (law := law) (v := v) hs hv with e | ⟨t, ht, e, hb, _⟩
  · exact e
  · have := cU_s s hs t (by omega) nv (by omega) ht hb
    omega
/-- what is paid, as rows -/
def ptD (d : Nat → Int32) (nv : Nat) (law : Int32) (v : Nat) : Nat → Int32 → Int32 → (Nat → Int32) → (Nat → Int32)
  | 0, _, _, p => p
  | k + 1, wa, dn, p => if nextF d law v dn nv = -1 then p else ptD d nv law v k (wa - mn wa (d (6 * v + tcl (nextF d law v dn nv)))) (dn ||| (1 <<< (nextF d law v dn nv &&& 31))) (upd p (6 * v + tcl (nextF d law v dn nv)) (mn wa (d (6 * v + tcl (nextF d law v dn nv)))))
def ppW (d w : Nat → Int32) (nv v t : Nat) : Int32 := if (w v).toInt64 < allF d v nv then ((d (6 * v + t)).toInt64 * (w v).toInt64 / mxL 1 (allF d v nv)).toInt32 else d (6 * v + t)
def ppD (d w : Nat → Int32) (nv v t : Nat) (p : Nat → Int32) : Nat → Int32 := upd p (6 * v + t) (ppW d w nv v t)
def stD (d w : Nat → Int32) (nv : Nat) (law : Int32) (v : Nat) (p : Nat → Int32) : Nat → Int32 := if law = 2 then forR (ppD d w nv v) 0 nv p else ptD d nv law v nv (w v) 0 p
theorem put49 {c : CT} {i : Nat} {x : Int32} : put c 52 i x = st1 c 52 (upd (c 52) i x) := rfl
theorem ptR_D {d : Nat → Int32} {nv v : Nat} {law : Int32} : ∀ k wa dn (c : CT), c 48 = d → ptR nv law v k wa dn c = st1 c 52 (ptD d nv law v k wa dn (c 52))
  | 0, _, _, c, _ => by rw [ptR, ptD, st1_self]
  | k + 1, wa, dn, c, h => by
    rw [ptR, ptD, h, Nat.mul_comm v 6]
    split
    · rw [st1_self]
    · rw [ptR_D (d := d) k _ _ _ (by rw [put_ne (by decide)]; exact h), put49, st1_st1, st1_eq]
theorem ppA_D {d w : Nat → Int32} {nv v : Nat} : ∀ k i (c : CT), c 48 = d → c 30 = w → forR (ppS nv v) i k c = st1 c 52 (forR (ppD d w nv v) i k (c 52))
  | 0, _, c, _, _ => by rw [forR, forR, st1_self]
  | k + 1, i, c, h1, h2 => by
    show forR (ppS nv v) (i + 1) k (ppS nv v i c) = st1 c 52 (forR (ppD d w nv v) (i + 1) k (ppD d w nv v i (c 52)))
    have e : ppS nv v i c = st1 c 52 (ppD d w nv v i (c 52)) := by rw [ppS, ppD, put49, ppV, ppW, h1, h2, Nat.mul_comm v 6]
    rw [ppA_D (d := d) (w := w) k (i + 1) (ppS nv v i c) (by rw [e, st1_ne (by decide)]; exact h1) (by rw [e, st1_ne (by decide)]; exact h2), e, st1_st1, st1_eq]
theorem stS_D {d w : Nat → Int32} {nv v : Nat} {law : Int32} {c : CT} (h1 : c 48 = d) (h2 : c 30 = w) : stS nv law v c = st1 c 52 (stD d w nv law v (c 52)) := by
  unfold stS stD
  split
  · exact ppA_D nv 0 c h1 h2
  · rw [h2]; exact ptR_D nv _ _ c h1
theorem strike_D {nv : Nat} {law : Int32} : ∀ k i (c : CT), forR (stS nv law) i k c 52 = forR (stD (c 48) (c 30) nv law) i k (c 52)
  | 0, _, _ => rfl
  | k + 1, i, c => by
    show forR (stS nv law) (i + 1) k (stS nv law i c) 52 = forR (stD (c 48) (c 30) nv law) (i + 1) k (stD (c 48) (c 30) nv law i (c 52))
    have e := stS_D (nv := nv) (v := i) (law := law) (c := c) rfl rfl
    rw [strike_D k (i + 1) (stS nv law i c), e, st1_eq, st1_ne (by decide), st1_ne (by decide)]
def stRow (c : CT) (nv : Nat) (law : Int32) : Nat → Int32 := forR (stD (dRow c) (yrF c 30) nv law) 0 nv (fun _ => 0)
theorem stRow_e {c : CT} {nv nc nf nl wk : Nat} {law : Int32} (hI : IX c nv nc nf nl wk) : strikeF law (dbF c) 52 = stRow c nv law := by
  have e7 : tcl (dbF c 7 2) = nv := by rw [dbF_D 7 (by decide)]; exact hI.nvf.1
  rw [strikeF, e7, strike_D, st1_eq, st1_ne (by decide), st1_ne (by decide), dRow_e, stRow, show dbF c 30 = yrF c 30 by rw [dbF, reckF, st1_ne (by decide)]]
theorem al_e {d : Nat → Int32} (h : DOk d) (v : Nat) : ∀ t, t ≤ 6 → (allF d v t).toInt = (aDF d v t).toInt ∧ 0 ≤ (aDF d v t).toInt ∧ (aDF d v t).toInt ≤ (240000 * t : Nat)
  | 0, _ => by rw [allF, aDF]; exact ⟨rfl, by decide, by decide⟩
  | t + 1, ht => by
    obtain ⟨h1, h2, h3⟩ := al_e h v t (by omega)
    have h4 := h (6 * v + t)
    have e64 : ((d (6 * v + t)).toInt64).toInt = (d (6 * v + t)).toInt := Int32.toInt_toInt64 _
    rw [allF, aDF, Nat.mul_comm v 6, addT (by omega) (by omega), add64 (by omega) (by omega)]
    omega
theorem al_64 {d : Nat → Int32} (h : DOk d) (v : Nat) {t : Nat} (ht : t ≤ 6) : allF d v t = (aDF d v t).toInt64 := Int64.toInt_inj.mp (by rw [(al_e h v t ht).1, Int32.toInt_toInt64])
theorem aDF_mono {d : Nat → Int32} (h : DOk d) (v : Nat) : ∀ k t, t + k ≤ 6 → (aDF d v t).toInt ≤ (aDF d v (t + k)).toInt
  | 0, _, _ => Int.le_refl _
  | k + 1, t, ht => by
    have h1 := aDF_mono h v k t (by omega)
    have h2 := al_e h v (t + k) (by omega)
    have h4 := h (6 * v + (t + k))
    show _ ≤ (aDF d v (t + k) + d (6 * v + (t + k))).toInt
    rw [addT (by omega) (by omega)]
    omega
/-- those who were paid, ahead of x -/
def sB (d : Nat → Int32) (v : Nat) : Nat → Nat
  | 0 => 0
  | x + 1 => if d (6 * v + x) = 0 then sB d v x else sB d v x ||| 2 ^ x
theorem sB_b {d : Nat → Int32} {v : Nat} : ∀ x, x ≤ 6 → sB d v x < 64 ∧ ∀ t, t < 6 → ((sB d v x).testBit t = true ↔ t < x ∧ ¬ d (6 * v + t) = 0)
  | 0, _ => ⟨by rw [sB]; decide, fun t _ => by simp [sB]⟩
  | x + 1, h => by
    obtain ⟨h1, h2⟩ := sB_b (d := d) (v := v) x (by omega)
    rw [sB]
    by_cases e : d (6 * v + x) = 0
    · rw [if_pos e]
      refine ⟨h1, fun t ht => ?_⟩
      rw [h2 t ht]
      constructor
      · intro z; exact ⟨by omega, z.2⟩
      · intro z
        refine ⟨?_, z.2⟩
        have : t ≠ x := fun q => z.2 (q ▸ e)
        omega
    · rw [if_neg e]
      refine ⟨(or6 _ h1 x (by omega)).2, fun t ht => ?_⟩
      rw [Nat.testBit_or, Bool.or_eq_true, h2 t ht, Nat.testBit_two_pow, decide_eq_true_eq]
      constructor
      · rintro (z | z)
        · exact ⟨by omega, z.2⟩
        · subst z; exact ⟨by omega, e⟩
      · intro z
        by_cases q : x = t
        · exact Or.inr q
        · exact Or.inl ⟨by omega, z.2⟩
theorem nx2a {d : Nat → Int32} (hD : DOk d) {v x : Nat} (hx : x ≤ 6) : ∀ k, k ≤ x → nextF d 2 v (nI (sB d v x)) k = -1
  | 0, _ => rfl
  | k + 1, h => by
    obtain ⟨h1, h2⟩ := sB_b (d := d) (v := v) x hx
    rw [nextF, nx2a hD hx k (by omega)]
    by_cases e : d (v * 6 + k) ≤ 0
    · rw [if_pos e]
    · rw [if_neg e]
      have hb : (sB d v x).testBit k = true := (h2 k (by omega)).mpr ⟨by omega, fun z => e ((d_pos hD _).mpr (by rw [Nat.mul_comm v 6]; exact z))⟩
      rw [sh6 _ h1 k (by omega), if_pos hb, if_pos (by decide)]
theorem nx2b {d : Nat → Int32} (hD : DOk d) {v x : Nat} (hx : x < 6) (hd : ¬ d (6 * v + x) = 0) : ∀ k, x < k → k ≤ 6 → nextF d 2 v (nI (sB d v x)) k = nI x
  | 0, h, _ => absurd h (by omega)
  | k + 1, h, hk => by
    obtain ⟨h1, h2⟩ := sB_b (d := d) (v := v) x (by omega)
    have n1 : ¬ nI x = -1 := fun z => by
      have e := congrArg Int32.toInt z
      rw [nI_toInt (by omega)] at e
      have : (-1 : Int32).toInt = -1 := rfl
      omega
    rw [nextF]
    by_cases e : k = x
    · subst e
      have hb : (sB d v k).testBit k = false := by
        cases z : (sB d v k).testBit k
        · rfl
        · exact absurd ((h2 k (by omega)).mp z).1 (by omega)
      rw [nx2a hD (by omega) k (Nat.le_refl _), if_neg (fun z => hd ((d_pos hD _).mp (by rw [Nat.mul_comm v 6] at z; exact z))), sh6 _ h1 k (by omega), hb, if_neg (by decide), if_pos rfl]
    · rw [nx2b hD hx hd k (by omega) (by omega), if_neg n1]
      split
      · rfl
      · split
        · rfl
        · rw [if_pos (by decide)]
theorem nx2c {d : Nat → Int32} (hD : DOk d) {v x nv : Nat} (hx : x < 6) (hd : d (6 * v + x) = 0) : sB d v (x + 1) = sB d v x := by rw [sB, if_pos hd]
theorem mn_comm (x y : Int32) : mn x y = mn y x := by
  apply Int32.toInt_inj.mp
  rw [mnT, mnT]; omega
theorem strike_pt (G : GX) (X : XC) {b : Nat} {m : CT} {ml : Nat → Nat → Int64} {r : Nat → Option AE} {n nv nc nf nl wk l v : Nat} {d w T : Nat → Int32} {all : Int32} {P : Nat → Int32} {u1 u2 : Nat} (hu : u1 = 0 ∧ u2 = 0) (hI : IM m nv nc nf nl wk) (hd : m 13 = d) (hw : ∀ v, v < nv → m 7 v = w v) (hD : DOk d) (hl3 : l < 3) (hv9 : v < nv) (hl2 : l ≠ 2) (nx : ∀ (rest seen : Int32), WA X G RX10 cX10_strikes false none (qV fun h1 => h1 = HM b (st1 m 16 T) ml r n) 6 0 0 (HM b (st1 m 16 (P)) ml r n) u1 u2 162 [some (.ref b), some (.int (nI l)), some (.int (nI (v))), some (.int (all)), some (.int (rest)), some (.int (seen)), some (.int (-1)), none] []) : ∀ (k s : Nat) (rest : Int32) (p : Nat → Int32), s < 64 → cU s nv ≤ k → ptD d nv (nI l) v k rest (nI s) p = P → WA X G RX10 cX10_strikes false none (qV fun h1 => h1 = HM b (st1 m 16 T) ml r n) 6 0 0 (HM b (st1 m 16 (p)) ml r n) u1 u2 61 [some (.ref b), some (.int (nI l)), some (.int (nI (v))), some (.int (all)), some (.int (rest)), some (.int (nI s)), some (.int (nextF d (nI l) v (nI s) nv)), none] [] := by
  obtain ⟨rfl, rfl⟩ := hu
  obtain ⟨hv, hv6, hc, hc8, hf, hf3, hl, hl8, hw_, hw30, gC, gL⟩ := id hI
  have hM : ∀ p : Nat → Int32, IM (st1 m 16 p) nv nc nf nl wk := fun p => hI.to (st1_ne (by decide))
  have e13 : ∀ p : Nat → Int32, (st1 m 16 p) 13 = d := fun p => (st1_ne (by decide)).trans hd
  have e7 : ∀ p : Nat → Int32, (st1 m 16 p) 7 = m 7 := fun p => st1_ne (by decide)
  have nl2 : ¬ nI l = 2 := fun z => hl2 ((nI_eq (b := 2) (by omega) (by decide)).mp z)
  intro k
  induction k with
  | zero =>
    intro s rest p hs hk hP
    rw [next_end hs hv6 hk]
    refine A_iload dX10_strikes_61 rfl ?_
    refine A_iconst (v := (-1)) dX10_strikes_63 (by decide) ?_
    refine A_icmp_eq 162 dX10_strikes_64 (by decide) (fun c64 => ?_) (fun c64 => ?_)
    · rw [ptD] at hP
      rw [hP]
      exact nx _ _
    · exact absurd rfl c64
  | succ k ih =>
    intro s rest p hs hk hP
    rcases next_bits (d := d) (law := nI l) (v := v) hs hv6 with eN | ⟨t, ht, eN, hb, hp⟩
    · rw [ptD, if_pos eN] at hP
      rw [eN, hP]
      refine A_iload dX10_strikes_61 rfl ?_
      refine A_iconst (v := (-1)) dX10_strikes_63 (by decide) ?_
      refine A_icmp_eq 162 dX10_strikes_64 (by decide) (fun c64 => ?_) (fun c64 => ?_)
      · exact nx _ _
      · exact absurd rfl c64
    · have n1 : ¬ nI t = -1 := fun z => by have e := congrArg Int32.toInt z; rw [nI_toInt (by omega)] at e; have : (-1 : Int32).toInt = -1 := rfl; omega
      rw [ptD, eN, if_neg n1, tcl_nI (by omega), (or6 s hs t (by omega)).1] at hP
      rw [eN]
      have hcu := cU_s s hs t (by omega) nv (by omega) ht hb
      have emn : mn (d (6 * v + t)) rest = mn rest (d (6 * v + t)) := mn_comm _ _
      refine A_iload dX10_strikes_61 rfl ?_
      refine A_iconst (v := (-1)) dX10_strikes_63 (by decide) ?_
      refine A_icmp_eq 162 dX10_strikes_64 (by decide) (fun c64 => ?_) (fun c64 => ?_)
      · exact absurd c64 n1
      · refine A_iload_n dX10_strikes_67 rfl rfl ?_
        refine A_iconst (v := 2) dX10_strikes_68 (by decide) ?_
        refine A_icmp_ne 105 dX10_strikes_69 (by decide) (fun c69 => ?_) (fun c69 => ?_)
        · refine A_aload_n dX10_strikes_105 rfl rfl ?_
          refine A_iload_n dX10_strikes_106 rfl rfl ?_
          refine A_iload dX10_strikes_107 rfl ?_
          refine A_callVi dX10_strikes_109 m_X10_400 cb_X10_debt (As := [_, _]) rfl HM_at0 rfl (k_debt G (by omega) (by omega)) rfl ⟨by decide, by decide⟩ (Nat.le_of_ble_eq_true rfl) ⟨by decide, by decide⟩ (fun x109 h109 hq => ?_)
          obtain ⟨rfl, rfl⟩ := hq
          rw [e13]
          refine A_iload dX10_strikes_112 rfl ?_
          refine A_min dX10_strikes_114 w_1328 (by decide) (Nat.le_of_ble_eq_true rfl) ⟨by decide, by decide⟩ ?_
          refine A_eqI (y := mn rest (d (6 * v + t))) emn ?_
          refine A_istore (lv1 := [_, _, _, _, _, _, _, _]) dX10_strikes_117 (Nat.le_of_ble_eq_true rfl) rfl rfl ?_
          refine A_aload_n dX10_strikes_119 rfl rfl ?_
          refine A_get dX10_strikes_120 f_X10_64 HM_at0 rfl ?_
          refine A_bipush (v := 6) dX10_strikes_123 (by decide) ?_
          refine A_iload_n dX10_strikes_125 rfl rfl ?_
          refine A_imul dX10_strikes_126 ?_
          refine A_iload dX10_strikes_127 rfl ?_
          refine A_iadd dX10_strikes_129 ?_
          refine A_iload dX10_strikes_130 rfl ?_
          refine A_iastMK (i := ((6 * v) + t)) dX10_strikes_132 (by decide) (fun _ => rfl) (ixA (ixU rfl rfl) rfl) (by omega) (by decide) ?_
          rw [st1M]
          refine A_iload dX10_strikes_133 rfl ?_
          refine A_iload dX10_strikes_135 rfl ?_
          refine A_isub dX10_strikes_137 ?_
          refine A_istore (lv1 := [_, _, _, _, _, _, _, _]) dX10_strikes_138 (Nat.le_of_ble_eq_true rfl) rfl rfl ?_
          refine A_iload dX10_strikes_140 rfl ?_
          refine A_iconst (v := 1) dX10_strikes_142 (by decide) ?_
          refine A_iload dX10_strikes_143 rfl ?_
          refine A_ishl dX10_strikes_145 ?_
          refine A_ior dX10_strikes_146 ?_
          refine A_eqI (or6 s hs t (by omega)).1 ?_
          refine A_istore (lv1 := [_, _, _, _, _, _, _, _]) dX10_strikes_147 (Nat.le_of_ble_eq_true rfl) rfl rfl ?_
          refine A_aload_n dX10_strikes_149 rfl rfl ?_
          refine A_iload_n dX10_strikes_150 rfl rfl ?_
          refine A_iload_n dX10_strikes_151 rfl rfl ?_
          refine A_iload dX10_strikes_152 rfl ?_
          refine A_callVi dX10_strikes_154 m_X10_430 cb_X10_nextPaid (As := [_, _, _]) rfl HM_at0 rfl (k_nextPaid G (hM _) hv9 (by rw [e13]; exact hD)) rfl ⟨by decide, by decide⟩ (Nat.le_of_ble_eq_true rfl) ⟨by decide, by decide⟩ (fun x154 h154 hq => ?_)
          obtain ⟨rfl, rfl⟩ := hq
          rw [e13]
          refine A_istore (lv1 := [_, _, _, _, _, _, _, _]) dX10_strikes_157 (Nat.le_of_ble_eq_true rfl) rfl rfl ?_
          refine A_goto 61 dX10_strikes_159 (by decide) ?_
          refine A_fg 7 (lv1 := [_, _, _, _, _, _, _, _]) rfl ?_
          exact ih (s ||| 2 ^ t) _ _ (or6 s hs t (by omega)).2 (by omega) hP
        · exact absurd c69 nl2

theorem strike_pp (G : GX) (X : XC) {b : Nat} {m : CT} {ml : Nat → Nat → Int64} {r : Nat → Option AE} {n nv nc nf nl wk l v : Nat} {d w T : Nat → Int32} {P : Nat → Int32} {u1 u2 : Nat} (hu : u1 = 0 ∧ u2 = 0) (hI : IM m nv nc nf nl wk) (hd : m 13 = d) (hw : ∀ v, v < nv → m 7 v = w v) (hD : DOk d) (hl3 : l < 3) (hv9 : v < nv) (hl2 : l = 2) (hw0 : 0 ≤ (w v).toInt ∧ (w v).toInt ≤ 9999) (nx : ∀ (rest seen : Int32), WA X G RX10 cX10_strikes false none (qV fun h1 => h1 = HM b (st1 m 16 T) ml r n) 6 0 0 (HM b (st1 m 16 (P)) ml r n) u1 u2 162 [some (.ref b), some (.int (nI l)), some (.int (nI (v))), some (.int (aDF d v nv)), some (.int (rest)), some (.int (seen)), some (.int (-1)), none] []) : ∀ (k x : Nat) (rest : Int32) (p : Nat → Int32), x + k = nv → (¬ w v < aDF d v nv → rest.toInt = (w v).toInt - (aDF d v x).toInt) → (∀ t, x ≤ t → t < nv → p (6 * v + t) = 0) → forR (ppD d w nv v) x k p = P → WA X G RX10 cX10_strikes false none (qV fun h1 => h1 = HM b (st1 m 16 T) ml r n) 6 0 0 (HM b (st1 m 16 (p)) ml r n) u1 u2 61 [some (.ref b), some (.int (nI l)), some (.int (nI (v))), some (.int (aDF d v nv)), some (.int (rest)), some (.int (nI (sB d v x))), some (.int (nextF d (nI l) v (nI (sB d v x)) nv)), none] [] := by
  obtain ⟨rfl, rfl⟩ := hu
  subst hl2
  obtain ⟨hv, hv6, hc, hc8, hf, hf3, hl, hl8, hw_, hw30, gC, gL⟩ := id hI
  have hM : ∀ p : Nat → Int32, IM (st1 m 16 p) nv nc nf nl wk := fun p => hI.to (st1_ne (by decide))
  have e13 : ∀ p : Nat → Int32, (st1 m 16 p) 13 = d := fun p => (st1_ne (by decide)).trans hd
  have e7 : ∀ p : Nat → Int32, (st1 m 16 p) 7 = m 7 := fun p => st1_ne (by decide)
  intro k
  induction k with
  | zero =>
    intro x rest p hk hr hz hP
    have eN : nextF d (nI 2) v (nI (sB d v x)) nv = -1 := nx2a hD (by omega) nv (by omega)
    rw [eN]
    refine A_iload dX10_strikes_61 rfl ?_
    refine A_iconst (v := (-1)) dX10_strikes_63 (by decide) ?_
    refine A_icmp_eq 162 dX10_strikes_64 (by decide) (fun c64 => ?_) (fun c64 => ?_)
    · rw [show p = P from hP]
      exact nx _ _
    · exact absurd rfl c64
  | succ k ih =>
    intro x rest p hk hr hz hP
    have hal := al_e hD v nv hv6
    have halx := al_e hD v x (by omega)
    have halx1 := al_e hD v (x + 1) (by omega)
    have hmono := aDF_mono hD v k (x + 1) (by omega)
    rw [show x + 1 + k = nv by omega] at hmono
    have hdx := hD (6 * v + x)
    have eA1 : (aDF d v (x + 1)).toInt = (aDF d v x).toInt + (d (6 * v + x)).toInt := addT (by omega) (by omega)
    have eW : ppW d w nv v x = if w v < aDF d v nv then ((d (6 * v + x)).toInt64 * (w v).toInt64 / (aDF d v nv).toInt64).toInt32 else d (6 * v + x) := by
      unfold ppW
      by_cases q : w v < aDF d v nv
      · have q2 : (w v).toInt64 < allF d v nv := by rw [al_64 hD v hv6]; exact i64_lt.mpr q
        have q3 : mxL 1 (allF d v nv) = (aDF d v nv).toInt64 := by
          rw [al_64 hD v hv6, mxL]
          have q4 : ¬ (aDF d v nv).toInt64 < 1 := fun z => by
            have z2 := i64_lt (y := 1) |>.mp z
            rw [Int32.lt_iff_toInt_lt] at q z2
            have : (1 : Int32).toInt = 1 := rfl
            omega
          rw [if_neg q4]
        rw [if_pos q, if_pos q2, q3]
      · have q2 : ¬ (w v).toInt64 < allF d v nv := by rw [al_64 hD v hv6]; exact fun z => q (i64_lt.mp z)
        rw [if_neg q, if_neg q2]
    by_cases e0 : d (6 * v + x) = 0
    · rw [← nx2c hD (nv := nv) (by omega) e0]
      refine ih (x + 1) rest p (by omega) (fun q => ?_) (fun t h1 h2 => hz t (by omega) h2) ?_
      · have := hr q
        have := eqT0.mp e0
        omega
      · rw [← hP]
        show _ = forR (ppD d w nv v) (x + 1) k (ppD d w nv v x p)
        have ep : ppD d w nv v x p = p := by
          have ew : ppW d w nv v x = 0 := by
            rw [eW, e0]
            split
            · have : ((0 : Int32).toInt64 * (w v).toInt64 / (aDF d v nv).toInt64) = 0 := by rw [show (0 : Int32).toInt64 = 0 from rfl, Int64.zero_mul, Int64.zero_div]
              rw [this]; rfl
            · rfl
          funext q
          rw [ppD]
          by_cases z : q = 6 * v + x
          · subst z; rw [pk_us, ew, hz x (Nat.le_refl _) (by omega)]
          · rw [pk_un z]
        rw [ep]
    · have hsb := sB_b (d := d) (v := v) x (by omega)
      have eN : nextF d (nI 2) v (nI (sB d v x)) nv = nI x := nx2b hD (by omega) e0 nv (by omega) hv6
      have eS1 : sB d v x ||| 2 ^ x = sB d v (x + 1) := by rw [sB, if_neg e0]
      have n1 : ¬ nI x = -1 := fun z => by have e := congrArg Int32.toInt z; rw [nI_toInt (by omega)] at e; have : (-1 : Int32).toInt = -1 := rfl; omega
      have ew7 := hw v hv9
      rw [eN]
      have fin : ∀ q rest1 : Int32, q = ppW d w nv v x → (¬ w v < aDF d v nv → rest1.toInt = (w v).toInt - (aDF d v (x + 1)).toInt) → WA X G RX10 cX10_strikes false none (qV fun h1 => h1 = HM b (st1 m 16 T) ml r n) 6 0 0 (HM b (st1 m 16 (upd p (6 * v + x) q)) ml r n) 0 0 61 [some (.ref b), some (.int (nI 2)), some (.int (nI (v))), some (.int (aDF d v nv)), some (.int (rest1)), some (.int (nI (sB d v (x + 1)))), some (.int (nextF d (nI 2) v (nI (sB d v (x + 1))) nv)), none] [] := by
        intro q rest1 hq hr1
        refine ih (x + 1) rest1 _ (by omega) hr1 (fun t h1 h2 => ?_) ?_
        · rw [pk_un (by omega)]; exact hz t (by omega) h2
        · rw [← hP, hq]; rfl
      refine A_iload dX10_strikes_61 rfl ?_
      refine A_iconst (v := (-1)) dX10_strikes_63 (by decide) ?_
      refine A_icmp_eq 162 dX10_strikes_64 (by decide) (fun c64 => ?_) (fun c64 => ?_)
      · exact absurd c64 n1
      · refine A_iload_n dX10_strikes_67 rfl rfl ?_
        refine A_iconst (v := 2) dX10_strikes_68 (by decide) ?_
        refine A_icmp_ne 105 dX10_strikes_69 (by decide) (fun c69 => ?_) (fun c69 => ?_)
        · exact absurd rfl c69
        · refine A_aload_n dX10_strikes_72 rfl rfl ?_
          refine A_get dX10_strikes_73 f_X10_34 HM_at0 rfl ?_
          refine A_iload_n dX10_strikes_76 rfl rfl ?_
          refine A_ialdN dX10_strikes_77 (HM_at (by decide)) (by omega) (by decide) ?_
          refine A_eqI (y := w v) (by rw [e7]; exact ew7) ?_
          refine A_iload_n dX10_strikes_78 rfl rfl ?_
          refine A_icmp_ge 105 dX10_strikes_79 (by decide) (fun c79 => ?_) (fun c79 => ?_)
          · have h79 : ¬ w v < aDF d v nv := Int32.not_lt.mpr c79
            have emn : ¬ w v < aDF d v nv → mn (d (6 * v + x)) rest = d (6 * v + x) := fun q => by
              have h1 := hr q
              rw [Int32.lt_iff_toInt_lt] at q
              rw [mn, if_neg (by rw [Int32.lt_iff_toInt_lt]; omega)]
            refine A_aload_n dX10_strikes_105 rfl rfl ?_
            refine A_iload_n dX10_strikes_106 rfl rfl ?_
            refine A_iload dX10_strikes_107 rfl ?_
            refine A_callVi dX10_strikes_109 m_X10_400 cb_X10_debt (As := [_, _]) rfl HM_at0 rfl (k_debt G (by omega) (by omega)) rfl ⟨by decide, by decide⟩ (Nat.le_of_ble_eq_true rfl) ⟨by decide, by decide⟩ (fun x109 h109 hq => ?_)
            obtain ⟨rfl, rfl⟩ := hq
            rw [e13]
            refine A_iload dX10_strikes_112 rfl ?_
            refine A_min dX10_strikes_114 w_1328 (by decide) (Nat.le_of_ble_eq_true rfl) ⟨by decide, by decide⟩ ?_
            refine A_istore (lv1 := [_, _, _, _, _, _, _, _]) dX10_strikes_117 (Nat.le_of_ble_eq_true rfl) rfl rfl ?_
            refine A_aload_n dX10_strikes_119 rfl rfl ?_
            refine A_get dX10_strikes_120 f_X10_64 HM_at0 rfl ?_
            refine A_bipush (v := 6) dX10_strikes_123 (by decide) ?_
            refine A_iload_n dX10_strikes_125 rfl rfl ?_
            refine A_imul dX10_strikes_126 ?_
            refine A_iload dX10_strikes_127 rfl ?_
            refine A_iadd dX10_strikes_129 ?_
            refine A_iload dX10_strikes_130 rfl ?_
            refine A_iastMK (i := ((6 * v) + x)) dX10_strikes_132 (by decide) (fun _ => rfl) (ixA (ixU rfl rfl) rfl) (by omega) (by decide) ?_
            rw [st1M]
            refine A_iload dX10_strikes_133 rfl ?_
            refine A_iload dX10_strikes_135 rfl ?_
            refine A_isub dX10_strikes_137 ?_
            refine A_istore (lv1 := [_, _, _, _, _, _, _, _]) dX10_strikes_138 (Nat.le_of_ble_eq_true rfl) rfl rfl ?_
            refine A_iload dX10_strikes_140 rfl ?_
            refine A_iconst (v := 1) dX10_strikes_142 (by decide) ?_
            refine A_iload dX10_strikes_143 rfl ?_
            refine A_ishl dX10_strikes_145 ?_
            refine A_ior dX10_strikes_146 ?_
            refine A_eqI (y := nI (sB d v (x + 1))) (by rw [(or6 _ hsb.1 x (by omega)).1, eS1]) ?_
            refine A_istore (lv1 := [_, _, _, _, _, _, _, _]) dX10_strikes_147 (Nat.le_of_ble_eq_true rfl) rfl rfl ?_
            refine A_aload_n dX10_strikes_149 rfl rfl ?_
            refine A_iload_n dX10_strikes_150 rfl rfl ?_
            refine A_iload_n dX10_strikes_151 rfl rfl ?_
            refine A_iload dX10_strikes_152 rfl ?_
            refine A_callVi dX10_strikes_154 m_X10_430 cb_X10_nextPaid (As := [_, _, _]) rfl HM_at0 rfl (k_nextPaid G (hM _) hv9 (by rw [e13]; exact hD)) rfl ⟨by decide, by decide⟩ (Nat.le_of_ble_eq_true rfl) ⟨by decide, by decide⟩ (fun x154 h154 hq => ?_)
            obtain ⟨rfl, rfl⟩ := hq
            rw [e13]
            refine A_istore (lv1 := [_, _, _, _, _, _, _, _]) dX10_strikes_157 (Nat.le_of_ble_eq_true rfl) rfl rfl ?_
            refine A_goto 61 dX10_strikes_159 (by decide) ?_
            refine A_fg 7 (lv1 := [_, _, _, _, _, _, _, _]) rfl ?_
            refine fin _ _ ?_ (fun q => ?_)
            · rw [eW, if_neg h79]; exact emn h79
            · have e9 : (if rest < d (6 * v + x) then rest else d (6 * v + x)) = d (6 * v + x) := emn h79
              have := hr q
              rw [e9, subT (by omega) (by omega)]
              omega
          · have h79 : w v < aDF d v nv := Int32.not_le.mp c79
            have hn0 : ¬ (aDF d v nv).toInt64 = 0 := fun z => by
              have e := congrArg Int64.toInt z
              rw [Int32.toInt_toInt64] at e
              rw [Int32.lt_iff_toInt_lt] at h79
              have : (0 : Int64).toInt = 0 := rfl
              omega
            refine A_aload_n dX10_strikes_82 rfl rfl ?_
            refine A_iload_n dX10_strikes_83 rfl rfl ?_
            refine A_iload dX10_strikes_84 rfl ?_
            refine A_callVi dX10_strikes_86 m_X10_400 cb_X10_debt (As := [_, _]) rfl HM_at0 rfl (k_debt G (by omega) (by omega)) rfl ⟨by decide, by decide⟩ (Nat.le_of_ble_eq_true rfl) ⟨by decide, by decide⟩ (fun x86 h86 hq => ?_)
            obtain ⟨rfl, rfl⟩ := hq
            rw [e13]
            refine A_i2l dX10_strikes_89 ?_
            refine A_aload_n dX10_strikes_90 rfl rfl ?_
            refine A_get dX10_strikes_91 f_X10_34 HM_at0 rfl ?_
            refine A_iload_n dX10_strikes_94 rfl rfl ?_
            refine A_ialdN dX10_strikes_95 (HM_at (by decide)) (by omega) (by decide) ?_
            refine A_eqI (y := w v) (by rw [e7]; exact ew7) ?_
            refine A_i2l dX10_strikes_96 ?_
            refine A_lmul dX10_strikes_97 ?_
            refine A_iload_n dX10_strikes_98 rfl rfl ?_
            refine A_i2l dX10_strikes_99 ?_
            refine A_ldiv dX10_strikes_100 hn0 ?_
            refine A_l2i dX10_strikes_101 ?_
            refine A_goto 117 dX10_strikes_102 (by decide) ?_
            refine A_istore (lv1 := [_, _, _, _, _, _, _, _]) dX10_strikes_117 (Nat.le_of_ble_eq_true rfl) rfl rfl ?_
            refine A_aload_n dX10_strikes_119 rfl rfl ?_
            refine A_get dX10_strikes_120 f_X10_64 HM_at0 rfl ?_
            refine A_bipush (v := 6) dX10_strikes_123 (by decide) ?_
            refine A_iload_n dX10_strikes_125 rfl rfl ?_
            refine A_imul dX10_strikes_126 ?_
            refine A_iload dX10_strikes_127 rfl ?_
            refine A_iadd dX10_strikes_129 ?_
            refine A_iload dX10_strikes_130 rfl ?_
            refine A_iastMK (i := ((6 * v) + x)) dX10_strikes_132 (by decide) (fun _ => rfl) (ixA (ixU rfl rfl) rfl) (by omega) (by decide) ?_
            rw [st1M]
            refine A_iload dX10_strikes_133 rfl ?_
            refine A_iload dX10_strikes_135 rfl ?_
            refine A_isub dX10_strikes_137 ?_
            refine A_istore (lv1 := [_, _, _, _, _, _, _, _]) dX10_strikes_138 (Nat.le_of_ble_eq_true rfl) rfl rfl ?_
            refine A_iload dX10_strikes_140 rfl ?_
            refine A_iconst (v := 1) dX10_strikes_142 (by decide) ?_
            refine A_iload dX10_strikes_143 rfl ?_
            refine A_ishl dX10_strikes_145 ?_
            refine A_ior dX10_strikes_146 ?_
            refine A_eqI (y := nI (sB d v (x + 1))) (by rw [(or6 _ hsb.1 x (by omega)).1, eS1]) ?_
            refine A_istore (lv1 := [_, _, _, _, _, _, _, _]) dX10_strikes_147 (Nat.le_of_ble_eq_true rfl) rfl rfl ?_
            refine A_aload_n dX10_strikes_149 rfl rfl ?_
            refine A_iload_n dX10_strikes_150 rfl rfl ?_
            refine A_iload_n dX10_strikes_151 rfl rfl ?_
            refine A_iload dX10_strikes_152 rfl ?_
            refine A_callVi dX10_strikes_154 m_X10_430 cb_X10_nextPaid (As := [_, _, _]) rfl HM_at0 rfl (k_nextPaid G (hM _) hv9 (by rw [e13]; exact hD)) rfl ⟨by decide, by decide⟩ (Nat.le_of_ble_eq_true rfl) ⟨by decide, by decide⟩ (fun x154 h154 hq => ?_)
            obtain ⟨rfl, rfl⟩ := hq
            rw [e13]
            refine A_istore (lv1 := [_, _, _, _, _, _, _, _]) dX10_strikes_157 (Nat.le_of_ble_eq_true rfl) rfl rfl ?_
            refine A_goto 61 dX10_strikes_159 (by decide) ?_
            refine A_fg 7 (lv1 := [_, _, _, _, _, _, _, _]) rfl ?_
            refine fin _ _ ?_ (fun q => absurd h79 q)
            rw [eW, if_pos h79]
