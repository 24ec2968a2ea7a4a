/-! THE REFERENCE: plain -/
def rpP (f : Nat → Int32) (L : Nat) : Nat → RS → RS → Prop
  | 0, _, _ => False
  | k + 1, s, t => if s.1.1 = 0 ∧ ¬ tkK f (tkS f L s.1.2) = 0 then (∃ N0 N1 N2 N3 K, CF s.2 N0 N1 N2 N3 K) ∧ rpP f L k (lnS f L s) t else s = t
def PLQ (b : Nat) (ml : Nat → Nat → Int64) (r : Nat → Option AE) (n : Nat) (m0 : CT) (t : RS) (x9 : Int32) (h1 : AH) : Prop := x9 = (if t.1.1 = 0 then t.2 4 else -4) ∧ ∃ m1, h1 = HM b m1 ml r n ∧ m1 0 12 = t.1.1 ∧ m1 0 13 = (if t.1.1 = 0 then -1 else nI t.1.2) ∧ m1 1 = (if t.1.1 = 0 then t.2 else m0 1) ∧ (∀ l, l ≠ 0 → l ≠ 1 → l ≠ 6 → m1 l = m0 l) ∧ ∀ j, (j < 8 ∨ 13 < j) → m1 0 j = m0 0 j
theorem pl_w (G : GX) (X : XC) {b : Nat} {m0 : CT} {ml : Nat → Nat → Int64} {r : Nat → Option AE} {n L : Nat} {f : Nat → Int32} {t : RS} {u1 u2 : Nat} (hu : u1 = 0 ∧ u2 = 0) {m : CT} (hT : STr L f m0 t m) (b0 : t.1.1 = 0) : ∀ (k i : Nat) (g : Nat → Int32), i + k = 160 → (∀ j, j < i → g j = t.2 j) → WA X G RX10 cX10_plain false (some .int) (qI fun x9 h1 => PLQ b ml r n m0 t x9 h1) 13 0 0 (HM b (st1 m 1 g) ml r n) u1 u2 87 [some (.ref b), some (.int (nI i))] [] := by
  obtain ⟨rfl, rfl⟩ := hu
  obtain ⟨q0, q1, -⟩ := hT.2.1.lk b0
  intro k
  induction k with
  | zero =>
    intro i g hk hg
    have e9 : i = 160 := by omega
    subst e9
    refine A_iload_n dX10_plain_87 rfl rfl ?_
    refine A_sipush (v := 160) dX10_plain_88 (by decide) ?_
    refine A_icmp_ge 112 dX10_plain_91 (by decide) (fun c91 => ?_) (fun c91 => ?_)
    · refine WA_rowM (k := 1) t.2 (by decide) (fun _ => rfl) (fun i hi => by rw [st1_eq]; exact hg i hi) ?_
      rw [st1_st1]
      refine A_aload_n dX10_plain_112 rfl rfl ?_
      refine A_get dX10_plain_113 f_X10_9 HM_at0 rfl ?_
      refine A_iconst (v := 4) dX10_plain_116 (by decide) ?_
      refine A_ialdK (i := 4) dX10_plain_117 (HM_at (by decide)) rfl (by omega) (by decide) ?_
      rw [st1_eq]
      exact A_iret dX10_plain_118 ⟨(if_pos b0).symm, _, rfl, by rw [st1_ne (by decide), b0]; exact q0, by rw [st1_ne (by decide), if_pos b0]; exact q1, by rw [st1_eq, if_pos b0], fun l a c e => by rw [st1_ne c]; exact hT.1.1 l a e, fun j a => by rw [st1_ne (by decide)]; exact hT.1.2 j a⟩ ⟨by decide, by decide⟩
    · exact absurd (by decide) c91
  | succ k ih =>
    intro i g hk hg
    refine A_iload_n dX10_plain_87 rfl rfl ?_
    refine A_sipush (v := 160) dX10_plain_88 (by decide) ?_
    refine A_icmp_ge 112 dX10_plain_91 (by decide) (fun c91 => ?_) (fun c91 => ?_)
    · exact absurd c91 (nI_ge (b := 160) (by omega) (by decide))
    · refine A_aload_n dX10_plain_94 rfl rfl ?_
      refine A_get dX10_plain_95 f_X10_9 HM_at0 rfl ?_
      refine A_iload_n dX10_plain_98 rfl rfl ?_
      refine A_aload_n dX10_plain_99 rfl rfl ?_
      refine A_get dX10_plain_100 f_X10_31 HM_at0 rfl ?_
      refine A_iload_n dX10_plain_103 rfl rfl ?_
      refine A_ialdK (i := i) dX10_plain_104 (HM_at (by decide)) rfl (by omega) (by decide) ?_
      rw [st1_ne (show (6 : Nat) ≠ 1 by decide), hT.2.2]
      refine A_iastMK (i := i) dX10_plain_105 (by decide) (fun _ => rfl) rfl (by omega) (by decide) ?_
      refine A_inc 1 (lv1 := [_, _]) dX10_plain_106 rfl (by decide) rfl rfl ?_
      refine A_goto 87 dX10_plain_109 (by decide) ?_
      rw [nI_1, st1M]
      exact ih (i + 1) _ (by omega) (fun j hj => by by_cases e : j = i; (subst e; rw [pk_us]); (rw [pk_un e]; exact hg j (by omega)))

theorem pl_b {L : Nat} {f : Nat → Int32} {m0 m : CT} {t : RS} (hT : STr L f m0 t m) (b0 : ¬ t.1.1 = 0) : m 0 12 = t.1.1 ∧ m 0 13 = (if t.1.1 = 0 then -1 else nI t.1.2) ∧ m 1 = (if t.1.1 = 0 then t.2 else m0 1) ∧ (∀ l, l ≠ 0 → l ≠ 1 → l ≠ 6 → m l = m0 l) ∧ ∀ j, (j < 8 ∨ 13 < j) → m 0 j = m0 0 j := by
  rw [if_neg b0, if_neg b0]
  rcases hT.2.1.2 with ⟨a, -⟩ | ⟨-, a, c⟩
  · exact absurd a b0
  · exact ⟨a, c, hT.1.1 1 (by decide) (by decide), fun l x _ z => hT.1.1 l x z, hT.1.2⟩
theorem pl_e (G : GX) (X : XC) {b : Nat} {m0 : CT} {ml : Nat → Nat → Int64} {r : Nat → Option AE} {n L : Nat} {f : Nat → Int32} {t : RS} {u1 u2 : Nat} (hu : u1 = 0 ∧ u2 = 0) {m : CT} {x1 : Int32} (hT : STr L f m0 t m) : WA X G RX10 cX10_plain false (some .int) (qI fun x9 h1 => PLQ b ml r n m0 t x9 h1) 13 0 0 (HM b m ml r n) u1 u2 75 [some (.ref b), some (.int x1)] [] := by
  obtain ⟨rfl, rfl⟩ := hu
  refine A_aload_n dX10_plain_75 rfl rfl ?_
  refine A_callVi dX10_plain_76 m_X10_137 cb_X10_good (As := []) rfl HM_at0 rfl (k_good G) rfl ⟨by decide, by decide⟩ (Nat.le_of_ble_eq_true rfl) ⟨by decide, by decide⟩ (fun x76 h76 hq => ?_)
  obtain ⟨rfl, rfl⟩ := hq
  refine A_if_ne 85 dX10_plain_79 (by decide) (fun c79 => ?_) (fun c79 => ?_)
  · have b0 : t.1.1 = 0 := by by_cases w : t.1.1 = 0; exact w; exact absurd (if_neg (hT.2.1.bad w)) c79
    refine A_iconst (v := 0) dX10_plain_85 (by decide) ?_
    refine A_istore_n (lv1 := [_, _]) dX10_plain_86 rfl (Nat.le_of_ble_eq_true rfl) rfl rfl ?_
    rw [show HM b m ml r n = HM b (st1 m 1 (m 1)) ml r n by rw [st1_self]]
    exact pl_w G X ⟨rfl, rfl⟩ hT b0 160 0 (m 1) (by omega) (fun j hj => absurd hj (by omega))
  · refine A_bipush (v := (-4)) dX10_plain_82 (by decide) ?_
    exact A_iret dX10_plain_84 ⟨by rw [if_neg (fun w => by rw [if_pos (hT.2.1.lk w).1] at c79; exact absurd c79 (by decide))], m, rfl, pl_b hT (fun w => by rw [if_pos (hT.2.1.lk w).1] at c79; exact absurd c79 (by decide))⟩ ⟨by decide, by decide⟩
theorem pl_r (G : GX) (X : XC) {b : Nat} {m0 : CT} {ml : Nat → Nat → Int64} {r : Nat → Option AE} {n L : Nat} {f : Nat → Int32} {t : RS} {u1 u2 : Nat} (hu : u1 = 0 ∧ u2 = 0) {x1 : Int32} : ∀ (k : Nat) (s : RS) (m : CT), STr L f m0 s m → rpP f L k s t → WA X G RX10 cX10_plain false (some .int) (qI fun x9 h1 => PLQ b ml r n m0 t x9 h1) 13 0 0 (HM b m ml r n) u1 u2 54 [some (.ref b), some (.int x1)] [] := by
  obtain ⟨rfl, rfl⟩ := hu
  intro k
  induction k with
  | zero => intro s m _ h; exact absurd h id
  | succ k ih =>
    intro s m hT hR
    rw [rpP] at hR
    by_cases hc : s.1.1 = 0 ∧ ¬ tkK f (tkS f L s.1.2) = 0
    · rw [if_pos hc] at hR
      obtain ⟨⟨N0, N1, N2, N3, K, hC⟩, hR⟩ := hR
      obtain ⟨q0, -, hLK⟩ := hT.2.1.lk hc.1
      have h10 := hLK.2.2.2.2.1
      refine A_aload_n dX10_plain_54 rfl rfl ?_
      refine A_callVi dX10_plain_55 m_X10_137 cb_X10_good (As := []) rfl HM_at0 rfl (k_good G) rfl ⟨by decide, by decide⟩ (Nat.le_of_ble_eq_true rfl) ⟨by decide, by decide⟩ (fun x55 h55 hq => ?_)
      obtain ⟨rfl, rfl⟩ := hq
      refine A_if_eq 75 dX10_plain_58 (by decide) (fun c58 => ?_) (fun c58 => ?_)
      · rw [if_pos q0] at c58
        exact absurd c58 (by decide)
      · refine A_aload_n dX10_plain_61 rfl rfl ?_
        refine A_get dX10_plain_62 f_X10_113 HM_at0 rfl ?_
        refine A_if_eq 75 dX10_plain_65 (by decide) (fun c65 => ?_) (fun c65 => ?_)
        · exact absurd (h10.symm.trans c65) hc.2
        · refine A_aload_n dX10_plain_68 rfl rfl ?_
          refine A_callVv dX10_plain_69 m_X10_238 cb_X10_readLine (As := []) rfl HM_at0 rfl (k_readLine G hT hc.1 hC) rfl ⟨by decide, by decide⟩ (Nat.le_of_ble_eq_true rfl) ⟨by decide, by decide⟩ (fun h69 hq => ?_)
          obtain ⟨m9, rfl, hT9⟩ := hq
          refine A_goto 54 dX10_plain_72 (by decide) ?_
          exact ih _ _ hT9 hR
    · rw [if_neg hc] at hR
      subst hR
      refine A_aload_n dX10_plain_54 rfl rfl ?_
      refine A_callVi dX10_plain_55 m_X10_137 cb_X10_good (As := []) rfl HM_at0 rfl (k_good G) rfl ⟨by decide, by decide⟩ (Nat.le_of_ble_eq_true rfl) ⟨by decide, by decide⟩ (fun x55 h55 hq => ?_)
      obtain ⟨rfl, rfl⟩ := hq
      refine A_if_eq 75 dX10_plain_58 (by decide) (fun c58 => ?_) (fun c58 => ?_)
      · exact pl_e G X ⟨rfl, rfl⟩ hT
      · refine A_aload_n dX10_plain_61 rfl rfl ?_
        refine A_get dX10_plain_62 f_X10_113 HM_at0 rfl ?_
        refine A_if_eq 75 dX10_plain_65 (by decide) (fun c65 => ?_) (fun c65 => ?_)
        · exact pl_e G X ⟨rfl, rfl⟩ hT
        · have b0 : s.1.1 = 0 := by by_cases w : s.1.1 = 0; exact w; exact absurd (if_neg (hT.2.1.bad w)) c58
          exact absurd ⟨b0, fun w => c65 ((hT.2.1.lk b0).2.2.2.2.2.2.1.trans w)⟩ hc
def pl0 (m : CT) : CT := put (put (put (put (put m 0 7 (m 0 5)) 0 5 0) 0 8 0) 0 12 0) 0 13 (-1)
def plf (m : CT) (L : Nat) : Nat → Int32 := fun i => if nI L ≤ nI i then -1 else m 4 i &&& 255
theorem pl0_f {m : CT} : (∀ l, l ≠ 0 → pl0 m l = m l) ∧ pl0 m 0 7 = m 0 5 ∧ pl0 m 0 5 = 0 ∧ pl0 m 0 8 = 0 ∧ pl0 m 0 12 = 0 ∧ pl0 m 0 13 = -1 ∧ ∀ j, j ≠ 5 → j ≠ 7 → j ≠ 8 → j ≠ 12 → j ≠ 13 → pl0 m 0 j = m 0 j := by
  refine ⟨fun l hl => ?_, ?_, ?_, ?_, ?_, ?_, fun j a b c d e => ?_⟩
  · rw [pl0, put_ne hl, put_ne hl, put_ne hl, put_ne hl, put_ne hl]
  · rw [pl0, put_no (by decide), put_no (by decide), put_no (by decide), put_no (by decide), put_at]
  · rw [pl0, put_no (by decide), put_no (by decide), put_no (by decide), put_at]
  · rw [pl0, put_no (by decide), put_no (by decide), put_at]
  · rw [pl0, put_no (by decide), put_at]
  · rw [pl0, put_at]
  · rw [pl0, put_no e, put_no d, put_no c, put_no a, put_no b]
theorem k_plain (G : GX) {b : Nat} {m : CT} {ml : Nat → Nat → Int64} {r : Nat → Option AE} {n L k9 : Nat} {t : RS} (h5 : m 0 5 = nI L) (hL : L ≤ 1600) (hB : ByR m) (hR : rpP (plf m L) L k9 ((0, 0), fun _ => 0) t) : MA G 13 yX10_plain cX10_plain 2 (some .int) 0 0 [.ref b] (HM b m ml r n) (qI fun x9 h1 => PLQ b ml r n (st1 (pl0 m) 6 (fun _ => 0)) t x9 h1) := by
  refine MA.of (own := RX10) false [some (.ref b), none] (by decide +kernel) rfl (fun h => by cases h) (Nat.le_of_ble_eq_true rfl) rfl (fun X => ?_)
  have loop : ∀ (k i : Nat) (g : Nat → Int32), i + k = 160 → (∀ j, j < i → g j = 0) → WA X G RX10 cX10_plain false (some .int) (qI fun x9 h1 => PLQ b ml r n (st1 (pl0 m) 6 (fun _ => 0)) t x9 h1) 13 0 0 (HM b (st1 (pl0 m) 6 g) ml r n) 0 0 30 [some (.ref b), some (.int (nI i))] [] := by
    intro k
    induction k with
    | zero =>
      intro i g hk hg
      have e9 : i = 160 := by omega
      subst e9
      refine A_iload_n dX10_plain_30 rfl rfl ?_
      refine A_sipush (v := 160) dX10_plain_31 (by decide) ?_
      refine A_icmp_ge 50 dX10_plain_34 (by decide) (fun c34 => ?_) (fun c34 => ?_)
      · refine WA_rowM (k := 6) (fun _ => 0) (by decide) (fun _ => rfl) (fun i hi => by rw [st1_eq]; exact hg i hi) ?_
        rw [st1_st1]
        obtain ⟨y, ey⟩ : ∃ y, st1 (pl0 m) 6 (fun _ => (0 : Int32)) = y := ⟨_, rfl⟩
        obtain ⟨z0, z7, z5, z8, z12, z13, zj⟩ := pl0_f (m := m)
        have y0 : y 0 = pl0 m 0 := by rw [← ey, st1_ne (by decide)]
        have y4 : y 4 = m 4 := by rw [← ey, st1_ne (by decide)]; exact z0 4 (by decide)
        have y6 : y 6 = fun _ => 0 := by rw [← ey, st1_eq]
        have y7 : y 0 7 = nI L := by rw [y0, z7]; exact h5
        have yf : myF y = plf m L := by funext i; rw [myF, plf, y7, y4]
        rw [ey]
        refine A_aload_n dX10_plain_50 rfl rfl ?_
        refine A_callVv dX10_plain_51 m_X10_154 cb_X10_advance (As := []) rfl HM_at0 rfl (k_advance G (p := 0) y7 hL (Nat.zero_le _) yf (by rw [y0]; exact z8)) rfl ⟨by decide, by decide⟩ (Nat.le_of_ble_eq_true rfl) ⟨by decide, by decide⟩ (fun h51 hq => ?_)
        obtain ⟨m4, rfl, hS4, hK4⟩ := hq
        have hG : GS L (plf m L) ((0 : Int32), 0) m4 := ⟨(hB.to y4).to (hS4.1 4 (by decide)), Or.inl ⟨rfl, by rw [hS4.2 12 (by decide) (by decide) (by decide) (by decide), y0]; exact z12, by rw [hS4.2 13 (by decide) (by decide) (by decide) (by decide), y0]; exact z13, hK4⟩⟩
        have hT : STr L (plf m L) y ((0, 0), fun _ => 0) m4 := ⟨⟨fun l a c => hS4.1 l a, fun j a => hS4.2 j (by omega) (by omega) (by omega) (by omega)⟩, hG, by rw [hS4.1 6 (by decide)]; exact y6⟩
        exact pl_r G X ⟨rfl, rfl⟩ k9 _ m4 hT hR
      · exact absurd (by decide) c34
    | succ k ih =>
      intro i g hk hg
      refine A_iload_n dX10_plain_30 rfl rfl ?_
      refine A_sipush (v := 160) dX10_plain_31 (by decide) ?_
      refine A_icmp_ge 50 dX10_plain_34 (by decide) (fun c34 => ?_) (fun c34 => ?_)
      · exact absurd c34 (nI_ge (b := 160) (by omega) (by decide))
      · refine A_aload_n dX10_plain_37 rfl rfl ?_
        refine A_get dX10_plain_38 f_X10_31 HM_at0 rfl ?_
        refine A_iload_n dX10_plain_41 rfl rfl ?_
        refine A_iconst (v := 0) dX10_plain_42 (by decide) ?_
        refine A_iastMK (i := i) dX10_plain_43 (by decide) (fun _ => rfl) rfl (by omega) (by decide) ?_
        refine A_inc 1 (lv1 := [_, _]) dX10_plain_44 rfl (by decide) rfl rfl ?_
        refine A_goto 30 dX10_plain_47 (by decide) ?_
        rw [nI_1, st1M]
        exact ih (i + 1) _ (by omega) (fun j hj => by by_cases e : j = i; (subst e; rw [pk_us]); (rw [pk_un e]; exact hg j (by omega)))
  refine A_aload_n dX10_plain_0 rfl rfl ?_
  refine A_aload_n dX10_plain_1 rfl rfl ?_
  refine A_get dX10_plain_2 f_X10_97 HM_at0 rfl ?_
  refine A_putM0 dX10_plain_5 p_X10_100 rfl (Nat.le_of_ble_eq_true rfl) rfl ?_
  refine A_aload_n dX10_plain_8 rfl rfl ?_
  refine A_iconst (v := 0) dX10_plain_9 (by decide) ?_
  refine A_putM0 dX10_plain_10 p_X10_97 rfl (Nat.le_of_ble_eq_true rfl) rfl ?_
  refine A_aload_n dX10_plain_13 rfl rfl ?_
  refine A_iconst (v := 0) dX10_plain_14 (by decide) ?_
  refine A_putM0 dX10_plain_15 p_X10_103 rfl (Nat.le_of_ble_eq_true rfl) rfl ?_
  refine A_aload_n dX10_plain_18 rfl rfl ?_
  refine A_iconst (v := 0) dX10_plain_19 (by decide) ?_
  refine A_putM0 dX10_plain_20 p_X10_134 rfl (Nat.le_of_ble_eq_true rfl) rfl ?_
  refine A_aload_n dX10_plain_23 rfl rfl ?_
  refine A_iconst (v := (-1)) dX10_plain_24 (by decide) ?_
  refine A_putM0 dX10_plain_25 p_X10_27 rfl (Nat.le_of_ble_eq_true rfl) rfl ?_
  refine A_iconst (v := 0) dX10_plain_28 (by decide) ?_
  refine A_istore_n (lv1 := [_, _]) dX10_plain_29 rfl (Nat.le_of_ble_eq_true rfl) rfl rfl ?_
  refine WA_h (congrArg (fun z => HM b z ml r n) (show _ = st1 (pl0 m) 6 (pl0 m 6) from st1_self.symm)) ?_
  exact loop 160 0 _ (by omega) (fun j hj => absurd hj (by omega))
