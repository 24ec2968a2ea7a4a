/-! THE REFERENCE reads words and numbers -/
def ByR (m : CT) : Prop := ∀ i, (m 4 i).toInt8.toInt32 = m 4 i
theorem by8 : ∀ n, n < 256 → ((Int8.ofNat n).toInt32 &&& 255) = nI n ∧ (Int8.ofNat n).toInt32 = (if n < 128 then nI n else nI n - 256) := by decide +kernel
theorem by8n : ∀ n, n < 256 → ∀ a, a < 128 → ¬ n < 128 → ¬ nI n - 256 = nI a := by
  intro n hn a ha hb e
  have := congrArg Int32.toInt e
  rw [show (256 : Int32) = nI 256 from rfl, nI_toInt (by omega)] at this
  have e2 : (nI n - nI 256).toInt = (n : Int) - 256 := by rw [subT (by rw [nI_toInt (by omega), nI_toInt (by omega)]; omega) (by rw [nI_toInt (by omega), nI_toInt (by omega)]; omega), nI_toInt (by omega), nI_toInt (by omega)]; rfl
  omega
theorem by_eq {x : Int32} (h : x.toInt8.toInt32 = x) {a : Nat} (ha : a < 128) : x = nI a ↔ x &&& 255 = nI a := by
  have hb : x.toInt8 = Int8.ofNat x.toInt8.toBitVec.toNat := Int8.toBitVec_inj.mp (by simp)
  obtain ⟨h1, h2⟩ := by8 x.toInt8.toBitVec.toNat x.toInt8.toBitVec.isLt
  rw [← hb, h] at h1 h2
  have hn : x.toInt8.toBitVec.toNat < 256 := x.toInt8.toBitVec.isLt
  generalize x.toInt8.toBitVec.toNat = n at h1 h2 hn
  rw [h1]
  by_cases z : n < 128
  · rw [if_pos z] at h2
    rw [h2]
  · rw [if_neg z] at h2
    constructor
    · intro e
      exact absurd (h2.symm.trans e) (by8n n hn a ha z)
    · intro e
      have := (nI_eq (by omega) (by omega)).mp e
      omega
theorem ch_8 : ∀ j, j < 31 → ∀ k, k < lenJ j → chJ j k = nI (tcl (chJ j k)) ∧ tcl (chJ j k) < 128 := by decide +kernel
def chP (f : Nat → Int32) (j s : Nat) : Nat → Bool
  | 0 => true
  | k + 1 => chP f j s k && decide (f (s + k) = chJ j k)
def wdB (f : Nat → Int32) (L p j : Nat) : Bool := decide (tkK f (tkS f L p) = 1) && (decide (tkE f L (tkS f L p) = tkS f L p + lenJ j) && chP f j (tkS f L p) (lenJ j))
def nxP (f : Nat → Int32) (L p : Nat) : Nat := tkE f L (tkS f L p)
def nuW (f : Nat → Int32) (L p : Nat) : Int32 := tkV f 99999 L (tkS f L p)
def wdO (f : Nat → Int32) (L j : Nat) (p : Nat) : Int32 × Nat := if wdB f L p j = true then (0, nxP f L p) else (1, tkS f L p)
def nuO (f : Nat → Int32) (L : Nat) (lo hi : Int32) (p : Nat) : Int32 × Nat := if ¬ tkK f (tkS f L p) = 2 then (1, tkS f L p) else if nuW f L p < lo ∨ hi < nuW f L p then (2, tkS f L p) else (0, nxP f L p)
def thn (o : Int32 × Nat) (g : Nat → Int32 × Nat) : Int32 × Nat := if o.1 = 0 then g o.2 else o
/-- all the same but the words of reading -/
def SMf (m y : CT) : Prop := (∀ l, l ≠ 0 → y l = m l) ∧ ∀ j, (j < 8 ∨ 13 < j) → y 0 j = m 0 j
theorem SMf.rf {m : CT} : SMf m m := ⟨fun _ _ => rfl, fun _ _ => rfl⟩
theorem SMf.tr {a b c : CT} (h : SMf a b) (h2 : SMf b c) : SMf a c := ⟨fun l x => (h2.1 l x).trans (h.1 l x), fun j x => (h2.2 j x).trans (h.2 j x)⟩
theorem SMt.s {a b : CT} (h : SMt a b) : SMf a b := ⟨h.1, fun j x => h.2 j (by omega) (by omega) (by omega) (by omega)⟩
theorem SMf.put {a b : CT} {i : Nat} {v : Int32} (h : SMf a b) (hi : 8 ≤ i ∧ i ≤ 13) : SMf a (put b 0 i v) := ⟨fun l x => by rw [put_ne x]; exact h.1 l x, fun j x => by rw [put_no (by omega)]; exact h.2 j x⟩
def GS (L : Nat) (f : Nat → Int32) (o : Int32 × Nat) (m : CT) : Prop := ByR m ∧ ((o.1 = 0 ∧ m 0 12 = 0 ∧ m 0 13 = -1 ∧ LK L f o.2 m) ∨ (¬ o.1 = 0 ∧ m 0 12 = o.1 ∧ m 0 13 = nI o.2))
def erM (k : Int32) (m : CT) : CT := if m 0 12 = 0 then put (put m 0 12 k) 0 13 (m 0 9) else m
theorem erM_s {k : Int32} {m : CT} : SMf m (erM k m) := by
  unfold erM
  split
  · exact (SMf.rf.put (by decide)).put (by decide)
  · exact SMf.rf
theorem ByR.to {m y : CT} (h : ByR m) (e : y 4 = m 4) : ByR y := by unfold ByR; rw [e]; exact h
/-- a fault is set down where the TOKEN begins -/
theorem er_G {L p : Nat} {f : Nat → Int32} {m : CT} {k : Int32} (hk : ¬ k = 0) (hB : ByR m) (h : m 0 12 = 0) (hL : LK L f p m) : GS L f (k, tkS f L p) (erM k m) := by
  refine ⟨hB.to (erM_s.1 4 (by decide)), Or.inr ⟨hk, ?_, ?_⟩⟩
  · rw [erM, if_pos h, put_no (by decide), put_at]
  · rw [erM, if_pos h, put_at]; exact hL.2.2.2.2.2.1
theorem er_B {L : Nat} {f : Nat → Int32} {o : Int32 × Nat} {m : CT} {k : Int32} (h : ¬ m 0 12 = 0) : erM k m = m := if_neg h
theorem k_good (G : GX) {b : Nat} {m : CT} {ml : Nat → Nat → Int64} {r : Nat → Option AE} {n : Nat} : MA G 0 yX10_good cX10_good 1 (some .boolean) 0 0 [.ref b] (HM b m ml r n) (qI fun x9 h1 => x9 = (if m 0 12 = 0 then 1 else 0) ∧ h1 = HM b m ml r n) := by
  refine MA.of (own := RX10) false [some (.ref b)] (by decide +kernel) rfl (fun h => by cases h) (Nat.le_of_ble_eq_true rfl) rfl (fun X => ?_)
  refine A_aload_n dX10_good_0 rfl rfl ?_
  refine A_get dX10_good_1 f_X10_134 HM_at0 rfl ?_
  refine A_if_ne 11 dX10_good_4 (by decide) (fun c4 => ?_) (fun c4 => ?_)
  · refine A_iconst (v := 0) dX10_good_11 (by decide) ?_
    exact A_zret dX10_good_12 rfl ⟨by rw [if_neg c4], rfl⟩ ⟨by decide, by decide⟩
  · refine A_iconst (v := 1) dX10_good_7 (by decide) ?_
    refine A_goto 12 dX10_good_8 (by decide) ?_
    exact A_zret dX10_good_12 rfl ⟨by rw [if_pos c4], rfl⟩ ⟨by decide, by decide⟩

theorem k_errs (G : GX) {b : Nat} {m : CT} {ml : Nat → Nat → Int64} {r : Nat → Option AE} {n : Nat} {k : Int32} : MA G 1 yX10_errs cX10_errs 2 none 0 0 [.ref b, .int k] (HM b m ml r n) (qV fun h1 => h1 = HM b (erM k m) ml r n) := by
  refine MA.of (own := RX10) false [some (.ref b), some (.int k)] (by decide +kernel) rfl (fun h => by cases h) (Nat.le_of_ble_eq_true rfl) rfl (fun X => ?_)
  refine A_aload_n dX10_errs_0 rfl rfl ?_
  refine A_callVi dX10_errs_1 m_X10_137 cb_X10_good (As := []) rfl HM_at0 rfl (k_good G) rfl ⟨by decide, by decide⟩ (Nat.le_of_ble_eq_true rfl) ⟨by decide, by decide⟩ (fun x1 h1 hq => ?_)
  obtain ⟨rfl, rfl⟩ := hq
  refine A_if_ne 8 dX10_errs_4 (by decide) (fun c4 => ?_) (fun c4 => ?_)
  · refine A_aload_n dX10_errs_8 rfl rfl ?_
    refine A_iload_n dX10_errs_9 rfl rfl ?_
    refine A_putM0 dX10_errs_10 p_X10_134 rfl (Nat.le_of_ble_eq_true rfl) rfl ?_
    refine A_aload_n dX10_errs_13 rfl rfl ?_
    refine A_aload_n dX10_errs_14 rfl rfl ?_
    refine A_get dX10_errs_15 f_X10_110 HM_at0 rfl ?_
    refine A_putM0 dX10_errs_18 p_X10_27 rfl (Nat.le_of_ble_eq_true rfl) rfl ?_
    exact A_vret dX10_errs_21 (by rw [erM, if_pos (by by_cases w : m 0 12 = 0; exact w; exact absurd (if_neg w) c4)]; rfl) ⟨by decide, by decide⟩
  · exact A_vret dX10_errs_7 (by rw [erM, if_neg (fun w => by rw [if_pos w] at c4; exact absurd c4 (by decide))]) ⟨by decide, by decide⟩

theorem chP_no {f : Nat → Int32} {j s : Nat} : ∀ {n k : Nat}, k ≤ n → ¬ chP f j s k = true → ¬ chP f j s n = true
  | 0, k, h, hk => by rw [show k = 0 by omega] at hk; exact hk
  | n + 1, k, h, hk => by
    by_cases e : k = n + 1
    · subst e; exact hk
    · intro w
      rw [chP, Bool.and_eq_true] at w
      exact chP_no (by omega : k ≤ n) hk w.1
theorem is_w (G : GX) (X : XC) {b : Nat} {m : CT} {ml : Nat → Nat → Int64} {r : Nat → Option AE} {n : Nat} {L j : Nat} {f : Nat → Int32} {s : Nat} (hj : j < 31) (hB : ByR m) (h9 : m 0 9 = nI s) (h7 : m 0 7 = nI L) (hL : L ≤ 1600) (hsL : s + lenJ j ≤ L) (hf : myF m = f) : ∀ (q k : Nat), k + q = lenJ j → WA X G RX10 cX10_is false (some .boolean) (qI fun x9 h1 => x9 = (if chP f j s (lenJ j) = true then 1 else 0) ∧ h1 = HM b m ml r n) 6 0 0 (HM b m ml r n) 0 0 39 [some (.ref b), some (.ref (gK G j)), some (.int (if chP f j s k = true then 1 else 0)), some (.int (nI k))] [] := by
  have h60 := (lenJ_all j hj).1
  intro q
  induction q with
  | zero =>
    intro k hk
    refine A_iload_n dX10_is_39 rfl rfl ?_
    refine A_aload_n dX10_is_40 rfl rfl ?_
    refine A_callLi hj dX10_is_41 m_X10_141 cb_J0_length_8abf5 rfl (As := []) rfl (l_length G hj) rfl ⟨by decide, by decide⟩ (Nat.le_of_ble_eq_true rfl) ⟨by decide, by decide⟩ (fun x41 h41 hq => ?_)
    obtain ⟨rfl, rfl⟩ := hq
    refine A_icmp_ge 82 dX10_is_44 (by decide) (fun c44 => ?_) (fun c44 => ?_)
    · refine A_iload_n dX10_is_82 rfl rfl ?_
      exact A_zret dX10_is_83 (by split <;> rfl) ⟨by rw [show lenJ j = k by omega], rfl⟩ ⟨by decide, by decide⟩
    · exact absurd (nI_le (by omega) (by omega)) c44
  | succ q ih =>
    intro k hk
    have hkl : k < lenJ j := by omega
    obtain ⟨hc1, hc2⟩ := ch_8 j hj k hkl
    have hfe : f (s + k) = m 4 (s + k) &&& 255 := by rw [← hf]; exact myF_lt h7 hL (by omega)
    have hch : m 4 (s + k) = chJ j k ↔ f (s + k) = chJ j k := by rw [hfe, hc1]; exact by_eq (hB _) hc2
    refine A_iload_n dX10_is_39 rfl rfl ?_
    refine A_aload_n dX10_is_40 rfl rfl ?_
    refine A_callLi hj dX10_is_41 m_X10_141 cb_J0_length_8abf5 rfl (As := []) rfl (l_length G hj) rfl ⟨by decide, by decide⟩ (Nat.le_of_ble_eq_true rfl) ⟨by decide, by decide⟩ (fun x41 h41 hq => ?_)
    obtain ⟨rfl, rfl⟩ := hq
    refine A_icmp_ge 82 dX10_is_44 (by decide) (fun c44 => ?_) (fun c44 => ?_)
    · exact absurd c44 (nI_ge (by omega) (by omega))
    · refine A_iload_n dX10_is_47 rfl rfl ?_
      refine A_if_eq 82 dX10_is_48 (by decide) (fun c48 => ?_) (fun c48 => ?_)
      · refine A_iload_n dX10_is_82 rfl rfl ?_
        exact A_zret dX10_is_83 (by split <;> rfl) ⟨by rw [if_neg (fun w => by rw [if_pos w] at c48; exact absurd c48 (by decide)), if_neg (fun w => chP_no (by omega : k ≤ lenJ j) (fun v => by rw [if_pos v] at c48; exact absurd c48 (by decide)) w)], rfl⟩ ⟨by decide, by decide⟩
      · have c48b : chP f j s k = true := by by_cases w : chP f j s k = true; exact w; exact absurd (if_neg w) c48
        refine A_aload_n dX10_is_51 rfl rfl ?_
        refine A_get dX10_is_52 f_X10_20 HM_at0 rfl ?_
        refine A_aload_n dX10_is_55 rfl rfl ?_
        refine A_get dX10_is_56 f_X10_110 HM_at0 rfl ?_
        refine A_eqI (y := nI s) h9 ?_
        refine A_iload_n dX10_is_59 rfl rfl ?_
        refine A_iadd dX10_is_60 ?_
        refine A_eqI (y := nI (s + k)) (nI_add s k) ?_
        refine A_baldN dX10_is_61 (HM_at (by decide)) (by omega) (by decide) ?_
        refine A_aload_n dX10_is_62 rfl rfl ?_
        refine A_iload_n dX10_is_63 rfl rfl ?_
        refine A_callLi hj dX10_is_64 m_X10_146 cb_J0_charAt_5068e rfl (As := [_]) rfl (l_charAt G hj hkl) rfl ⟨by decide, by decide⟩ (Nat.le_of_ble_eq_true rfl) ⟨by decide, by decide⟩ (fun x64 h64 hq => ?_)
        obtain ⟨rfl, rfl⟩ := hq
        refine A_icmp_ne 74 dX10_is_67 (by decide) (fun c67 => ?_) (fun c67 => ?_)
        · refine A_iconst (v := 0) dX10_is_74 (by decide) ?_
          refine A_istore_n (lv1 := [_, _, _, _]) dX10_is_75 rfl (Nat.le_of_ble_eq_true rfl) rfl rfl ?_
          refine A_inc 1 (lv1 := [_, _, _, _]) dX10_is_76 rfl (by decide) rfl rfl ?_
          refine A_goto 39 dX10_is_79 (by decide) ?_
          rw [nI_1]
          have e2 : chP f j s (k + 1) = false := by rw [chP, c48b, Bool.true_and]; exact decide_eq_false (fun w => c67 (hch.mpr w))
          have e3 := ih (k + 1) (by omega)
          rw [e2] at e3
          exact e3
        · refine A_iconst (v := 1) dX10_is_70 (by decide) ?_
          refine A_goto 75 dX10_is_71 (by decide) ?_
          refine A_istore_n (lv1 := [_, _, _, _]) dX10_is_75 rfl (Nat.le_of_ble_eq_true rfl) rfl rfl ?_
          refine A_inc 1 (lv1 := [_, _, _, _]) dX10_is_76 rfl (by decide) rfl rfl ?_
          refine A_goto 39 dX10_is_79 (by decide) ?_
          rw [nI_1]
          have e2 : chP f j s (k + 1) = true := by rw [chP, c48b, Bool.true_and]; exact decide_eq_true (hch.mp c67)
          have e3 := ih (k + 1) (by omega)
          rw [e2] at e3
          exact e3

theorem k_is (G : GX) {b : Nat} {m : CT} {ml : Nat → Nat → Int64} {r : Nat → Option AE} {n : Nat} {L j : Nat} {f : Nat → Int32} {o : Int32 × Nat} (hj : j < 31) (hG : GS L f o m) : MA G 6 yX10_is cX10_is 4 (some .boolean) 0 0 [.ref b, .ref (gK G j)] (HM b m ml r n) (qI fun x9 h1 => x9 = (if o.1 = 0 ∧ wdB f L o.2 j = true then 1 else 0) ∧ h1 = HM b m ml r n) := by
  refine MA.of (own := RX10) false [some (.ref b), some (.ref (gK G j)), none, none] (by decide +kernel) rfl (fun h => by cases h) (Nat.le_of_ble_eq_true rfl) rfl (fun X => ?_)
  obtain ⟨hB, ⟨b0, g0, -, hLK⟩ | ⟨b0, g1, g2⟩⟩ := hG
  · obtain ⟨h7, hL, hp, hf, h10, h9, h8, h11⟩ := hLK
    have hsb := tkS_b (f := f) hp
    have hfL : f L = -1 := by rw [← hf]; exact myF_L h7
    have heb := tkE_b (f := f) hsb.2 hfL
    obtain ⟨s, es⟩ : ∃ s, tkS f L o.2 = s := ⟨_, rfl⟩
    obtain ⟨e, ee⟩ : ∃ e, tkE f L s = e := ⟨_, rfl⟩
    rw [es] at h10 h9 h8 hsb heb
    rw [ee] at h8 heb
    have h60 := (lenJ_all j hj).1
    refine A_aload_n dX10_is_0 rfl rfl ?_
    refine A_callVi dX10_is_1 m_X10_137 cb_X10_good (As := []) rfl HM_at0 rfl (k_good G) rfl ⟨by decide, by decide⟩ (Nat.le_of_ble_eq_true rfl) ⟨by decide, by decide⟩ (fun x1 h1 hq => ?_)
    obtain ⟨rfl, rfl⟩ := hq
    refine A_if_eq 35 dX10_is_4 (by decide) (fun c4 => ?_) (fun c4 => ?_)
    · rw [g0] at c4
      exact absurd c4 (by decide)
    · refine A_aload_n dX10_is_7 rfl rfl ?_
      refine A_get dX10_is_8 f_X10_113 HM_at0 rfl ?_
      refine A_iconst (v := 1) dX10_is_11 (by decide) ?_
      refine A_icmp_ne 35 dX10_is_12 (by decide) (fun c12 => ?_) (fun c12 => ?_)
      · refine A_iconst (v := 0) dX10_is_35 (by decide) ?_
        refine A_istore_n (lv1 := [_, _, _, _]) dX10_is_36 rfl (Nat.le_of_ble_eq_true rfl) rfl rfl ?_
        refine A_iconst (v := 0) dX10_is_37 (by decide) ?_
        refine A_istore_n (lv1 := [_, _, _, _]) dX10_is_38 rfl (Nat.le_of_ble_eq_true rfl) rfl rfl ?_
        refine A_iload_n dX10_is_39 rfl rfl ?_
        refine A_aload_n dX10_is_40 rfl rfl ?_
        refine A_callLi hj dX10_is_41 m_X10_141 cb_J0_length_8abf5 rfl (As := []) rfl (l_length G hj) rfl ⟨by decide, by decide⟩ (Nat.le_of_ble_eq_true rfl) ⟨by decide, by decide⟩ (fun x41 h41 hq => ?_)
        obtain ⟨rfl, rfl⟩ := hq
        refine A_icmp_ge 82 dX10_is_44 (by decide) (fun c44 => ?_) (fun c44 => ?_)
        · refine A_iload_n dX10_is_82 rfl rfl ?_
          exact A_zret dX10_is_83 rfl ⟨(if_neg (fun w => by have := w.2; rw [wdB, es, Bool.and_eq_true] at this; exact c12 (h10.trans (of_decide_eq_true this.1)))).symm, rfl⟩ ⟨by decide, by decide⟩
        · refine A_iload_n dX10_is_47 rfl rfl ?_
          refine A_if_eq 82 dX10_is_48 (by decide) (fun c48 => ?_) (fun c48 => ?_)
          · refine A_iload_n dX10_is_82 rfl rfl ?_
            exact A_zret dX10_is_83 rfl ⟨(if_neg (fun w => by have := w.2; rw [wdB, es, Bool.and_eq_true] at this; exact c12 (h10.trans (of_decide_eq_true this.1)))).symm, rfl⟩ ⟨by decide, by decide⟩
          · exact absurd rfl c48
      · refine A_aload_n dX10_is_15 rfl rfl ?_
        refine A_get dX10_is_16 f_X10_103 HM_at0 rfl ?_
        refine A_eqI (y := nI e) h8 ?_
        refine A_aload_n dX10_is_19 rfl rfl ?_
        refine A_get dX10_is_20 f_X10_110 HM_at0 rfl ?_
        refine A_eqI (y := nI s) h9 ?_
        refine A_isub dX10_is_23 ?_
        refine A_eqI (y := nI (e - s)) (nI_subN heb.1) ?_
        refine A_aload_n dX10_is_24 rfl rfl ?_
        refine A_callLi hj dX10_is_25 m_X10_141 cb_J0_length_8abf5 rfl (As := []) rfl (l_length G hj) rfl ⟨by decide, by decide⟩ (Nat.le_of_ble_eq_true rfl) ⟨by decide, by decide⟩ (fun x25 h25 hq => ?_)
        obtain ⟨rfl, rfl⟩ := hq
        refine A_icmp_ne 35 dX10_is_28 (by decide) (fun c28 => ?_) (fun c28 => ?_)
        · refine A_iconst (v := 0) dX10_is_35 (by decide) ?_
          refine A_istore_n (lv1 := [_, _, _, _]) dX10_is_36 rfl (Nat.le_of_ble_eq_true rfl) rfl rfl ?_
          refine A_iconst (v := 0) dX10_is_37 (by decide) ?_
          refine A_istore_n (lv1 := [_, _, _, _]) dX10_is_38 rfl (Nat.le_of_ble_eq_true rfl) rfl rfl ?_
          refine A_iload_n dX10_is_39 rfl rfl ?_
          refine A_aload_n dX10_is_40 rfl rfl ?_
          refine A_callLi hj dX10_is_41 m_X10_141 cb_J0_length_8abf5 rfl (As := []) rfl (l_length G hj) rfl ⟨by decide, by decide⟩ (Nat.le_of_ble_eq_true rfl) ⟨by decide, by decide⟩ (fun x41 h41 hq => ?_)
          obtain ⟨rfl, rfl⟩ := hq
          refine A_icmp_ge 82 dX10_is_44 (by decide) (fun c44 => ?_) (fun c44 => ?_)
          · refine A_iload_n dX10_is_82 rfl rfl ?_
            exact A_zret dX10_is_83 rfl ⟨(if_neg (fun w => by have := w.2; rw [wdB, es, ee, Bool.and_eq_true, Bool.and_eq_true] at this; exact c28 (congrArg nI (show e - s = lenJ j by have := of_decide_eq_true this.2.1; omega)))).symm, rfl⟩ ⟨by decide, by decide⟩
          · refine A_iload_n dX10_is_47 rfl rfl ?_
            refine A_if_eq 82 dX10_is_48 (by decide) (fun c48 => ?_) (fun c48 => ?_)
            · refine A_iload_n dX10_is_82 rfl rfl ?_
              exact A_zret dX10_is_83 rfl ⟨(if_neg (fun w => by have := w.2; rw [wdB, es, ee, Bool.and_eq_true, Bool.and_eq_true] at this; exact c28 (congrArg nI (show e - s = lenJ j by have := of_decide_eq_true this.2.1; omega)))).symm, rfl⟩ ⟨by decide, by decide⟩
            · exact absurd rfl c48
        · refine A_iconst (v := 1) dX10_is_31 (by decide) ?_
          refine A_goto 36 dX10_is_32 (by decide) ?_
          refine A_istore_n (lv1 := [_, _, _, _]) dX10_is_36 rfl (Nat.le_of_ble_eq_true rfl) rfl rfl ?_
          refine A_iconst (v := 0) dX10_is_37 (by decide) ?_
          refine A_istore_n (lv1 := [_, _, _, _]) dX10_is_38 rfl (Nat.le_of_ble_eq_true rfl) rfl rfl ?_
          have c28b : e = s + lenJ j := by have := (nI_eq (by omega) (by omega)).mp c28; omega
          have eW : (if o.1 = 0 ∧ wdB f L o.2 j = true then (1 : Int32) else 0) = if chP f j s (lenJ j) = true then 1 else 0 := by
            have e5 : wdB f L o.2 j = chP f j s (lenJ j) := by rw [wdB, es, ee, decide_eq_true c28b, decide_eq_true (h10.symm.trans c12), Bool.true_and, Bool.true_and]
            rw [e5]
            by_cases w : chP f j s (lenJ j) = true
            · rw [if_pos w, if_pos ⟨b0, w⟩]
            · rw [if_neg w, if_neg (fun z => w z.2)]
          rw [eW]
          exact is_w G X hj hB h9 h7 hL (by omega) hf (lenJ j) 0 (by omega)
  · have g0 : ¬ m 0 12 = 0 := by rw [g1]; exact b0
    refine A_aload_n dX10_is_0 rfl rfl ?_
    refine A_callVi dX10_is_1 m_X10_137 cb_X10_good (As := []) rfl HM_at0 rfl (k_good G) rfl ⟨by decide, by decide⟩ (Nat.le_of_ble_eq_true rfl) ⟨by decide, by decide⟩ (fun x1 h1 hq => ?_)
    obtain ⟨rfl, rfl⟩ := hq
    refine A_if_eq 35 dX10_is_4 (by decide) (fun c4 => ?_) (fun c4 => ?_)
    · refine A_iconst (v := 0) dX10_is_35 (by decide) ?_
      refine A_istore_n (lv1 := [_, _, _, _]) dX10_is_36 rfl (Nat.le_of_ble_eq_true rfl) rfl rfl ?_
      refine A_iconst (v := 0) dX10_is_37 (by decide) ?_
      refine A_istore_n (lv1 := [_, _, _, _]) dX10_is_38 rfl (Nat.le_of_ble_eq_true rfl) rfl rfl ?_
      refine A_iload_n dX10_is_39 rfl rfl ?_
      refine A_aload_n dX10_is_40 rfl rfl ?_
      refine A_callLi hj dX10_is_41 m_X10_141 cb_J0_length_8abf5 rfl (As := []) rfl (l_length G hj) rfl ⟨by decide, by decide⟩ (Nat.le_of_ble_eq_true rfl) ⟨by decide, by decide⟩ (fun x41 h41 hq => ?_)
      obtain ⟨rfl, rfl⟩ := hq
      refine A_icmp_ge 82 dX10_is_44 (by decide) (fun c44 => ?_) (fun c44 => ?_)
      · refine A_iload_n dX10_is_82 rfl rfl ?_
        exact A_zret dX10_is_83 rfl ⟨(if_neg (fun w => b0 w.1)).symm, rfl⟩ ⟨by decide, by decide⟩
      · refine A_iload_n dX10_is_47 rfl rfl ?_
        refine A_if_eq 82 dX10_is_48 (by decide) (fun c48 => ?_) (fun c48 => ?_)
        · refine A_iload_n dX10_is_82 rfl rfl ?_
          exact A_zret dX10_is_83 rfl ⟨(if_neg (fun w => b0 w.1)).symm, rfl⟩ ⟨by decide, by decide⟩
        · exact absurd rfl c48
    · exact absurd (if_neg g0) c4