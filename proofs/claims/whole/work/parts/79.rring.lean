/-! THE REFERENCE: the search for a ring -/
def bS (s : Nat → Nat) : Nat → Nat
  | 0 => 0
  | i + 1 => bS s i ||| 2 ^ s i
theorem bS_b {s : Nat → Nat} : ∀ k, (∀ i, i < k → s i < 6) → bS s k < 64 ∧ ∀ t, t < 6 → ((bS s k).testBit t = true ↔ ∃ j, j < k ∧ s j = t)
  | 0, _ => ⟨by rw [bS]; decide, fun t _ => ⟨fun z => by simp [bS] at z, fun ⟨j, h, _⟩ => absurd h (by omega)⟩⟩
  | k + 1, h => by
    obtain ⟨h1, h2⟩ := bS_b (s := s) k (fun i hi => h i (by omega))
    rw [bS]
    refine ⟨(or6 _ h1 (s k) (h k (by omega))).2, fun t ht => ?_⟩
    rw [Nat.testBit_or, Bool.or_eq_true, h2 t ht, Nat.testBit_two_pow, decide_eq_true_eq]
    constructor
    · rintro (⟨j, a, b⟩ | z)
      · exact ⟨j, by omega, b⟩
      · exact ⟨k, by omega, z⟩
    · rintro ⟨j, a, b⟩
      by_cases e : j = k
      · subst e; exact Or.inr b
      · exact Or.inl ⟨j, by omega, b⟩
def RV (d : Nat → Int32) (n : Nat) (s : Nat → Nat) (k : Nat) : Prop := ∀ i, i < k → s 0 ≤ s i ∧ (∀ j, j < i → s j ≠ s i) ∧ ¬ d (6 * s i + s ((i + 1) % n)) = 0
theorem RV_VR {d : Nat → Int32} (hD : DOk d) {nv n : Nat} {s : Nat → Nat} (hn : 2 ≤ n) (hs : ∀ i, i < n → s i < nv) : RV d n s n ↔ VR d nv n s := by
  have pos : ∀ j, (¬ d j = 0 ↔ 0 < d j) := fun j => by rw [Int32.lt_iff_toInt_lt, eqT0, T0]; have := hD j; omega
  constructor
  · intro h
    refine ⟨hs, fun i a b => ?_, fun i j a b => (h j b).2.1 i a, fun i a => ?_, ?_⟩
    · have h1 := (h i b).1
      have h2 := (h i b).2.1 0 a
      omega
    · have := (h i (by omega)).2.2
      rw [Nat.mod_eq_of_lt a, Nat.mul_comm] at this
      exact (pos _).mp this
    · have := (h (n - 1) (by omega)).2.2
      rw [show n - 1 + 1 = n by omega, Nat.mod_self, Nat.mul_comm] at this
      exact (pos _).mp this
  · rintro ⟨h1, h2, h3, h4, h5⟩ i hi
    refine ⟨?_, fun j hj => h3 j i hj hi, ?_⟩
    · by_cases e : i = 0
      · subst e; exact Nat.le_refl _
      · exact Nat.le_of_lt (h2 i (by omega) hi)
    · by_cases e : i + 1 < n
      · rw [Nat.mod_eq_of_lt e, Nat.mul_comm]; exact (pos _).mpr (h4 i e)
      · rw [show i + 1 = n by omega, Nat.mod_self, Nat.mul_comm, show i = n - 1 by omega]; exact (pos _).mpr h5
theorem VR_cong {d : Nat → Int32} {nv n : Nat} {s t : Nat → Nat} (hn : 0 < n) (h : VR d nv n s) (e : ∀ i, i < n → t i = s i) : VR d nv n t := by
  obtain ⟨h1, h2, h3, h4, h5⟩ := h
  refine ⟨fun i hi => by rw [e i hi]; exact h1 i hi, fun i a b => by rw [e i b, e 0 hn]; exact h2 i a b, fun i j a b => by rw [e i (by omega), e j b]; exact h3 i j a b, fun i a => by rw [e i (by omega), e (i + 1) a]; exact h4 i a, by rw [e _ (by omega), e 0 hn]; exact h5⟩
theorem k_isRing (G : GX) {b : Nat} {m : CT} {ml : Nat → Nat → Int64} {r : Nat → Option AE} {n k : Nat} {s : Nat → Nat} (hk : 2 ≤ k) (hk6 : k ≤ 6) (hs : ∀ i, i < k → s i < 6) (hrow : ∀ i, i < k → m 15 i = nI (s i)) : MA G 1 yX10_isRing cX10_isRing 4 (some .boolean) 0 0 [.ref b, .int (nI k)] (HM b m ml r n) (qI fun x9 h1 => ((x9 = 0 ∨ x9 = 1) ∧ (¬ x9 = 0 ↔ RV (m 13) k s k)) ∧ h1 = HM b m ml r n) := by
  refine MA.of (own := RX10) false [some (.ref b), some (.int (nI k)), none, none] (by decide +kernel) rfl (fun h => by cases h) (Nat.le_of_ble_eq_true rfl) rfl (fun X => ?_)
  have loop : ∀ (q i : Nat), i + q = k → RV (m 13) k s i → WA X G RX10 cX10_isRing false (some .boolean) (qI fun x9 h1 => ((x9 = 0 ∨ x9 = 1) ∧ (¬ x9 = 0 ↔ RV (m 13) k s k)) ∧ h1 = HM b m ml r n) 1 0 0 (HM b m ml r n) 0 0 4 [some (.ref b), some (.int (nI k)), some (.int (nI (bS s i))), some (.int (nI i))] [] := by
    intro q
    induction q with
    | zero =>
      intro i hq hV
      have e9 : i = k := by omega
      subst e9
      refine A_iload_n dX10_isRing_4 rfl rfl ?_
      refine A_iload_n dX10_isRing_5 rfl rfl ?_
      refine A_icmp_ge 80 dX10_isRing_6 (by decide) (fun c6 => ?_) (fun c6 => ?_)
      · refine A_iconst (v := 1) dX10_isRing_80 (by decide) ?_
        exact A_zret dX10_isRing_81 rfl ⟨⟨Or.inr rfl, ⟨fun _ => hV, fun _ => by decide⟩⟩, rfl⟩ ⟨by decide, by decide⟩
      · exact absurd (nI_le (Nat.le_refl _) (by omega)) c6
    | succ q ih =>
      intro i hq hV
      have hi : i < k := by omega
      have hn : (i + 1) % k < k := Nat.mod_lt _ (by omega)
      obtain ⟨hb1, hb2⟩ := bS_b (s := s) i (fun j hj => hs j (by omega))
      have s0 := hs 0 (by omega)
      have si := hs i hi
      have sn := hs _ hn
      refine A_iload_n dX10_isRing_4 rfl rfl ?_
      refine A_iload_n dX10_isRing_5 rfl rfl ?_
      refine A_icmp_ge 80 dX10_isRing_6 (by decide) (fun c6 => ?_) (fun c6 => ?_)
      · exact absurd c6 (nI_ge hi (by omega))
      · refine A_aload_n dX10_isRing_9 rfl rfl ?_
        refine A_get dX10_isRing_10 f_X10_61 HM_at0 rfl ?_
        refine A_iload_n dX10_isRing_13 rfl rfl ?_
        refine A_ialdN dX10_isRing_14 (HM_at (by decide)) (by omega) (by decide) ?_
        refine A_eqI (hrow i hi) ?_
        refine A_aload_n dX10_isRing_15 rfl rfl ?_
        refine A_get dX10_isRing_16 f_X10_61 HM_at0 rfl ?_
        refine A_iconst (v := 0) dX10_isRing_19 (by decide) ?_
        refine A_ialdK (i := 0) dX10_isRing_20 (HM_at (by decide)) rfl (by omega) (by decide) ?_
        refine A_eqI (hrow 0 (by omega)) ?_
        refine A_icmp_lt 61 dX10_isRing_21 (by decide) (fun c21 => ?_) (fun c21 => ?_)
        · refine A_iconst (v := 0) dX10_isRing_61 (by decide) ?_
          exact A_zret dX10_isRing_62 rfl ⟨⟨Or.inl rfl, ⟨fun z => absurd rfl z, fun z => absurd (z i hi).1 (fun w => nI_ge (show s i < s 0 by rcases Nat.lt_or_ge (s i) (s 0) with w | w; exact w; exact absurd (nI_le w (by omega)) (Int32.not_le.mpr c21)) (by omega) (nI_le w (by omega)))⟩⟩, rfl⟩ ⟨by decide, by decide⟩
        · refine A_iload_n dX10_isRing_24 rfl rfl ?_
          refine A_aload_n dX10_isRing_25 rfl rfl ?_
          refine A_get dX10_isRing_26 f_X10_61 HM_at0 rfl ?_
          refine A_iload_n dX10_isRing_29 rfl rfl ?_
          refine A_ialdN dX10_isRing_30 (HM_at (by decide)) (by omega) (by decide) ?_
          refine A_eqI (hrow i hi) ?_
          refine A_ishr dX10_isRing_31 ?_
          refine A_iconst (v := 1) dX10_isRing_32 (by decide) ?_
          refine A_iand dX10_isRing_33 ?_
          refine A_eqI (sh6 _ hb1 (s i) si) ?_
          refine A_iconst (v := 1) dX10_isRing_34 (by decide) ?_
          refine A_icmp_eq 61 dX10_isRing_35 (by decide) (fun c35 => ?_) (fun c35 => ?_)
          · have q35 : (bS s i).testBit (s i) = true := by by_cases z : (bS s i).testBit (s i) = true; exact z; rw [if_neg z] at c35; exact absurd c35 (by decide)
            refine A_iconst (v := 0) dX10_isRing_61 (by decide) ?_
            exact A_zret dX10_isRing_62 rfl ⟨⟨Or.inl rfl, ⟨fun z => absurd rfl z, fun z => by obtain ⟨j, hj, e⟩ := (hb2 _ si).mp q35; exact absurd e ((z i hi).2.1 j hj)⟩⟩, rfl⟩ ⟨by decide, by decide⟩
          · have q35 : ¬ (bS s i).testBit (s i) = true := fun z => by rw [if_pos z] at c35; exact c35 rfl
            refine A_aload_n dX10_isRing_38 rfl rfl ?_
            refine A_aload_n dX10_isRing_39 rfl rfl ?_
            refine A_get dX10_isRing_40 f_X10_61 HM_at0 rfl ?_
            refine A_iload_n dX10_isRing_43 rfl rfl ?_
            refine A_ialdN dX10_isRing_44 (HM_at (by decide)) (by omega) (by decide) ?_
            refine A_eqI (hrow i hi) ?_
            refine A_aload_n dX10_isRing_45 rfl rfl ?_
            refine A_get dX10_isRing_46 f_X10_61 HM_at0 rfl ?_
            refine A_iload_n dX10_isRing_49 rfl rfl ?_
            refine A_iconst (v := 1) dX10_isRing_50 (by decide) ?_
            refine A_iadd dX10_isRing_51 ?_
            refine A_iload_n dX10_isRing_52 rfl rfl ?_
            refine A_irem dX10_isRing_53 (nI_ne0 (by omega) (by omega)) ?_
            refine A_eqI (y := nI ((i + 1) % k)) (by rw [show nI i + 1 = nI (i + 1) from nI_1 i]; exact pk_rem (by omega) (by omega) (by omega)) ?_
            refine A_ialdN dX10_isRing_54 (HM_at (by decide)) (by omega) (by decide) ?_
            refine A_eqI (hrow _ hn) ?_
            refine A_callVi dX10_isRing_55 m_X10_400 cb_X10_debt (As := [_, _]) rfl HM_at0 rfl (k_debt G si sn) rfl ⟨by decide, by decide⟩ (Nat.le_of_ble_eq_true rfl) ⟨by decide, by decide⟩ (fun x55 h55 hq => ?_)
            obtain ⟨rfl, rfl⟩ := hq
            refine A_if_ne 63 dX10_isRing_58 (by decide) (fun c58 => ?_) (fun c58 => ?_)
            · refine A_iload_n dX10_isRing_63 rfl rfl ?_
              refine A_iconst (v := 1) dX10_isRing_64 (by decide) ?_
              refine A_aload_n dX10_isRing_65 rfl rfl ?_
              refine A_get dX10_isRing_66 f_X10_61 HM_at0 rfl ?_
              refine A_iload_n dX10_isRing_69 rfl rfl ?_
              refine A_ialdN dX10_isRing_70 (HM_at (by decide)) (by omega) (by decide) ?_
              refine A_eqI (hrow i hi) ?_
              refine A_ishl dX10_isRing_71 ?_
              refine A_ior dX10_isRing_72 ?_
              refine A_eqI (y := nI (bS s (i + 1))) (or6 _ hb1 (s i) si).1 ?_
              refine A_istore_n (lv1 := [_, _, _, _]) dX10_isRing_73 rfl (Nat.le_of_ble_eq_true rfl) rfl rfl ?_
              refine A_inc 1 (lv1 := [_, _, _, _]) dX10_isRing_74 rfl (by decide) rfl rfl ?_
              refine A_goto 4 dX10_isRing_77 (by decide) ?_
              rw [nI_1]
              exact ih (i + 1) (by omega) (fun a ha => by
                by_cases e : a = i
                · subst e
                  exact ⟨by rcases Nat.lt_or_ge (s a) (s 0) with w | w; exact absurd (nI_lt w (by omega)) c21; exact w, fun j hj z => q35 ((hb2 _ si).mpr ⟨j, hj, z⟩), c58⟩
                · exact hV a (by omega))
            · refine A_iconst (v := 0) dX10_isRing_61 (by decide) ?_
              exact A_zret dX10_isRing_62 rfl ⟨⟨Or.inl rfl, ⟨fun z => absurd rfl z, fun z => absurd c58 (z i hi).2.2⟩⟩, rfl⟩ ⟨by decide, by decide⟩
  refine A_iconst (v := 0) dX10_isRing_0 (by decide) ?_
  refine A_istore_n (lv1 := [_, _, _, _]) dX10_isRing_1 rfl (Nat.le_of_ble_eq_true rfl) rfl rfl ?_
  refine A_iconst (v := 0) dX10_isRing_2 (by decide) ?_
  refine A_istore_n (lv1 := [_, _, _, _]) dX10_isRing_3 rfl (Nat.le_of_ble_eq_true rfl) rfl rfl ?_
  exact loop k 0 (by omega) (fun a ha => absurd ha (by omega))

def dgt (nv n c : Nat) : Nat → Nat := fun i => c / nv ^ (n - 1 - i) % nv
theorem pow6 {nv k : Nat} (hv : nv ≤ 6) (hk : k ≤ 6) : nv ^ k ≤ 46656 := by
  have h1 : nv ^ k ≤ 6 ^ k := Nat.pow_le_pow_left hv k
  have h2 : 6 ^ k ≤ 6 ^ 6 := Nat.pow_le_pow_right (by decide) hk
  have h3 : 6 ^ 6 = 46656 := by decide
  omega
theorem dgt_code {nv k : Nat} (hv : 0 < nv) {u : Nat → Nat} (hu : ∀ i, i < k → u i < nv) : cdF (nv - 1) u k < nv ^ k ∧ ∀ i, i < k → dgt nv k (cdF (nv - 1) u k) i = u i := by
  have e : nv - 1 + 1 = nv := by omega
  have h1 := cdF_lt (nv := nv - 1) (g := u) k (fun i hi => by have := hu i hi; omega)
  have h2 := tkc_cd (nv := nv - 1) (g := u) k (fun i hi => by have := hu i hi; omega)
  rw [e] at h1 h2
  exact ⟨h1, h2⟩
theorem code_dgt {nv k c : Nat} (hv : 0 < nv) (hc : c < nv ^ k) : cdF (nv - 1) (dgt nv k c) k = c := by
  have h := cdF_dig (nv := nv - 1) k c
  rw [show nv - 1 + 1 = nv by omega] at h
  rw [show dgt nv k c = (fun i => c / nv ^ (k - 1 - i) % nv) from rfl, h]
  exact Nat.mod_eq_of_lt hc
theorem fr_dig (G : GX) (X : XC) {b : Nat} {m : CT} {ml : Nat → Nat → Int64} {r : Nat → Option AE} {n nv nc nf nl wk k : Nat} {c9 : Nat} {Qp : Option Value → AH → Prop} {u1 u2 : Nat} (hu : u1 = 0 ∧ u2 = 0) (hI : IM m nv nc nf nl wk) (hk6 : k ≤ 6) (hnv : 0 < nv) (hc9 : c9 < nv ^ k) (nxt : ∀ (g : Nat → Int32) (v x : Int32), (∀ i, i < k → g i = nI (dgt nv k c9 i)) → WA X G RX10 cX10_findsRing false (some .boolean) Qp 2 0 0 (HM b (st1 m 15 g) ml r n) u1 u2 71 [some (.ref b), some (.int (nI k)), some (.int (nI (nv ^ k))), some (.int (nI c9)), some (.int v), some (.int x)] []) : ∀ (q : Nat) (g : Nat → Int32) (x : Int32), q ≤ k → x = nI q + (-1) → (∀ i, q ≤ i → i < k → g i = nI (dgt nv k c9 i)) → WA X G RX10 cX10_findsRing false (some .boolean) Qp 2 0 0 (HM b (st1 m 15 g) ml r n) u1 u2 37 [some (.ref b), some (.int (nI k)), some (.int (nI (nv ^ k))), some (.int (nI c9)), some (.int (nI (c9 / nv ^ (k - q)))), some (.int x)] [] := by
  obtain ⟨rfl, rfl⟩ := hu
  obtain ⟨hv, hv6, hc, hc8, hf, hf3, hl, hl8, hw, hw30, gC, gL⟩ := id hI
  have hp6 := pow6 hv6 hk6
  intro q
  induction q with
  | zero =>
    intro g x hq hx hg
    subst hx
    refine A_iload dX10_findsRing_37 rfl ?_
    refine A_if_lt 71 dX10_findsRing_39 (by decide) (fun c39 => ?_) (fun c39 => ?_)
    · exact nxt g _ _ (fun i hi => hg i (by omega) hi)
    · exact absurd (by decide) c39
  | succ q ih =>
    intro g x hq hx hg
    rw [pk_m1] at hx
    subst hx
    have hdl : c9 / nv ^ (k - (q + 1)) ≤ c9 := Nat.div_le_self _ _
    have e1 : ∀ g : Nat → Int32, (st1 m 15 g) 1 0 = nI nv := fun g => by rw [st1_ne (by decide)]; exact hv
    refine A_iload dX10_findsRing_37 rfl ?_
    refine A_if_lt 71 dX10_findsRing_39 (by decide) (fun c39 => ?_) (fun c39 => ?_)
    · exact absurd c39 (nI_pos (by omega))
    · refine A_aload_n dX10_findsRing_42 rfl rfl ?_
      refine A_get dX10_findsRing_43 f_X10_61 HM_at0 rfl ?_
      refine A_iload dX10_findsRing_46 rfl ?_
      refine A_iload dX10_findsRing_48 rfl ?_
      refine A_aload_n dX10_findsRing_50 rfl rfl ?_
      refine A_callVi dX10_findsRing_51 m_X10_89 cb_X10_villages (As := []) rfl HM_at0 rfl (k_villages G) rfl ⟨by decide, by decide⟩ (Nat.le_of_ble_eq_true rfl) ⟨by decide, by decide⟩ (fun x51 h51 hq => ?_)
      obtain ⟨rfl, rfl⟩ := hq
      rw [e1]
      refine A_irem dX10_findsRing_54 (nI_ne0 (by omega) (by omega)) ?_
      refine A_eqI (y := nI (dgt nv k c9 q)) ((pk_rem (by omega) (by omega) (by omega)).trans (by rw [dgt, show k - 1 - q = k - (q + 1) by omega])) ?_
      refine A_iastMK (i := q) dX10_findsRing_55 (by decide) (fun _ => rfl) rfl (by omega) (by decide) ?_
      refine A_iload dX10_findsRing_56 rfl ?_
      refine A_aload_n dX10_findsRing_58 rfl rfl ?_
      refine A_callVi dX10_findsRing_59 m_X10_89 cb_X10_villages (As := []) rfl HM_at0 rfl (k_villages G) rfl ⟨by decide, by decide⟩ (Nat.le_of_ble_eq_true rfl) ⟨by decide, by decide⟩ (fun x59 h59 hq => ?_)
      obtain ⟨rfl, rfl⟩ := hq
      rw [st1M, e1]
      refine A_idiv dX10_findsRing_62 (nI_ne0 (by omega) (by omega)) ?_
      refine A_eqI (y := nI (c9 / nv ^ (k - q))) ((pk_div (by omega) (by omega) (by omega)).trans (by rw [Nat.div_div_eq_div_mul, ← Nat.pow_succ, show (k - (q + 1)).succ = k - q by omega])) ?_
      refine A_istore (lv1 := [_, _, _, _, _, _]) dX10_findsRing_63 (Nat.le_of_ble_eq_true rfl) rfl rfl ?_
      refine A_inc (-1) (lv1 := [_, _, _, _, _, _]) dX10_findsRing_65 rfl (by decide) rfl rfl ?_
      refine A_goto 37 dX10_findsRing_68 (by decide) ?_
      exact ih _ _ (by omega) rfl (fun i hi1 hi2 => by by_cases e : i = q; (subst e; rw [pk_us]); (rw [pk_un e]; exact hg i (by omega) hi2))

theorem WA_lv {X : XC} {G : GX} {own : String} {cc : ByteArray} {ini : Bool} {ret : Option FieldType} {Qp : Option Value → AH → Prop} {d mc ms : Nat} {h : AH} {uc us pc : Nat} {lv lv1 : List (Option Value)} {st : List Value} (e : lv1 = lv) (k : WA X G own cc ini ret Qp d mc ms h uc us pc lv1 st) : WA X G own cc ini ret Qp d mc ms h uc us pc lv st := e ▸ k
theorem fr_codes (G : GX) (X : XC) {b : Nat} {m : CT} {ml : Nat → Nat → Int64} {r : Nat → Option AE} {n nv nc nf nl wk k : Nat} {u1 u2 : Nat} (hu : u1 = 0 ∧ u2 = 0) (hI : IM m nv nc nf nl wk) (hD : DOk (m 13)) (hk : 2 ≤ k) (hkv : k ≤ nv) : ∀ (q c9 : Nat) (g : Nat → Int32), c9 + q = nv ^ k → (∀ c0, c0 < c9 → ¬ VR (m 13) nv k (dgt nv k c0)) → WA X G RX10 cX10_findsRing false (some .boolean) (qI fun x9 h1 => ∃ g, h1 = HM b (st1 m 15 g) ml r n ∧ ((x9 = 1 ∧ isN g k ∧ VR (m 13) nv k (tg g) ∧ ∀ u, VR (m 13) nv k u → cdF (nv - 1) (tg g) k ≤ cdF (nv - 1) u k) ∨ (x9 = 0 ∧ ∀ u, ¬ VR (m 13) nv k u))) 2 0 0 (HM b (st1 m 15 g) ml r n) u1 u2 24 [some (.ref b), some (.int (nI k)), some (.int (nI (nv ^ k))), some (.int (nI c9)), none, none] [] := by
  obtain ⟨rfl, rfl⟩ := hu
  obtain ⟨hv, hv6, hc, hc8, hf, hf3, hl, hl8, hw, hw30, gC, gL⟩ := id hI
  have hk6 : k ≤ 6 := by omega
  have hp6 := pow6 hv6 hk6
  intro q
  induction q with
  | zero =>
    intro c9 g hq hno
    refine A_iload_n dX10_findsRing_24 rfl rfl ?_
    refine A_iload_n dX10_findsRing_25 rfl rfl ?_
    refine A_icmp_ge 87 dX10_findsRing_26 (by decide) (fun c26 => ?_) (fun c26 => ?_)
    · refine A_iconst (v := 0) dX10_findsRing_87 (by decide) ?_
      exact A_zret dX10_findsRing_88 rfl ⟨g, rfl, Or.inr ⟨rfl, fun u hu => by obtain ⟨h1, h2⟩ := dgt_code (nv := nv) (by omega) hu.1; exact hno _ (by omega) (VR_cong (by omega) hu h2)⟩⟩ ⟨by decide, by decide⟩
    · exact absurd (nI_le (by omega) (by omega)) c26
  | succ q ih =>
    intro c9 g hq hno
    have hc9 : c9 < nv ^ k := by omega
    refine A_iload_n dX10_findsRing_24 rfl rfl ?_
    refine A_iload_n dX10_findsRing_25 rfl rfl ?_
    refine A_icmp_ge 87 dX10_findsRing_26 (by decide) (fun c26 => ?_) (fun c26 => ?_)
    · exact absurd c26 (nI_ge (by omega) (by omega))
    · refine A_iload_n dX10_findsRing_29 rfl rfl ?_
      refine A_istore (lv1 := [_, _, _, _, _, _]) dX10_findsRing_30 (Nat.le_of_ble_eq_true rfl) rfl rfl ?_
      refine A_iload_n dX10_findsRing_32 rfl rfl ?_
      refine A_iconst (v := 1) dX10_findsRing_33 (by decide) ?_
      refine A_isub dX10_findsRing_34 ?_
      refine A_istore (lv1 := [_, _, _, _, _, _]) dX10_findsRing_35 (Nat.le_of_ble_eq_true rfl) rfl rfl ?_
      refine WA_lv (lv1 := [some (.ref b), some (.int (nI k)), some (.int (nI (nv ^ k))), some (.int (nI c9)), some (.int (nI (c9 / nv ^ (k - k)))), some (.int (nI k - 1))]) (by rw [Nat.sub_self, Nat.pow_zero, Nat.div_one]) ?_
      refine fr_dig G X ⟨rfl, rfl⟩ hI hk6 (by omega) hc9 (fun g2 v x hg2 => ?_) k g _ (Nat.le_refl _) (Int32.sub_eq_add_neg (nI k) 1) (fun i h1 h2 => absurd h2 (by omega))
      refine A_aload_n dX10_findsRing_71 rfl rfl ?_
      refine A_iload_n dX10_findsRing_72 rfl rfl ?_
      refine A_callVi dX10_findsRing_73 m_X10_403 cb_X10_isRing (As := [_]) rfl HM_at0 rfl (k_isRing G (s := dgt nv k c9) hk hk6 (fun i hi => by have : dgt nv k c9 i < nv := Nat.mod_lt _ (by omega); omega) (fun i hi => by rw [st1_eq]; exact hg2 i hi)) rfl ⟨by decide, by decide⟩ (Nat.le_of_ble_eq_true rfl) ⟨by decide, by decide⟩ (fun x73 h73 hq2 => ?_)
      obtain ⟨⟨h01, hiff⟩, rfl⟩ := hq2
      rw [st1_ne (show (13 : Nat) ≠ 15 by decide)] at hiff
      have hRV : RV (m 13) k (dgt nv k c9) k ↔ VR (m 13) nv k (dgt nv k c9) := RV_VR hD hk (fun i hi => (Nat.mod_lt _ (by omega) : dgt nv k c9 i < nv))
      refine A_if_eq 81 dX10_findsRing_76 (by decide) (fun c76 => ?_) (fun c76 => ?_)
      · refine A_inc 1 (lv1 := [_, _, _, _, _, _]) dX10_findsRing_81 rfl (by decide) rfl rfl ?_
        refine A_goto 24 dX10_findsRing_84 (by decide) ?_
        refine A_fg 4 (lv1 := [_, _, _, _, _, _]) rfl ?_
        refine A_fg 5 (lv1 := [_, _, _, _, _, _]) rfl ?_
        rw [nI_1]
        exact ih (c9 + 1) g2 (by omega) (fun c0 hc0 => by by_cases e : c0 = c9; (subst e; exact fun z => absurd c76 (hiff.mpr (hRV.mpr z))); (exact hno c0 (by omega)))
      · refine A_iconst (v := 1) dX10_findsRing_79 (by decide) ?_
        exact A_zret dX10_findsRing_80 rfl ⟨g2, rfl, Or.inl ⟨rfl, fun i hi => by rw [hg2 i hi, tcl_nI (by have : dgt nv k c9 i < nv := Nat.mod_lt _ (by omega); omega)], VR_cong (by omega) (hRV.mp (hiff.mp c76)) (fun i hi => by unfold tg; rw [hg2 i hi, tcl_nI (by have : dgt nv k c9 i < nv := Nat.mod_lt _ (by omega); omega)]), fun u hu => by
            have ec : cdF (nv - 1) (tg g2) k = c9 := (cdF_cong k (fun i hi => by unfold tg; rw [hg2 i hi, tcl_nI (by have : dgt nv k c9 i < nv := Nat.mod_lt _ (by omega); omega)])).trans (code_dgt (show 0 < nv by omega) hc9)
            obtain ⟨h1, h2⟩ := dgt_code (nv := nv) (by omega) hu.1
            rw [ec]
            rcases Nat.lt_or_ge (cdF (nv - 1) u k) c9 with w | w
            · exact absurd (VR_cong (by omega) hu h2) (hno _ w)
            · exact w⟩⟩ ⟨by decide, by decide⟩

theorem k_findsRing (G : GX) {b : Nat} {m : CT} {ml : Nat → Nat → Int64} {r : Nat → Option AE} {n nv nc nf nl wk k : Nat} (hI : IM m nv nc nf nl wk) (hD : DOk (m 13)) (hk : 2 ≤ k) (hkv : k ≤ nv) : MA G 2 yX10_findsRing cX10_findsRing 6 (some .boolean) 0 0 [.ref b, .int (nI k)] (HM b m ml r n) (qI fun x9 h1 => ∃ g, h1 = HM b (st1 m 15 g) ml r n ∧ ((x9 = 1 ∧ isN g k ∧ VR (m 13) nv k (tg g) ∧ ∀ u, VR (m 13) nv k u → cdF (nv - 1) (tg g) k ≤ cdF (nv - 1) u k) ∨ (x9 = 0 ∧ ∀ u, ¬ VR (m 13) nv k u))) := by
  refine MA.of (own := RX10) false [some (.ref b), some (.int (nI k)), none, none, none, none] (by decide +kernel) rfl (fun h => by cases h) (Nat.le_of_ble_eq_true rfl) rfl (fun X => ?_)
  obtain ⟨hv, hv6, hc, hc8, hf, hf3, hl, hl8, hw, hw30, gC, gL⟩ := id hI
  have loop : ∀ (q i : Nat) , i + q = k → WA X G RX10 cX10_findsRing false (some .boolean) (qI fun x9 h1 => ∃ g, h1 = HM b (st1 m 15 g) ml r n ∧ ((x9 = 1 ∧ isN g k ∧ VR (m 13) nv k (tg g) ∧ ∀ u, VR (m 13) nv k u → cdF (nv - 1) (tg g) k ≤ cdF (nv - 1) u k) ∨ (x9 = 0 ∧ ∀ u, ¬ VR (m 13) nv k u))) 2 0 0 (HM b m ml r n) 0 0 4 [some (.ref b), some (.int (nI k)), some (.int (nI (nv ^ i))), some (.int (nI i)), none, none] [] := by
    intro q
    induction q with
    | zero =>
      intro i  hq_ 
      refine A_iload_n dX10_findsRing_4 rfl rfl ?_
      refine A_iload_n dX10_findsRing_5 rfl rfl ?_
      refine A_icmp_ge 22 dX10_findsRing_6 (by decide) (fun c6 => ?_) (fun c6 => ?_)
      · refine A_iconst (v := 0) dX10_findsRing_22 (by decide) ?_
        refine A_istore_n (lv1 := [_, _, _, _, _, _]) dX10_findsRing_23 rfl (Nat.le_of_ble_eq_true rfl) rfl rfl ?_
        rw [show HM b m ml r n = HM b (st1 m 15 (m 15)) ml r n by rw [st1_self]]
        rw [show i = k by omega]
        exact fr_codes G X ⟨rfl, rfl⟩ hI hD hk hkv (nv ^ k) 0 (m 15) (by omega) (fun c0 h0 => absurd h0 (by omega))
      · exact absurd (nI_le (show k ≤ i by omega) (by omega)) c6
    | succ q ih =>
      intro i  hq_ 
      have hi : i < k := by omega
      refine A_iload_n dX10_findsRing_4 rfl rfl ?_
      refine A_iload_n dX10_findsRing_5 rfl rfl ?_
      refine A_icmp_ge 22 dX10_findsRing_6 (by decide) (fun c6 => ?_) (fun c6 => ?_)
      · exact absurd c6 (nI_ge (by omega) (by omega))
      · refine A_iload_n dX10_findsRing_9 rfl rfl ?_
        refine A_aload_n dX10_findsRing_10 rfl rfl ?_
        refine A_callVi dX10_findsRing_11 m_X10_89 cb_X10_villages (As := []) rfl HM_at0 rfl (k_villages G) rfl ⟨by decide, by decide⟩ (Nat.le_of_ble_eq_true rfl) ⟨by decide, by decide⟩ (fun x11 h11 hq => ?_)
        obtain ⟨rfl, rfl⟩ := hq
        rw [hv]
        refine A_imul dX10_findsRing_14 ?_
        refine A_eqI (y := nI (nv ^ (i + 1))) (by rw [pk_mul, ← Nat.pow_succ]) ?_
        refine A_istore_n (lv1 := [_, _, _, _, _, _]) dX10_findsRing_15 rfl (Nat.le_of_ble_eq_true rfl) rfl rfl ?_
        refine A_inc 1 (lv1 := [_, _, _, _, _, _]) dX10_findsRing_16 rfl (by decide) rfl rfl ?_
        refine A_goto 4 dX10_findsRing_19 (by decide) ?_
        rw [nI_1]
        exact ih (i + 1) (by omega)
  refine A_iconst (v := 1) dX10_findsRing_0 (by decide) ?_
  refine A_istore_n (lv1 := [_, _, _, _, _, _]) dX10_findsRing_1 rfl (Nat.le_of_ble_eq_true rfl) rfl rfl ?_
  refine A_iconst (v := 0) dX10_findsRing_2 (by decide) ?_
  refine A_istore_n (lv1 := [_, _, _, _, _, _]) dX10_findsRing_3 rfl (Nat.le_of_ble_eq_true rfl) rfl rfl ?_
  exact loop k 0 (by omega)

theorem k_ringSize (G : GX) {b : Nat} {m : CT} {ml : Nat → Nat → Int64} {r : Nat → Option AE} {n nv nc nf nl wk : Nat} (hI : IM m nv nc nf nl wk) (hD : DOk (m 13)) : MA G 3 yX10_ringSize cX10_ringSize 2 (some .int) 0 0 [.ref b] (HM b m ml r n) (qI fun x9 h1 => ∃ g, h1 = HM b (st1 m 15 g) ml r n ∧ ((x9 = -1 ∧ ∀ k, 2 ≤ k → k ≤ nv → ∀ u, ¬ VR (m 13) nv k u) ∨ ∃ k, x9 = nI k ∧ 2 ≤ k ∧ k ≤ nv ∧ (∀ j, 2 ≤ j → j < k → ∀ u, ¬ VR (m 13) nv j u) ∧ isN g k ∧ VR (m 13) nv k (tg g) ∧ ∀ u, VR (m 13) nv k u → cdF (nv - 1) (tg g) k ≤ cdF (nv - 1) u k)) := by
  refine MA.of (own := RX10) false [some (.ref b), none] (by decide +kernel) rfl (fun h => by cases h) (Nat.le_of_ble_eq_true rfl) rfl (fun X => ?_)
  obtain ⟨hv, hv6, hc, hc8, hf, hf3, hl, hl8, hw, hw30, gC, gL⟩ := id hI
  have loop : ∀ (q k : Nat) (g : Nat → Int32), k + q = nv + 1 ∨ (q = 0 ∧ nv < k ∧ k ≤ 8) → 2 ≤ k → (∀ j, 2 ≤ j → j < k → ∀ u, ¬ VR (m 13) nv j u) → WA X G RX10 cX10_ringSize false (some .int) (qI fun x9 h1 => ∃ g, h1 = HM b (st1 m 15 g) ml r n ∧ ((x9 = -1 ∧ ∀ k, 2 ≤ k → k ≤ nv → ∀ u, ¬ VR (m 13) nv k u) ∨ ∃ k, x9 = nI k ∧ 2 ≤ k ∧ k ≤ nv ∧ (∀ j, 2 ≤ j → j < k → ∀ u, ¬ VR (m 13) nv j u) ∧ isN g k ∧ VR (m 13) nv k (tg g) ∧ ∀ u, VR (m 13) nv k u → cdF (nv - 1) (tg g) k ≤ cdF (nv - 1) u k)) 3 0 0 (HM b (st1 m 15 g) ml r n) 0 0 2 [some (.ref b), some (.int (nI k))] [] := by
    intro q
    induction q with
    | zero =>
      intro k g hq hk hno
      have e1 : (st1 m 15 g) 1 0 = nI nv := by rw [st1_ne (by decide)]; exact hv
      have e13 : ∀ g : Nat → Int32, (st1 m 15 g) 13 = m 13 := fun g => st1_ne (by decide)
      refine A_iload_n dX10_ringSize_2 rfl rfl ?_
      refine A_aload_n dX10_ringSize_3 rfl rfl ?_
      refine A_callVi dX10_ringSize_4 m_X10_89 cb_X10_villages (As := []) rfl HM_at0 rfl (k_villages G) rfl ⟨by decide, by decide⟩ (Nat.le_of_ble_eq_true rfl) ⟨by decide, by decide⟩ (fun x4 h4 hq => ?_)
      obtain ⟨rfl, rfl⟩ := hq
      rw [e1]
      refine A_icmp_gt 26 dX10_ringSize_7 (by decide) (fun c7 => ?_) (fun c7 => ?_)
      · refine A_iconst (v := (-1)) dX10_ringSize_26 (by decide) ?_
        exact A_iret dX10_ringSize_27 ⟨g, rfl, Or.inl ⟨rfl, fun j h1 h2 => hno j h1 (by omega)⟩⟩ ⟨by decide, by decide⟩
      · exact absurd (nI_lt (a := nv) (b := k) (by omega) (by omega)) c7
    | succ q ih =>
      intro k g hq hk hno
      have e1 : (st1 m 15 g) 1 0 = nI nv := by rw [st1_ne (by decide)]; exact hv
      have e13 : ∀ g : Nat → Int32, (st1 m 15 g) 13 = m 13 := fun g => st1_ne (by decide)
      refine A_iload_n dX10_ringSize_2 rfl rfl ?_
      refine A_aload_n dX10_ringSize_3 rfl rfl ?_
      refine A_callVi dX10_ringSize_4 m_X10_89 cb_X10_villages (As := []) rfl HM_at0 rfl (k_villages G) rfl ⟨by decide, by decide⟩ (Nat.le_of_ble_eq_true rfl) ⟨by decide, by decide⟩ (fun x4 h4 hq => ?_)
      obtain ⟨rfl, rfl⟩ := hq
      rw [e1]
      refine A_icmp_gt 26 dX10_ringSize_7 (by decide) (fun c7 => ?_) (fun c7 => ?_)
      · exact absurd c7 (nI_nlt (by omega) (by omega))
      · refine A_aload_n dX10_ringSize_10 rfl rfl ?_
        refine A_iload_n dX10_ringSize_11 rfl rfl ?_
        refine A_callVi dX10_ringSize_12 m_X10_406 cb_X10_findsRing (As := [_]) rfl HM_at0 rfl (k_findsRing G (hI.to (st1_ne (by decide))) (by rw [e13]; exact hD) hk (by omega)) rfl ⟨by decide, by decide⟩ (Nat.le_of_ble_eq_true rfl) ⟨by decide, by decide⟩ (fun x12 h12 hq9 => ?_)
        obtain ⟨g2, rfl, hres⟩ := hq9
        rw [e13] at hres
        rw [st1_st1]
        refine A_if_eq 20 dX10_ringSize_15 (by decide) (fun c15 => ?_) (fun c15 => ?_)
        · refine A_inc 1 (lv1 := [_, _]) dX10_ringSize_20 rfl (by decide) rfl rfl ?_
          refine A_goto 2 dX10_ringSize_23 (by decide) ?_
          rw [nI_1]
          exact ih (k + 1) g2 (by omega) (by omega) (fun j h1 h2 => by by_cases e : j = k; (subst e; rcases hres with ⟨h3, _⟩ | ⟨_, h3⟩; (rw [h3] at c15; exact absurd c15 (by decide)); exact h3); (exact hno j h1 (by omega)))
        · refine A_iload_n dX10_ringSize_18 rfl rfl ?_
          exact A_iret dX10_ringSize_19 ⟨g2, rfl, Or.inr ⟨k, rfl, hk, by omega, hno, by rcases hres with ⟨_, h2⟩ | ⟨h2, _⟩; exact h2; exact absurd h2 c15⟩⟩ ⟨by decide, by decide⟩
  refine A_iconst (v := 2) dX10_ringSize_0 (by decide) ?_
  refine A_istore_n (lv1 := [_, _]) dX10_ringSize_1 rfl (Nat.le_of_ble_eq_true rfl) rfl rfl ?_
  rw [show HM b m ml r n = HM b (st1 m 15 (m 15)) ml r n by rw [st1_self]]
  exact loop (nv + 1 - 2) 2 (m 15) (by omega) (Nat.le_refl _) (fun j h1 h2 => absurd h2 (by omega))
