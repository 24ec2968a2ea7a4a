/-! RINGS of the class -/
def hasF (g : Nat → Int32) (v : Int32) : Nat → Bool
  | 0 => false
  | k + 1 => hasF g v k || decide (g k = v)
def clN (d : Nat → Int32) (P : (Nat → Int32) → Bool × (Nat → Int32)) (dep la : Nat) : Nat → Nat → (Nat → Int32) → Bool × (Nat → Int32)
  | 0, _, g => (false, g)
  | m + 1, x, g => if 0 < d (la * 6 + x) then if hasF g (nI x) dep = true then clN d P dep la m (x + 1) g else
      if (P (upd g dep (nI x))).1 = true then (true, (P (upd g dep (nI x))).2) else clN d P dep la m (x + 1) (P (upd g dep (nI x))).2
    else clN d P dep la m (x + 1) g
def clS (d : Nat → Int32) (nv len : Nat) : Nat → (Nat → Int32) → Bool × (Nat → Int32)
  | 0, g => (decide (0 < d (tcl (g (len - 1)) * 6 + tcl (g 0))), g)
  | k + 1, g => clN d (clS d nv len k) (len - (k + 1)) (tcl (g (len - (k + 1) - 1))) (nv - (tcl (g 0) + 1)) (tcl (g 0) + 1) g
theorem clN_pre {d : Nat → Int32} {P : (Nat → Int32) → Bool × (Nat → Int32)} {dep la : Nat} (hP : ∀ g i, i < dep → (P g).2 i = g i) : ∀ m x g i, i < dep → (clN d P dep la m x g).2 i = g i := by
  intro m
  induction m with
  | zero => intro x g i _; rfl
  | succ m ih =>
    intro x g i hi
    have hu : (P (upd g dep (nI x))).2 i = g i := by rw [hP _ i hi, pk_un (by omega)]
    rw [clN]
    split
    · split
      · exact ih _ _ _ hi
      · split
        · exact hu
        · rw [ih _ _ _ hi]; exact hu
    · exact ih _ _ _ hi
theorem clS_pre {d : Nat → Int32} {nv len : Nat} : ∀ k g i, i < len - k → (clS d nv len k g).2 i = g i := by
  intro k
  induction k with
  | zero => intro g i _; rfl
  | succ k ih =>
    intro g i hi
    rw [clS]
    exact clN_pre (fun g' j hj => ih g' j (by omega)) _ _ _ i hi
def frL (d : Nat → Int32) (nv len : Nat) : Nat → Nat → (Nat → Int32) → Bool × (Nat → Int32)
  | 0, _, g => (false, g)
  | m + 1, a, g => if (clS d nv len (len - 1) (upd g 0 (nI a))).1 = true then (true, (clS d nv len (len - 1) (upd g 0 (nI a))).2) else frL d nv len m (a + 1) (clS d nv len (len - 1) (upd g 0 (nI a))).2
def frF (d : Nat → Int32) (nv : Nat) : Nat → Nat → (Nat → Int32) → Nat × (Nat → Int32)
  | 0, _, g => (0, g)
  | m + 1, l, g => if (frL d nv l nv 0 g).1 = true then (l, (frL d nv l nv 0 g).2) else frF d nv m (l + 1) (frL d nv l nv 0 g).2
theorem i32_lt {x y : Int32} (h : ¬ y ≤ x) : x < y := Int32.not_le.mp h
theorem i32_le {x y : Int32} (h : ¬ y < x) : x ≤ y := Int32.not_lt.mp h

theorem hasF_up {g : Nat → Int32} {v : Int32} {a : Nat} (h : hasF g v a = true) : ∀ {b : Nat}, a ≤ b → hasF g v b = true
  | 0, hb => by rw [show a = 0 by omega] at h; exact h
  | b + 1, hb => by
    rcases Nat.lt_or_ge a (b + 1) with q | q
    · rw [hasF, hasF_up h (show a ≤ b by omega)]; rfl
    · rw [show b + 1 = a by omega]; exact h
theorem c_holds (G : GX) {b : Nat} {c : CT} {co : Nat → Nat → Option Nat} {r : Nat → Option AE} {n : Nat} {v : Int32} {dp : Nat} (hd6 : dp ≤ 6) : MA G 0 yX0_holds cX0_holds 4 (some .boolean) 0 0 [.ref (b + 53), .int (nI dp), .int v] (HC b c co r n) (qI fun x h1 => x = (if hasF (c 53) v dp then 1 else 0) ∧ h1 = HC b c co r n) := by
  refine MA.of (own := RX0) false [some (.ref (b + 53)), some (.int (nI dp)), some (.int v), none] (by decide +kernel) rfl (fun h => by cases h) (Nat.le_of_ble_eq_true rfl) rfl (fun X => ?_)
  have loop : ∀ (k i : Nat) , i + k = dp → (hasF (c 53) v i = false) → WA X G RX0 cX0_holds false (some .boolean) (qI fun x h1 => x = (if hasF (c 53) v dp then 1 else 0) ∧ h1 = HC b c co r n) 0 0 0 (HC b c co r n) 0 0 2 [some (.ref (b + 53)), some (.int (nI dp)), some (.int v), some (.int (nI i))] [] := by
    intro k
    induction k with
    | zero =>
      intro i  hk hh
      refine A_iload_n dX0_holds_2 rfl rfl ?_
      refine A_iload_n dX0_holds_3 rfl rfl ?_
      refine A_icmp_ge 28 dX0_holds_4 (by decide) (fun c4 => ?_) (fun c4 => ?_)
      · refine A_iconst (v := 0) dX0_holds_28 (by decide) ?_
        exact A_zret dX0_holds_29 rfl ⟨(if_neg (by rw [show i = dp by omega] at hh; rw [hh]; decide)).symm, rfl⟩ ⟨by decide, by decide⟩
      · exact absurd (by exact nI_le (by omega) (by omega)) c4
    | succ k ih =>
      intro i  hk hh
      have hi : i < dp := by omega
      refine A_iload_n dX0_holds_2 rfl rfl ?_
      refine A_iload_n dX0_holds_3 rfl rfl ?_
      refine A_icmp_ge 28 dX0_holds_4 (by decide) (fun c4 => ?_) (fun c4 => ?_)
      · exact absurd c4 (by exact nI_ge (by omega) (by omega))
      · refine A_iload_n dX0_holds_7 rfl rfl ?_
        refine A_aload_n dX0_holds_8 rfl rfl ?_
        refine A_alenI (v := nI _) dX0_holds_9 (HC_at (by decide)) rfl ?_
        refine A_icmp_ge 28 dX0_holds_10 (by decide) (fun c10 => ?_) (fun c10 => ?_)
        · exact absurd c10 (nI_ge (b := 6) (by omega) (by decide))
        · refine A_aload_n dX0_holds_13 rfl rfl ?_
          refine A_iload_n dX0_holds_14 rfl rfl ?_
          refine A_ialdN dX0_holds_15 (HC_at (by decide)) (by omega) (by decide) ?_
          refine A_iload_n dX0_holds_16 rfl rfl ?_
          refine A_icmp_ne 22 dX0_holds_17 (by decide) (fun c17 => ?_) (fun c17 => ?_)
          · refine A_inc 1 (lv1 := [_, _, _, _]) dX0_holds_22 rfl (by decide) rfl rfl ?_
            refine A_goto 2 dX0_holds_25 (by decide) ?_
            rw [nI_1]
            exact ih (i + 1) (by omega) (by rw [hasF, hh]; simpa using c17)
          · refine A_iconst (v := 1) dX0_holds_20 (by decide) ?_
            have hx : hasF (c 53) v dp = true := hasF_up (by rw [hasF, hh]; simpa using c17) (show i + 1 ≤ dp by omega)
            refine A_zret dX0_holds_21 rfl ⟨(if_pos hx).symm, rfl⟩ ⟨by decide, by decide⟩
  refine A_iconst (v := 0) dX0_holds_0 (by decide) ?_
  refine A_istore_n (lv1 := [_, _, _, _]) dX0_holds_1 rfl (Nat.le_of_ble_eq_true rfl) rfl rfl ?_
  exact loop dp 0 (by omega) rfl

theorem st1_self {α : Type} {c : Nat → α} {k : Nat} : st1 c k (c k) = c := by
  funext l
  by_cases h : l = k
  · subst h; rw [st1_eq]
  · rw [st1_ne h]
theorem c_closes (G : GX) {b : Nat} {co : Nat → Nat → Option Nat} {r : Nat → Option AE} {n nv len : Nat} (hv6 : nv ≤ 6) (hlen : len ≤ nv) : ∀ (k D : Nat) (c : CT), k + 2 ≤ D → k < len → (∀ i, i < len - k → vp_in (c 53 i) nv) → MA G D yX0_closes cX0_closes 7 (some .boolean) 0 0 [.ref (b + 49), .ref (b + 53), .int (nI (len - k)), .int (nI len), .int (nI nv)] (HC b c co r n) (qI fun x h1 => x = (if (clS (c 50) nv len k (c 53)).1 then 1 else 0) ∧ h1 = HC b (st1 c 53 (clS (c 50) nv len k (c 53)).2) co r n) := by
  intro k
  induction k with
  | zero =>
    intro D c hD hk hg
    refine MA.of (own := RX0) false [some (.ref (b + 49)), some (.ref (b + 53)), some (.int (nI (len - 0))), some (.int (nI len)), some (.int (nI nv)), none, none] (by decide +kernel) rfl (fun h => by cases h) (Nat.le_of_ble_eq_true rfl) rfl (fun X => ?_)
    have g0 := hg 0 (by omega)
    have gl := hg (len - 0 - 1) (by omega)
    have hp1 := vp_tcl g0
    have hp2 := vp_tcl gl
    refine A_iload_n dX0_closes_0 rfl rfl ?_
    refine A_iconst (v := 1) dX0_closes_1 (by decide) ?_
    refine A_icmp_lt 11 dX0_closes_2 (by decide) (fun c2 => ?_) (fun c2 => ?_)
    · exact absurd c2 (nI_nlt (b := 1) (by omega) (by omega))
    · refine A_iload_n dX0_closes_5 rfl rfl ?_
      refine A_aload_n dX0_closes_6 rfl rfl ?_
      refine A_alenI (v := nI _) dX0_closes_7 (HC_at (by decide)) rfl ?_
      refine A_icmp_le 13 dX0_closes_8 (by decide) (fun c8 => ?_) (fun c8 => ?_)
      · refine A_aload_n dX0_closes_13 rfl rfl ?_
        refine A_iload_n dX0_closes_14 rfl rfl ?_
        refine A_iconst (v := 1) dX0_closes_15 (by decide) ?_
        refine A_isub dX0_closes_16 ?_
        rw [nI_sub1 (by omega)]
        refine A_ialdN dX0_closes_17 (HC_at (by decide)) (by omega) (by decide) ?_
        refine A_istore (lv1 := [_, _, _, _, _, _, _]) dX0_closes_18 (Nat.le_of_ble_eq_true rfl) rfl rfl ?_
        refine A_iload_n dX0_closes_20 rfl rfl ?_
        refine A_iload_n dX0_closes_21 rfl rfl ?_
        refine A_icmp_lt 43 dX0_closes_22 (by decide) (fun c22 => ?_) (fun c22 => ?_)
        · exact absurd c22 (nI_nlt (by omega) (by omega))
        · refine A_aload_n dX0_closes_25 rfl rfl ?_
          refine A_iload dX0_closes_26 rfl ?_
          refine A_aload_n dX0_closes_28 rfl rfl ?_
          refine A_iconst (v := 0) dX0_closes_29 (by decide) ?_
          refine A_iald dX0_closes_30 (HC_at (by decide)) (vp_in_nI (n := 0) (by decide) (by decide)) ?_
          rw [show (0 : Int32).toNatClampNeg = 0 from rfl]
          refine A_callVi dX0_closes_31 m_X0_100 cb_X11_at (As := [_, _]) rfl (HC_at (by decide)) rfl (c_pAt50v G (hg _ (by omega)) g0 hv6) rfl ⟨by omega, by decide⟩ (Nat.le_of_ble_eq_true rfl) ⟨by decide, by decide⟩ (fun x31 h31 hq => ?_)
          obtain ⟨rfl, rfl⟩ := hq
          refine A_if_le 41 dX0_closes_34 (by decide) (fun c34 => ?_) (fun c34 => ?_)
          · have c34 : ¬ _ := Int32.not_lt.mpr c34
            refine A_iconst (v := 0) dX0_closes_41 (by decide) ?_
            exact A_zret dX0_closes_42 rfl ⟨(if_neg (fun z => c34 (of_decide_eq_true z))).symm, congrArg (fun z => HC b z co r n) (st1_self (c := c) (k := 53)).symm⟩ ⟨by decide, by decide⟩
          · have c34z := i32_lt c34
            refine A_iconst (v := 1) dX0_closes_37 (by decide) ?_
            refine A_goto 42 dX0_closes_38 (by decide) ?_
            exact A_zret dX0_closes_42 rfl ⟨(if_pos (decide_eq_true c34z)).symm, congrArg (fun z => HC b z co r n) (st1_self (c := c) (k := 53)).symm⟩ ⟨by decide, by decide⟩
      · exact absurd (nI_le (b := 6) (by omega) (by decide)) c8
  | succ k ih =>
    intro D c hD hk hg
    refine MA.of (own := RX0) false [some (.ref (b + 49)), some (.ref (b + 53)), some (.int (nI (len - (k + 1)))), some (.int (nI len)), some (.int (nI nv)), none, none] (by decide +kernel) rfl (fun h => by cases h) (Nat.le_of_ble_eq_true rfl) rfl (fun X => ?_)
    have g0 := hg 0 (by omega)
    have gl := hg (len - (k + 1) - 1) (by omega)
    have hp1 := vp_tcl g0
    have hp2 := vp_tcl gl
    obtain ⟨T, hTe⟩ : ∃ T, T = clS (c 50) nv len (k + 1) (c 53) := ⟨_, rfl⟩
    rw [← hTe]
    rw [clS] at hTe
    obtain ⟨dp, hdp⟩ : ∃ dp, dp = len - (k + 1) := ⟨_, rfl⟩
    rw [← hdp] at hTe hg gl hp2 ⊢
    have hdl : len - k = dp + 1 := by omega
    rw [hdl] at ih
    obtain ⟨z0, hz0, ez0⟩ := vp_in_of g0 (by omega)
    obtain ⟨zl, hzl, ezl⟩ := vp_in_of gl (by omega)
    have et0 : tcl (c 53 0) = z0 := by rw [ez0, tcl, nI_clamp (by omega)]
    have etl : tcl (c 53 (dp - 1)) = zl := by rw [ezl, tcl, nI_clamp (by omega)]
    rw [et0, etl] at hTe
    have loop : ∀ (m x : Nat) (g : Nat → Int32), x + m = nv → (∀ i, i < dp → g i = c 53 i) → clN (c 50) (clS (c 50) nv len k) dp zl m x g = T → WA X G RX0 cX0_closes false (some .boolean) (qI fun x h1 => x = (if T.1 then 1 else 0) ∧ h1 = HC b (st1 c 53 T.2) co r n) D 0 0 (HC b (st1 c 53 g) co r n) 0 0 50 [some (.ref (b + 49)), some (.ref (b + 53)), some (.int (nI dp)), some (.int (nI len)), some (.int (nI nv)), some (.int (nI zl)), some (.int (nI x))] [] := by
      intro m
      induction m with
      | zero =>
        intro x g hx hgg hT
        refine A_iload dX0_closes_50 rfl ?_
        refine A_iload dX0_closes_52 rfl ?_
        refine A_icmp_ge 111 dX0_closes_54 (by decide) (fun c54 => ?_) (fun c54 => ?_)
        · refine A_iconst (v := 0) dX0_closes_111 (by decide) ?_
          rw [clN] at hT
          exact A_zret dX0_closes_112 rfl ⟨by rw [← hT]; rfl, by rw [← hT]⟩ ⟨by decide, by decide⟩
        · exact absurd (nI_le (by omega) (by omega)) c54
      | succ m ihm =>
        intro x g hx hgg hT
        refine A_iload dX0_closes_50 rfl ?_
        refine A_iload dX0_closes_52 rfl ?_
        refine A_icmp_ge 111 dX0_closes_54 (by decide) (fun c54 => ?_) (fun c54 => ?_)
        · exact absurd c54 (nI_ge (by omega) (by omega))
        · refine A_iload_n dX0_closes_57 rfl rfl ?_
          refine A_aload_n dX0_closes_58 rfl rfl ?_
          refine A_alenI (v := nI _) dX0_closes_59 (HC_at (by decide)) rfl ?_
          refine A_icmp_ge 111 dX0_closes_60 (by decide) (fun c60 => ?_) (fun c60 => ?_)
          · exact absurd c60 (nI_ge (b := 6) (by omega) (by decide))
          · refine A_aload_n dX0_closes_63 rfl rfl ?_
            refine A_iload dX0_closes_64 rfl ?_
            refine A_iload dX0_closes_66 rfl ?_
            refine A_callVi dX0_closes_68 m_X0_100 cb_X11_at (As := [_, _]) rfl (HC_at (by decide)) rfl (c_pAt50 G (by omega) (by omega)) rfl ⟨by omega, by decide⟩ (Nat.le_of_ble_eq_true rfl) ⟨by decide, by decide⟩ (fun x68 h68 hq => ?_)
            obtain ⟨rfl, rfl⟩ := hq
            rw [st1_ne (by decide)]
            refine A_if_le 105 dX0_closes_71 (by decide) (fun c71 => ?_) (fun c71 => ?_)
            · refine A_inc 1 (lv1 := [_, _, _, _, _, _, _]) dX0_closes_105 rfl (by decide) rfl rfl ?_
              refine A_goto 50 dX0_closes_108 (by decide) ?_
              rw [nI_1]
              rw [clN, if_neg (Int32.not_lt.mpr c71)] at hT
              exact ihm (x + 1) g (by omega) hgg hT
            · refine A_aload_n dX0_closes_74 rfl rfl ?_
              refine A_iload_n dX0_closes_75 rfl rfl ?_
              refine A_iload dX0_closes_76 rfl ?_
              refine A_callSi dX0_closes_78 m_X0_101 cb_X0_holds (As := [_, _, _]) rfl (c_holds G (by omega)) rfl ⟨by omega, by decide⟩ (Nat.le_of_ble_eq_true rfl) ⟨by decide, by decide⟩ (fun x78 h78 hq => ?_)
              obtain ⟨rfl, rfl⟩ := hq
              rw [st1_eq]
              refine A_if_ne 105 dX0_closes_81 (by decide) (fun c81 => ?_) (fun c81 => ?_)
              · have hh9 : hasF g (nI x) dp = true := by
                  cases hq : hasF g (nI x) dp
                  · rw [hq] at c81; exact absurd rfl c81
                  · rfl
                refine A_inc 1 (lv1 := [_, _, _, _, _, _, _]) dX0_closes_105 rfl (by decide) rfl rfl ?_
                refine A_goto 50 dX0_closes_108 (by decide) ?_
                rw [nI_1]
                rw [clN, if_pos (i32_lt c71), if_pos hh9] at hT
                exact ihm (x + 1) g (by omega) hgg hT
              · have hh9 : hasF g (nI x) dp = false := by
                  cases hq : hasF g (nI x) dp
                  · rfl
                  · rw [hq] at c81; exact absurd c81 (by decide)
                refine A_aload_n dX0_closes_84 rfl rfl ?_
                refine A_iload_n dX0_closes_85 rfl rfl ?_
                refine A_iload dX0_closes_86 rfl ?_
                refine A_iastCN dX0_closes_88 (by decide) (fun _ => rfl) (by omega) (by decide) ?_
                refine WA_h (congrArg (fun z => HC b z co r n) (show _ = st1 c 53 (upd g dp (nI x)) from by funext l; by_cases h : l = 53 <;> simp [put, st1, h]; rfl)) ?_
                refine A_aload_n dX0_closes_89 rfl rfl ?_
                refine A_aload_n dX0_closes_90 rfl rfl ?_
                refine A_iload_n dX0_closes_91 rfl rfl ?_
                refine A_iconst (v := 1) dX0_closes_92 (by decide) ?_
                refine A_iadd dX0_closes_93 ?_
                rw [nI_1]
                refine A_iload_n dX0_closes_94 rfl rfl ?_
                refine A_iload dX0_closes_95 rfl ?_
                refine A_callSi dX0_closes_97 m_X0_96 cb_X0_closes (As := [_, _, _, _, _]) rfl (ih (D - 1) (st1 c 53 (upd g dp (nI x))) (by omega) (by omega) (fun i hi => by
  rw [st1_eq]
  by_cases e : i = dp
  · rw [e, pk_us]; exact vp_in_nI (by omega) (by omega)
  · rw [pk_un e, hgg i (by omega)]; exact hg i (by omega))) rfl ⟨by omega, by decide⟩ (Nat.le_of_ble_eq_true rfl) ⟨by decide, by decide⟩ (fun x97 h97 hq => ?_)
                obtain ⟨rfl, rfl⟩ := hq
                rw [st1_ne (by decide), st1_eq, st1_st1]
                refine A_if_eq 105 dX0_closes_100 (by decide) (fun c100 => ?_) (fun c100 => ?_)
                · have hP9 : ¬ (clS (c 50) nv len k (upd g dp (nI x))).1 = true := by
                    intro hq; rw [hq] at c100; exact absurd c100 (by decide)
                  refine A_inc 1 (lv1 := [_, _, _, _, _, _, _]) dX0_closes_105 rfl (by decide) rfl rfl ?_
                  refine A_goto 50 dX0_closes_108 (by decide) ?_
                  rw [nI_1]
                  rw [clN, if_pos (i32_lt c71), if_neg (by rw [hh9]; decide), if_neg hP9] at hT
                  exact ihm (x + 1) _ (by omega) (fun i hi => by rw [clS_pre k _ i (by omega), pk_un (by omega)]; exact hgg i hi) hT
                · have hP9 : (clS (c 50) nv len k (upd g dp (nI x))).1 = true := by
                    cases hq : (clS (c 50) nv len k (upd g dp (nI x))).1
                    · rw [hq] at c100; exact absurd rfl c100
                    · rfl
                  refine A_iconst (v := 1) dX0_closes_103 (by decide) ?_
                  rw [clN, if_pos (i32_lt c71), if_neg (by rw [hh9]; decide), if_pos hP9] at hT
                  exact A_zret dX0_closes_104 rfl ⟨by rw [← hT]; rfl, by rw [← hT]⟩ ⟨by decide, by decide⟩
    refine A_iload_n dX0_closes_0 rfl rfl ?_
    refine A_iconst (v := 1) dX0_closes_1 (by decide) ?_
    refine A_icmp_lt 11 dX0_closes_2 (by decide) (fun c2 => ?_) (fun c2 => ?_)
    · exact absurd c2 (nI_nlt (b := 1) (by omega) (by omega))
    · refine A_iload_n dX0_closes_5 rfl rfl ?_
      refine A_aload_n dX0_closes_6 rfl rfl ?_
      refine A_alenI (v := nI _) dX0_closes_7 (HC_at (by decide)) rfl ?_
      refine A_icmp_le 13 dX0_closes_8 (by decide) (fun c8 => ?_) (fun c8 => ?_)
      · refine A_aload_n dX0_closes_13 rfl rfl ?_
        refine A_iload_n dX0_closes_14 rfl rfl ?_
        refine A_iconst (v := 1) dX0_closes_15 (by decide) ?_
        refine A_isub dX0_closes_16 ?_
        rw [nI_sub1 (by omega)]
        refine A_ialdN dX0_closes_17 (HC_at (by decide)) (by omega) (by decide) ?_
        rw [ezl]
        refine A_istore (lv1 := [_, _, _, _, _, _, _]) dX0_closes_18 (Nat.le_of_ble_eq_true rfl) rfl rfl ?_
        refine A_iload_n dX0_closes_20 rfl rfl ?_
        refine A_iload_n dX0_closes_21 rfl rfl ?_
        refine A_icmp_lt 43 dX0_closes_22 (by decide) (fun c22 => ?_) (fun c22 => ?_)
        · refine A_aload_n dX0_closes_43 rfl rfl ?_
          refine A_iconst (v := 0) dX0_closes_44 (by decide) ?_
          refine A_iald dX0_closes_45 (HC_at (by decide)) (vp_in_nI (n := 0) (by decide) (by decide)) ?_
          rw [show (0 : Int32).toNatClampNeg = 0 from rfl, ez0]
          refine A_iconst (v := 1) dX0_closes_46 (by decide) ?_
          refine A_iadd dX0_closes_47 ?_
          rw [nI_1]
          refine A_istore (lv1 := [_, _, _, _, _, _, _]) dX0_closes_48 (Nat.le_of_ble_eq_true rfl) rfl rfl ?_
          have e := loop (nv - (z0 + 1)) (z0 + 1) (c 53) (by omega) (fun i hi => rfl) hTe.symm
          rw [st1_self] at e
          exact e
        · exact absurd (nI_lt (by omega) (by omega)) c22
      · exact absurd (nI_le (b := 6) (by omega) (by decide)) c8
theorem c_closes1 (G : GX) {b : Nat} {c : CT} {co : Nat → Nat → Option Nat} {r : Nat → Option AE} {n nv l : Nat} (hv6 : nv ≤ 6) (hl : l ≤ nv) (hl1 : 1 ≤ l) (hg : ∀ j, j < 1 → vp_in (c 53 j) nv) : MA G 7 yX0_closes cX0_closes 7 (some .boolean) 0 0 [.ref (b + 49), .ref (b + 53), .int 1, .int (nI l), .int (nI nv)] (HC b c co r n) (qI fun x h1 => x = (if (clS (c 50) nv l (l - 1) (c 53)).1 then 1 else 0) ∧ h1 = HC b (st1 c 53 (clS (c 50) nv l (l - 1) (c 53)).2) co r n) := by
  have e := c_closes G (b := b) (co := co) (r := r) (n := n) hv6 hl (l - 1) 7 c (by omega) (by omega) (fun i hi => hg i (by omega))
  rw [show l - (l - 1) = 1 by omega] at e
  exact e
theorem c_findRing (G : GX) {b : Nat} {c : CT} {co : Nat → Nat → Option Nat} {r : Nat → Option AE} {n : Nat} {nv nc nf nl wk : Nat} (hI : IX c nv nc nf nl wk) : MA G 8 yX0_findRing cX0_findRing 4 (some .int) 0 0 [.ref (b + 46)] (HC b c co r n) (qI fun x h1 => x = nI (frF (c 50) nv (nv - 1) 2 (c 53)).1 ∧ h1 = HC b (st1 c 53 (frF (c 50) nv (nv - 1) 2 (c 53)).2) co r n) := by
  refine MA.of (own := RX0) false [some (.ref (b + 46)), none, none, none] (by decide +kernel) rfl (fun h => by cases h) (Nat.le_of_ble_eq_true rfl) rfl (fun X => ?_)
  obtain ⟨hv, hv6, hc, hc8, hf, hf3, hl, hl8, hw, hw30, gC, gL⟩ := id hI
  obtain ⟨T, hTe⟩ : ∃ T, T = frF (c 50) nv (nv - 1) 2 (c 53) := ⟨_, rfl⟩
  rw [← hTe]
  have inner : ∀ (k i : Nat) (g : Nat → Int32) (l : Nat) (m2 : Nat), i + k = nv → (l + m2 = nv) → (2 ≤ l) → (∀ g2 : Nat → Int32, (frL (c 50) nv l k i g).1 = false → g2 = (frL (c 50) nv l k i g).2 → WA X G RX0 cX0_findRing false (some .int) (qI fun x h1 => x = nI T.1 ∧ h1 = HC b (st1 c 53 T.2) co r n) 8 0 0 (HC b (st1 c 53 g2) co r n) 0 0 57 [some (.ref (b + 46)), some (.int (nI nv)), some (.int (nI l)), none] []) → ((frL (c 50) nv l k i g).1 = true → T = (l, (frL (c 50) nv l k i g).2)) → WA X G RX0 cX0_findRing false (some .int) (qI fun x h1 => x = nI T.1 ∧ h1 = HC b (st1 c 53 T.2) co r n) 8 0 0 (HC b (st1 c 53 g) co r n) 0 0 20 [some (.ref (b + 46)), some (.int (nI nv)), some (.int (nI l)), some (.int (nI i))] [] := by
    intro k
    induction k with
    | zero =>
      intro i g l m2 hk hl9 hl2 hk9 hT
      refine A_iload_n dX0_findRing_20 rfl rfl ?_
      refine A_iload_n dX0_findRing_21 rfl rfl ?_
      refine A_icmp_ge 57 dX0_findRing_22 (by decide) (fun c22 => ?_) (fun c22 => ?_)
      · refine A_fg 3 (lv1 := [_, _, _, _]) rfl ?_
        exact hk9 g rfl rfl
      · exact absurd (by exact nI_le (by omega) (by omega)) c22
    | succ k ih =>
      intro i g l m2 hk hl9 hl2 hk9 hT
      have hi : i < nv := by omega
      refine A_iload_n dX0_findRing_20 rfl rfl ?_
      refine A_iload_n dX0_findRing_21 rfl rfl ?_
      refine A_icmp_ge 57 dX0_findRing_22 (by decide) (fun c22 => ?_) (fun c22 => ?_)
      · exact absurd c22 (by exact nI_ge (by omega) (by omega))
      · refine A_aload_n dX0_findRing_25 rfl rfl ?_
        refine A_get dX0_findRing_26 f_X0_24 (HC_at (by decide)) rfl ?_
        refine A_iconst (v := 0) dX0_findRing_29 (by decide) ?_
        refine A_iload_n dX0_findRing_30 rfl rfl ?_
        refine A_iastC dX0_findRing_31 (by decide) (fun _ => rfl) (vp_in_nI (n := 0) (by decide) (by decide)) ?_
        refine WA_h (congrArg (fun z => HC b z co r n) (show _ = st1 c 53 (upd g 0 (nI i)) from by funext q; by_cases h : q = 53 <;> simp [put, st1, h]; rfl)) ?_
        refine A_aload_n dX0_findRing_32 rfl rfl ?_
        refine A_get dX0_findRing_33 f_X0_18 (HC_at (by decide)) rfl ?_
        refine A_aload_n dX0_findRing_36 rfl rfl ?_
        refine A_get dX0_findRing_37 f_X0_24 (HC_at (by decide)) rfl ?_
        refine A_iconst (v := 1) dX0_findRing_40 (by decide) ?_
        refine A_iload_n dX0_findRing_41 rfl rfl ?_
        refine A_iload_n dX0_findRing_42 rfl rfl ?_
        refine A_callSi dX0_findRing_43 m_X0_96 cb_X0_closes (As := [_, _, _, _, _]) rfl (c_closes1 G hv6 (show l ≤ nv by omega) (by omega) (fun j hj => by rw [st1_eq, show j = 0 by omega, pk_us]; exact vp_in_nI (by omega) (by omega))) rfl ⟨by decide, by decide⟩ (Nat.le_of_ble_eq_true rfl) ⟨by decide, by decide⟩ (fun x43 h43 hq => ?_)
        obtain ⟨rfl, rfl⟩ := hq
        rw [st1_ne (by decide), st1_eq, st1_st1]
        refine A_if_eq 51 dX0_findRing_46 (by decide) (fun c46 => ?_) (fun c46 => ?_)
        · have hP9 : ¬ (clS (c 50) nv l (l - 1) (upd g 0 (nI i))).1 = true := by
            intro hq; rw [hq] at c46; exact absurd c46 (by decide)
          refine A_inc 1 (lv1 := [_, _, _, _]) dX0_findRing_51 rfl (by decide) rfl rfl ?_
          refine A_goto 20 dX0_findRing_54 (by decide) ?_
          rw [nI_1]
          rw [frL, if_neg hP9] at hT hk9
          exact ih (i + 1) _ l m2 (by omega) hl9 hl2 hk9 hT
        · have hP9 : (clS (c 50) nv l (l - 1) (upd g 0 (nI i))).1 = true := by
            cases hq : (clS (c 50) nv l (l - 1) (upd g 0 (nI i))).1
            · rw [hq] at c46; exact absurd rfl c46
            · rfl
          refine A_iload_n dX0_findRing_49 rfl rfl ?_
          rw [frL, if_pos hP9] at hT
          have hT := hT rfl
          exact A_iret dX0_findRing_50 ⟨by rw [hT], by rw [hT]⟩ ⟨by decide, by decide⟩
  have loop : ∀ (k i : Nat) (g : Nat → Int32), (i + k = nv + 1 ∨ (nv + 1 < i ∧ k = 0 ∧ i = 2)) → (2 ≤ i) → (frF (c 50) nv k i g = T) → WA X G RX0 cX0_findRing false (some .int) (qI fun x h1 => x = nI T.1 ∧ h1 = HC b (st1 c 53 T.2) co r n) 8 0 0 (HC b (st1 c 53 g) co r n) 0 0 13 [some (.ref (b + 46)), some (.int (nI nv)), some (.int (nI i)), none] [] := by
    intro k
    induction k with
    | zero =>
      intro i g hk hi2 hT
      refine A_iload_n dX0_findRing_13 rfl rfl ?_
      refine A_iload_n dX0_findRing_14 rfl rfl ?_
      refine A_icmp_gt 63 dX0_findRing_15 (by decide) (fun c15 => ?_) (fun c15 => ?_)
      · refine A_iconst (v := 0) dX0_findRing_63 (by decide) ?_
        rw [frF] at hT
        exact A_iret dX0_findRing_64 ⟨by rw [← hT]; rfl, by rw [← hT]⟩ ⟨by decide, by decide⟩
      · exact absurd (nI_lt (by omega) (by omega)) c15
    | succ k ih =>
      intro i g hk hi2 hT
      have hi : i < nv + 1 := by omega
      refine A_iload_n dX0_findRing_13 rfl rfl ?_
      refine A_iload_n dX0_findRing_14 rfl rfl ?_
      refine A_icmp_gt 63 dX0_findRing_15 (by decide) (fun c15 => ?_) (fun c15 => ?_)
      · exact absurd c15 (nI_nlt (by omega) (by omega))
      · refine A_iconst (v := 0) dX0_findRing_18 (by decide) ?_
        refine A_istore_n (lv1 := [_, _, _, _]) dX0_findRing_19 rfl (Nat.le_of_ble_eq_true rfl) rfl rfl ?_
        refine inner nv 0 g i (nv - i) (by omega) (by omega) hi2 (fun g2 h1 h2 => ?_) (fun h1 => ?_)
        · refine A_inc 1 (lv1 := [_, _, _, _]) dX0_findRing_57 rfl (by decide) rfl rfl ?_
          refine A_goto 13 dX0_findRing_60 (by decide) ?_
          rw [nI_1, h2]
          rw [frF, if_neg (by rw [h1]; decide)] at hT
          exact ih (i + 1) _ (by omega) (by omega) hT
        · rw [frF, if_pos h1] at hT; exact hT.symm
  refine A_aload_n dX0_findRing_0 rfl rfl ?_
  refine A_get dX0_findRing_1 f_X0_31 (HC_at (by decide)) rfl ?_
  refine A_get dX0_findRing_4 f_X0_93 (HC_at (by decide)) rfl ?_
  refine A_get dX0_findRing_7 f_X0_48 (HC_at (by decide)) rfl ?_
  rw [hv]
  refine A_istore_n (lv1 := [_, _, _, _]) dX0_findRing_10 rfl (Nat.le_of_ble_eq_true rfl) rfl rfl ?_
  refine A_iconst (v := 2) dX0_findRing_11 (by decide) ?_
  refine A_istore_n (lv1 := [_, _, _, _]) dX0_findRing_12 rfl (Nat.le_of_ble_eq_true rfl) rfl rfl ?_
  have e := loop (nv - 1) 2 (c 53) (by omega) (by omega) hTe.symm
  rw [st1_self] at e
  exact e
