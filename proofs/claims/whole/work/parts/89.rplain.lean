/-! PLAINS copied; plain and restore -/
def cz0 : Nat → Nat → Int64 := fun _ _ => 0
def cpN (c Q : CT) : CT := fun l => if 6 ≤ l ∧ l < 16 then Q (l - 6) else c l
theorem mkC_now {b k : Nat} {f : Nat → Int32} {g : Nat → Option Nat} {z : Nat → Int64} (h : k < 10) : mkC b (6 + k) f g = mkP (b + 6) k f z := by
  match k, h with
  | 0, _ => rfl
  | 1, _ => rfl
  | 2, _ => rfl
  | 3, _ => rfl
  | 4, _ => rfl
  | 5, _ => rfl
  | 6, _ => rfl
  | 7, _ => rfl
  | 8, _ => rfl
  | 9, _ => rfl
theorem mkC_dr {b k : Nat} {f : Nat → Int32} {g : Nat → Option Nat} {z : Nat → Int64} (h : k < 10) : mkC b (16 + k) f g = mkP (b + 16) k f z := by
  match k, h with
  | 0, _ => rfl
  | 1, _ => rfl
  | 2, _ => rfl
  | 3, _ => rfl
  | 4, _ => rfl
  | 5, _ => rfl
  | 6, _ => rfl
  | 7, _ => rfl
  | 8, _ => rfl
  | 9, _ => rfl
theorem HC_now {b : Nat} {c Q : CT} {co : Nat → Nat → Option Nat} {r : Nat → Option AE} {n : Nat} : HP (b + 6) Q cz0 (HC b c co r n).1 n = HC b (cpN c Q) co r n := by
  refine Prod.ext ?_ rfl
  funext a
  simp only [HP, HC]
  by_cases h : b + 6 ≤ a ∧ a < b + 6 + 10
  · have e : a - b = 6 + (a - (b + 6)) := by omega
    have e2 : cpN c Q (a - b) = Q (a - (b + 6)) := by rw [cpN, if_pos (by omega)]; exact congrArg Q (by omega)
    rw [if_pos h, if_pos (by omega), e2, e, mkC_now (z := cz0 (a - (b + 6))) (by omega)]
  · rw [if_neg h]
    by_cases h2 : b ≤ a ∧ a < b + 55
    · have e2 : cpN c Q (a - b) = c (a - b) := by rw [cpN, if_neg (by omega)]
      rw [if_pos h2, if_pos h2, e2]
    · rw [if_neg h2, if_neg h2]
theorem cpN_self {c : CT} : cpN c (fun k => c (6 + k)) = c := by
  funext l
  unfold cpN
  split
  · exact congrArg c (show 6 + (l - 6) = l by omega)
  · rfl
theorem HC_now0 {b : Nat} {c : CT} {co : Nat → Nat → Option Nat} {r : Nat → Option AE} {n : Nat} : HP (b + 6) (fun k => c (6 + k)) cz0 (HC b c co r n).1 n = HC b c co r n := by rw [HC_now, cpN_self]
theorem c_copyNow (G : GX) {b : Nat} {c : CT} {co : Nat → Nat → Option Nat} {r : Nat → Option AE} {n : Nat} (hN : PN (fun k => c (16 + k)) 0) : MA G 2 yX2_copy cX2_copy 2 none 0 0 [.ref (b + 6), .ref (b + 16)] (HC b c co r n) (qV fun h1 => h1 = HC b (cpN c (fun k => c (16 + k))) co r n) := by
  have M := c_Pcopy G (p := b + 6) (q := b + 16) (P1 := fun k => c (6 + k)) (Q := fun k => c (16 + k)) (co := cz0) (r := (HC b c co r n).1) (n := n) (fun k hk => by rw [show b + 16 + k = b + (16 + k) by omega, HC_at (by omega), mkC_dr hk]) (by omega) hN
  rw [HC_now0, HC_now] at M
  exact M
theorem c_copyFrom (G : GX) {b q : Nat} {c Q : CT} {co : Nat → Nat → Option Nat} {r : Nat → Option AE} {n : Nat} (hq : ∀ k, k < 10 → r (q + k) = some (mkP q k (Q k) (cz0 k))) (hd : q + 10 ≤ b ∨ b + 55 ≤ q) (hN : PN Q 0) : MA G 2 yX2_copy cX2_copy 2 none 0 0 [.ref (b + 6), .ref q] (HC b c co r n) (qV fun h1 => h1 = HC b (cpN c Q) co r n) := by
  have M := c_Pcopy G (p := b + 6) (q := q) (P1 := fun k => c (6 + k)) (Q := Q) (co := cz0) (r := (HC b c co r n).1) (n := n) (fun k hk => by rw [HC_out (by omega)]; exact hq k hk) (by omega) hN
  rw [HC_now0, HC_now] at M
  exact M
def upP (r : Nat → Option AE) (q : Nat) (Q : CT) : Nat → Option AE := fun a => if q ≤ a ∧ a < q + 10 then some (mkP q (a - q) (Q (a - q)) (cz0 (a - q))) else r a
theorem upP_at {r : Nat → Option AE} {q k : Nat} {Q : CT} (h : k < 10) : upP r q Q (q + k) = some (mkP q k (Q k) (cz0 k)) := by
  have e : q + k - q = k := by omega
  rw [upP, if_pos (by omega), e]
theorem upP_no {r : Nat → Option AE} {q a : Nat} {Q : CT} (h : ¬ (q ≤ a ∧ a < q + 10)) : upP r q Q a = r a := if_neg h
theorem HC_img {b q : Nat} {c Q : CT} {co : Nat → Nat → Option Nat} {r : Nat → Option AE} {n : Nat} (hd : q + 10 ≤ b ∨ b + 55 ≤ q) : HP q Q cz0 (HC b c co r n).1 n = HC b c co (upP r q Q) n := by
  refine Prod.ext ?_ rfl
  funext a
  simp only [HP, HC, upP]
  by_cases h : q ≤ a ∧ a < q + 10
  · rw [if_pos h, if_neg (by omega), if_pos h]
  · rw [if_neg h, if_neg h]
theorem upP_self {r : Nat → Option AE} {q : Nat} {Q : CT} (hq : ∀ k, k < 10 → r (q + k) = some (mkP q k (Q k) (cz0 k))) : upP r q Q = r := by
  funext a
  unfold upP
  split
  · next h => rw [← hq (a - q) (by omega)]; exact congrArg r (by omega)
  · rfl
theorem c_copyTo (G : GX) {b q : Nat} {c Q : CT} {co : Nat → Nat → Option Nat} {r : Nat → Option AE} {n : Nat} (hq : ∀ k, k < 10 → r (q + k) = some (mkP q k (Q k) (cz0 k))) (hd : q + 10 ≤ b ∨ b + 55 ≤ q) (hN : PN (fun k => c (6 + k)) 0) : MA G 2 yX2_copy cX2_copy 2 none 0 0 [.ref q, .ref (b + 6)] (HC b c co r n) (qV fun h1 => h1 = HC b c co (upP r q (fun k => c (6 + k))) n) := by
  have M := c_Pcopy G (p := q) (q := b + 6) (P1 := Q) (Q := fun k => c (6 + k)) (co := cz0) (r := (HC b c co r n).1) (n := n) (fun k hk => by rw [show b + 6 + k = b + (6 + k) by omega, HC_at (by omega), mkC_now hk]) (by omega) hN
  rw [HC_img hd, HC_img hd, upP_self hq] at M
  exact M
def dra (c : CT) : CT := fun k => c (16 + k)
def plainZ (L : Nat) (c : CT) : CT := put (readsF L c).2 1 1 0
def plainA (L : Nat) (c : CT) : Int32 × CT := if (readsF L c).1 = 0 then (-4, plainZ L c) else (plainZ L c 16 5, forgetF (cpN (plainZ L c) (dra (plainZ L c))))
theorem c_plain (G : GX) {b : Nat} {c : CT} {co : Nat → Nat → Option Nat} {r : Nat → Option AE} {n : Nat} {L : Nat} (hL : c 1 1 = nI L) (hL2 : L ≤ 1600) : MA G 10 yX9_plain cX9_plain 2 (some .int) 0 0 [.ref b] (HC b c co r n) (qI fun x9 h1 => x9 = (plainA L c).1 ∧ h1 = HC b (plainA L c).2 co r n) := by
  refine MA.of (own := RX9) false [some (.ref b), none] (by decide +kernel) rfl (fun h => by cases h) (Nat.le_of_ble_eq_true rfl) rfl (fun X => ?_)
  refine A_aload_n dX9_plain_0 rfl rfl ?_
  refine A_get dX9_plain_1 f_X9_21 HC_at0 rfl ?_
  refine A_aload_n dX9_plain_4 rfl rfl ?_
  refine A_get dX9_plain_5 f_X9_32 HC_at0 rfl ?_
  refine A_callVi dX9_plain_8 m_X9_82 cb_X4_reads (As := [_]) rfl (HC_at (by decide)) rfl (c_reads G hL hL2) rfl ⟨by decide, by decide⟩ (Nat.le_of_ble_eq_true rfl) ⟨by decide, by decide⟩ (fun x8 h8 hq => ?_)
  obtain ⟨rfl, rfl⟩ := hq
  refine A_istore_n (lv1 := [_, _]) dX9_plain_11 rfl (Nat.le_of_ble_eq_true rfl) rfl rfl ?_
  refine A_aload_n dX9_plain_12 rfl rfl ?_
  refine A_get dX9_plain_13 f_X9_10 HC_at0 rfl ?_
  refine A_iconst (v := 0) dX9_plain_16 (by decide) ?_
  refine A_putC 1 dX9_plain_17 p_X9_78 (by decide) rfl (Nat.le_of_ble_eq_true rfl) rfl ?_
  obtain ⟨z, ez⟩ : ∃ z, plainZ L c = z := ⟨_, rfl⟩
  rw [show put (readsF L c).2 1 1 0 = z from ez]
  refine A_iload_n dX9_plain_20 rfl rfl ?_
  refine A_if_ne 27 dX9_plain_21 (by decide) (fun c21 => ?_) (fun c21 => ?_)
  · refine A_aload_n dX9_plain_27 rfl rfl ?_
    refine A_get dX9_plain_28 f_X9_28 HC_at0 rfl ?_
    refine A_aload_n dX9_plain_31 rfl rfl ?_
    refine A_get dX9_plain_32 f_X9_32 HC_at0 rfl ?_
    have hzN : PN (fun k => z (16 + k)) 0 := by
      obtain ⟨a1, a2, a3, a4, hC⟩ := readsF_C hL hL2 c21
      rw [← ez]
      exact (hC.to (y := plainZ L c) (fun l hl => put_ne (by omega))).pn
    refine A_callVv dX9_plain_35 m_X9_86 cb_X2_copy (As := [_]) rfl (HC_at (by decide)) rfl (c_copyNow G hzN) rfl ⟨by decide, by decide⟩ (Nat.le_of_ble_eq_true rfl) ⟨by decide, by decide⟩ (fun h35 hq => ?_)
    obtain rfl := hq
    refine A_aload_n dX9_plain_38 rfl rfl ?_
    refine A_get dX9_plain_39 f_X9_59 HC_at0 rfl ?_
    refine A_callVv dX9_plain_42 m_X9_89 cb_X1_forget (As := []) rfl (HC_at (by decide)) rfl (c_forget G) rfl ⟨by decide, by decide⟩ (Nat.le_of_ble_eq_true rfl) ⟨by decide, by decide⟩ (fun h42 hq => ?_)
    obtain rfl := hq
    refine A_aload_n dX9_plain_45 rfl rfl ?_
    refine A_get dX9_plain_46 f_X9_28 HC_at0 rfl ?_
    refine A_get dX9_plain_49 f_X9_92 (HC_at (by decide)) rfl ?_
    exact A_iret dX9_plain_52 ⟨by rw [plainA, if_neg c21, ez]; rfl, by rw [plainA, if_neg c21, ez]; rfl⟩ ⟨by decide, by decide⟩
  · refine A_bipush (v := (-4)) dX9_plain_24 (by decide) ?_
    exact A_iret dX9_plain_26 ⟨by rw [plainA, if_pos c21], by rw [plainA, if_pos c21, ez]⟩ ⟨by decide, by decide⟩

/-- the IMAGES of the class' world: which is there, and what it holds -/
def IOk (b : Nat) (co : Nat → Nat → Option Nat) (r : Nat → Option AE) (I : Nat → Option (Nat × CT)) : Prop := ∀ k, k < 3 → co 26 k = (I k).map Prod.fst ∧ ∀ q Q, I k = some (q, Q) → (q + 10 ≤ b ∨ b + 55 ≤ q) ∧ ∀ j, j < 10 → r (q + j) = some (mkP q j (Q j) (cz0 j))
def restoreA (I : Nat → Option (Nat × CT)) (c : CT) (k : Int32) : Int32 × CT := if inI k 3 = 0 then (-2, c) else match I (tcl k) with
  | none => (-6, c)
  | some (_, Q) => (0, forgetF (cpN c Q))
theorem c_restore (G : GX) {b : Nat} {c : CT} {co : Nat → Nat → Option Nat} {r : Nat → Option AE} {n : Nat} {I : Nat → Option (Nat × CT)} {v : Int32} (hI : IOk b co r I) (hN : ∀ k, k < 3 → ∀ q Q, I k = some (q, Q) → PN Q 0) : MA G 3 yX9_restore cX9_restore 2 (some .int) 0 0 [.ref b, .int v] (HC b c co r n) (qI fun x9 h1 => x9 = (restoreA I c v).1 ∧ h1 = HC b (restoreA I c v).2 co r n) := by
  refine MA.of (own := RX9) false [some (.ref b), some (.int v)] (by decide +kernel) rfl (fun h => by cases h) (Nat.le_of_ble_eq_true rfl) rfl (fun X => ?_)
  refine A_iload_n dX9_restore_0 rfl rfl ?_
  refine A_if_lt 9 dX9_restore_1 (by decide) (fun c1 => ?_) (fun c1 => ?_)
  · refine A_bipush (v := (-2)) dX9_restore_9 (by decide) ?_
    exact A_iret dX9_restore_11 ⟨by rw [restoreA, if_pos (show inI v 3 = 0 from if_pos (by first | exact Or.inl (by assumption) | exact Or.inr (Int32.not_lt.mp (by assumption))))], by rw [restoreA, if_pos (show inI v 3 = 0 from if_pos (by first | exact Or.inl (by assumption) | exact Or.inr (Int32.not_lt.mp (by assumption))))]⟩ ⟨by decide, by decide⟩
  · refine A_iload_n dX9_restore_4 rfl rfl ?_
    refine A_iconst (v := 3) dX9_restore_5 (by decide) ?_
    refine A_icmp_lt 12 dX9_restore_6 (by decide) (fun c6 => ?_) (fun c6 => ?_)
    · have ck : ¬ inI v 3 = 0 := fun z => by rw [inI, if_neg (fun q => q.elim c1 (fun w => absurd c6 (Int32.not_lt.mpr w)))] at z; exact absurd z (by decide)
      obtain ⟨k, hk, rfl⟩ := inI_of (k := 3) rfl ck (by decide)
      obtain ⟨e1, e2⟩ := hI k hk
      have eR : restoreA I c (nI k) = (match I k with | none => (-6, c) | some (_, Q) => (0, forgetF (cpN c Q))) := by rw [restoreA, if_neg ck, tcl_nI (by omega)]
      cases hi : I k with
      | none =>
        rw [hi] at eR e1
        refine A_aload_n dX9_restore_12 rfl rfl ?_
        refine A_get dX9_restore_13 f_X9_35 HC_at0 rfl ?_
        refine A_iload_n dX9_restore_16 rfl rfl ?_
        refine A_aald dX9_restore_17 (HC_at (k := 26) (by decide)) rfl (show vp_in (nI k) 3 from vp_in_nI (by omega) (by decide)) ?_
        rw [nI_clamp (by omega), e1]
        refine A_ifnonnullN dX9_restore_18 ?_
        refine A_bipush (v := (-6)) dX9_restore_21 (by decide) ?_
        exact A_iret dX9_restore_23 ⟨by rw [eR], by rw [eR]⟩ (by decide)
      | some s =>
        obtain ⟨q, Q⟩ := s
        obtain ⟨hd, hq⟩ := e2 q Q hi
        rw [hi] at eR e1
        refine A_aload_n dX9_restore_12 rfl rfl ?_
        refine A_get dX9_restore_13 f_X9_35 HC_at0 rfl ?_
        refine A_iload_n dX9_restore_16 rfl rfl ?_
        refine A_aald dX9_restore_17 (HC_at (k := 26) (by decide)) rfl (show vp_in (nI k) 3 from vp_in_nI (by omega) (by decide)) ?_
        rw [nI_clamp (by omega), e1]
        refine A_ifnonnull 24 dX9_restore_18 (by decide) ?_
        refine A_aload_n dX9_restore_24 rfl rfl ?_
        refine A_get dX9_restore_25 f_X9_28 HC_at0 rfl ?_
        refine A_aload_n dX9_restore_28 rfl rfl ?_
        refine A_get dX9_restore_29 f_X9_35 HC_at0 rfl ?_
        refine A_iload_n dX9_restore_32 rfl rfl ?_
        refine A_aald dX9_restore_33 (HC_at (by decide)) rfl (show vp_in (nI k) 3 from vp_in_nI (by omega) (by decide)) ?_
        rw [nI_clamp (by omega), e1]
        refine A_callVv dX9_restore_34 m_X9_86 cb_X2_copy (As := [_]) rfl (HC_at (by decide)) rfl (c_copyFrom G hq hd (hN k hk q Q hi)) rfl ⟨by decide, by decide⟩ (Nat.le_of_ble_eq_true rfl) ⟨by decide, by decide⟩ (fun h34 hq2 => ?_)
        obtain rfl := hq2
        refine A_aload_n dX9_restore_37 rfl rfl ?_
        refine A_get dX9_restore_38 f_X9_59 HC_at0 rfl ?_
        refine A_callVv dX9_restore_41 m_X9_89 cb_X1_forget (As := []) rfl (HC_at (by decide)) rfl (c_forget G) rfl ⟨by decide, by decide⟩ (Nat.le_of_ble_eq_true rfl) ⟨by decide, by decide⟩ (fun h41 hq2 => ?_)
        obtain rfl := hq2
        refine A_iconst (v := 0) dX9_restore_44 (by decide) ?_
        exact A_iret dX9_restore_45 ⟨by rw [eR], by rw [eR]⟩ ⟨by decide, by decide⟩
    · refine A_bipush (v := (-2)) dX9_restore_9 (by decide) ?_
      exact A_iret dX9_restore_11 ⟨by rw [restoreA, if_pos (show inI v 3 = 0 from if_pos (by first | exact Or.inl (by assumption) | exact Or.inr (Int32.not_lt.mp (by assumption))))], by rw [restoreA, if_pos (show inI v 3 = 0 from if_pos (by first | exact Or.inl (by assumption) | exact Or.inr (Int32.not_lt.mp (by assumption))))]⟩ ⟨by decide, by decide⟩
