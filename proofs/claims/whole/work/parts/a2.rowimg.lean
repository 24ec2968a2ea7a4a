/-! the class: row and image, which make what is not there yet -/
/-- two cells laid behind the world -/
def nw2 (r : Nat → Option AE) (n : Nat) (e0 e1 : AE) : Nat → Option AE := fun z => if z = n + 1 then some e1 else if z = n then some e0 else r z
theorem HC_nw2 {b : Nat} {c : CT} {co : Nat → Nat → Option Nat} {r : Nat → Option AE} {n : Nat} {e0 e1 : AE} (hn : b + 55 ≤ n) : nwL (HC b c co r n) [e0, e1] = HC b c co (nw2 r n e0 e1) (n + 2) := by
  refine Prod.ext ?_ rfl
  funext q
  show (if q = n + 1 then some e1 else if q = n then some e0 else (if b ≤ q ∧ q < b + 55 then some (mkC b (q - b) (c (q - b)) (co (q - b))) else r q)) = (if b ≤ q ∧ q < b + 55 then some (mkC b (q - b) (c (q - b)) (co (q - b))) else nw2 r n e0 e1 q)
  unfold nw2
  by_cases hq : b ≤ q ∧ q < b + 55
  · rw [if_pos hq, if_neg (by omega), if_neg (by omega), if_pos hq]
  · rw [if_neg hq, if_neg hq]
def rowS (r : Nat → Option AE) (a q : Nat) (w k : Int32) (g : Nat → Int64) : Nat → Option AE := fun z => if z = q then some (aJ 60 g) else if z = a then some (ob 5 [.ref q, .int w, .int k]) else r z
def rowP (S : Nat → Option ST) (s w k : Int32) (x : Int32) (co : Nat → Nat → Option Nat) (r : Nat → Option AE) (n : Nat) (co1 : Nat → Nat → Option Nat) (r1 : Nat → Option AE) (n1 : Nat) : Prop :=
  x = rowA s w k ∧ if rowA s w k = 0 then match S (tcl s) with
  | some (a, q, _, _, _) => co1 = co ∧ n1 = n ∧ ∃ g, r1 = rowS r a q w k g ∧ ∀ i, i < 60 → g i = 0
  | none => co1 = st1 co 27 (va_up (co 27) (tcl s) (some n)) ∧ n1 = n + 2 ∧ ∃ g, r1 = rowS r n (n + 1) w k g ∧ ∀ i, i < 60 → g i = 0
  else co1 = co ∧ r1 = r ∧ n1 = n
theorem rowS_nw {r : Nat → Option AE} {n : Nat} {w k : Int32} {g : Nat → Int64} {e0 e1 : AE} : (fun z => if z = n + 1 then some (aJ 60 g) else (if z = n then some (ob 5 [.ref (n + 1), .int w, .int k]) else nw2 r n e0 e1 z)) = rowS r n (n + 1) w k g := by
  funext z
  unfold nw2 rowS
  by_cases h1 : z = n + 1
  · rw [if_pos h1, if_pos h1]
  · rw [if_neg h1, if_neg h1]
    by_cases h2 : z = n
    · rw [if_pos h2, if_neg h1, if_pos h2]
    · rw [if_neg h2, if_neg h1, if_neg h2, if_neg h2]
theorem i3_3 {x : Int32} (h1 : ¬ x < 0) (h2 : ¬ 3 < x) : ¬ inI x 4 = 0 := by
  rw [inI, if_neg (fun z => z.elim h1 (fun q => h2 (by
    rw [Int32.le_iff_toInt_le] at q
    rw [Int32.lt_iff_toInt_lt]
    have e1 : (4 : Int32).toInt = 4 := rfl
    have e2 : (3 : Int32).toInt = 3 := rfl
    omega)))]
  decide
theorem i3_4 {x : Int32} (h2 : 3 < x) : inI x 4 = 0 := by
  refine if_pos (Or.inr ?_)
  rw [Int32.lt_iff_toInt_lt] at h2
  rw [Int32.le_iff_toInt_le]
  have e1 : (4 : Int32).toInt = 4 := rfl
  have e2 : (3 : Int32).toInt = 3 := rfl
  omega
theorem c_row (G : GX) {b : Nat} {c : CT} {co : Nat → Nat → Option Nat} {r : Nat → Option AE} {n : Nat} {S : Nat → Option ST} {s w k : Int32} (hS : SOk b co r S) (hn : b + 55 ≤ n) : MA G 2 yX9_row cX9_row 4 (some .int) 2 63 [.ref b, .int s, .int w, .int k] (HC b c co r n) (qI fun x h1 => ∃ co1 r1 n1, h1 = HC b c co1 r1 n1 ∧ rowP S s w k x co r n co1 r1 n1) := by
  refine MA.of (own := RX9) false [some (.ref b), some (.int s), some (.int w), some (.int k)] (by decide +kernel) rfl (fun h => by cases h) (Nat.le_of_ble_eq_true rfl) rfl (fun X => ?_)
  refine A_iload_n dX9_row_0 rfl rfl ?_
  refine A_callSi dX9_row_1 m_X9_287 cb_X9_isSlot (As := [_]) rfl (c_isSlot G) rfl ⟨by decide, by decide⟩ (Nat.le_of_ble_eq_true rfl) ⟨by decide, by decide⟩ (fun x1 h1 hq => ?_)
  obtain ⟨rfl, rfl⟩ := hq
  refine A_if_eq 22 dX9_row_4 (by decide) (fun c4 => ?_) (fun c4 => ?_)
  · refine A_bipush (v := (-2)) dX9_row_22 (by decide) ?_
    exact A_iret dX9_row_24 ⟨co, r, n, rfl, by rw [rowA, if_pos (by first | exact Or.inl (by assumption) | exact Or.inr (Or.inl (if_pos (Or.inl (by assumption)))) | exact Or.inr (Or.inl (i3_4 (by assumption))) | exact Or.inr (Or.inr (Int32.not_le.mp (by assumption))))], by rw [if_neg (by rw [rowA, if_pos (by first | exact Or.inl (by assumption) | exact Or.inr (Or.inl (if_pos (Or.inl (by assumption)))) | exact Or.inr (Or.inl (i3_4 (by assumption))) | exact Or.inr (Or.inr (Int32.not_le.mp (by assumption))))]; decide)]; exact ⟨rfl, rfl, rfl⟩⟩ ⟨by decide, by decide⟩
  · refine A_iload_n dX9_row_7 rfl rfl ?_
    refine A_if_lt 22 dX9_row_8 (by decide) (fun c8 => ?_) (fun c8 => ?_)
    · refine A_bipush (v := (-2)) dX9_row_22 (by decide) ?_
      exact A_iret dX9_row_24 ⟨co, r, n, rfl, by rw [rowA, if_pos (by first | exact Or.inl (by assumption) | exact Or.inr (Or.inl (if_pos (Or.inl (by assumption)))) | exact Or.inr (Or.inl (i3_4 (by assumption))) | exact Or.inr (Or.inr (Int32.not_le.mp (by assumption))))], by rw [if_neg (by rw [rowA, if_pos (by first | exact Or.inl (by assumption) | exact Or.inr (Or.inl (if_pos (Or.inl (by assumption)))) | exact Or.inr (Or.inl (i3_4 (by assumption))) | exact Or.inr (Or.inr (Int32.not_le.mp (by assumption))))]; decide)]; exact ⟨rfl, rfl, rfl⟩⟩ ⟨by decide, by decide⟩
    · refine A_iload_n dX9_row_11 rfl rfl ?_
      refine A_iconst (v := 3) dX9_row_12 (by decide) ?_
      refine A_icmp_gt 22 dX9_row_13 (by decide) (fun c13 => ?_) (fun c13 => ?_)
      · refine A_bipush (v := (-2)) dX9_row_22 (by decide) ?_
        exact A_iret dX9_row_24 ⟨co, r, n, rfl, by rw [rowA, if_pos (by first | exact Or.inl (by assumption) | exact Or.inr (Or.inl (if_pos (Or.inl (by assumption)))) | exact Or.inr (Or.inl (i3_4 (by assumption))) | exact Or.inr (Or.inr (Int32.not_le.mp (by assumption))))], by rw [if_neg (by rw [rowA, if_pos (by first | exact Or.inl (by assumption) | exact Or.inr (Or.inl (if_pos (Or.inl (by assumption)))) | exact Or.inr (Or.inl (i3_4 (by assumption))) | exact Or.inr (Or.inr (Int32.not_le.mp (by assumption))))]; decide)]; exact ⟨rfl, rfl, rfl⟩⟩ ⟨by decide, by decide⟩
      · refine A_iload_n dX9_row_16 rfl rfl ?_
        refine A_bipush (v := 60) dX9_row_17 (by decide) ?_
        refine A_icmp_le 25 dX9_row_19 (by decide) (fun c19 => ?_) (fun c19 => ?_)
        · have nb : ¬ (inI s 4 = 0 ∨ inI w 4 = 0 ∨ 60 < k) := by
            rintro (z | z | z)
            · exact c4 z
            · exact i3_3 c8 c13 z
            · exact absurd z (Int32.not_lt.mpr c19)
          refine A_iload_n dX9_row_25 rfl rfl ?_
          refine A_if_ge 32 dX9_row_26 (by decide) (fun c26 => ?_) (fun c26 => ?_)
          · have hok : rowA s w k = 0 := by rw [rowA, if_neg nb, if_neg (Int32.not_lt.mpr c26)]
            obtain ⟨j, hj, rfl⟩ := inI_of (k := 4) rfl c4 (by decide)
            refine A_aload_n dX9_row_32 rfl rfl ?_
            refine A_get dX9_row_33 f_X9_41 HC_at0 rfl ?_
            refine A_iload_n dX9_row_36 rfl rfl ?_
            refine A_aald dX9_row_37 (HC_at (by decide)) rfl (vp_in_nI (by omega) (by decide)) ?_
            have hsj := hS j hj
            rw [nI_clamp (by omega)]
            rcases hs : S j with _ | ⟨a, q, w0, m, f⟩
            · rw [hsj.1 hs]
              refine A_ifnonnullN dX9_row_38 ?_
              refine A_aload_n dX9_row_41 rfl rfl ?_
              refine A_get dX9_row_42 f_X9_41 HC_at0 rfl ?_
              refine A_iload_n dX9_row_45 rfl rfl ?_
              refine A_new (ci := 5) (fs := [.null, .int 0, .int 0]) dX9_row_46 rfl ⟨w_183, w_1111, w_20⟩ tyX5 tyX5_ok (by decide) (Nat.le_of_ble_eq_true rfl) (Nat.le_of_ble_eq_true rfl) ?_
              refine A_dup dX9_row_49 rfl ?_
              refine A_callINv dX9_row_50 m_X9_413 cb_X5_init (As := []) rfl (i_X5 G (h := HC b c co r n) (a := n) rfl) rfl ⟨by decide, by decide⟩ (Nat.le_of_ble_eq_true rfl) ⟨by decide, by decide⟩ (fun h50 hq => ?_)
              obtain rfl := hq
              refine WA_h (HC_nw2 hn) ?_
              refine A_aast dX9_row_53 (HC_at (k := 27) (by decide)) rfl ((HC_out (a := n) (by omega)).trans (by show nw2 r n _ _ n = _; rw [nw2, if_neg (by omega), if_pos rfl])) rfl (vp_in_nI (by omega) (by decide)) ?_
              refine WA_h (HC_upO (k := 27) (g := va_up (co 27) (nI j).toNatClampNeg (some n)) (by decide) rfl) ?_
              refine A_aload_n dX9_row_54 rfl rfl ?_
              refine A_get dX9_row_55 f_X9_41 HC_at0 rfl ?_
              refine A_iload_n dX9_row_58 rfl rfl ?_
              refine A_aald dX9_row_59 (HC_at (by decide)) rfl (vp_in_nI (by omega) (by decide)) ?_
              rw [nI_clamp (by omega), st1_eq, va_up_self]
              refine A_iload_n dX9_row_60 rfl rfl ?_
              refine A_iload_n dX9_row_61 rfl rfl ?_
              refine A_callVv dX9_row_62 m_X9_414 cb_X5_begin (As := [_, _]) rfl ((HC_out (a := n) (by omega)).trans (by rw [nw2, if_neg (by omega), if_pos rfl])) rfl (c_beginS G (q := n + 1) (w := 0) (m := 0) (f := fun _ => 0) ((HC_out (a := n) (by omega)).trans (by rw [nw2, if_neg (by omega), if_pos rfl])) ((HC_out (a := n + 1) (by omega)).trans (by rw [nw2, if_pos rfl])) (Int32.not_lt.mpr c26) (Int32.not_lt.mpr c19)) rfl ⟨by decide, by decide⟩ (Nat.le_of_ble_eq_true rfl) ⟨by decide, by decide⟩ (fun h62 hq => ?_)
              obtain ⟨g, rfl, hg⟩ := hq
              refine WA_h ((congrArg (fun y => upH y (n + 1) (aJ 60 g)) (HC_upR (by omega))).trans ((HC_upR (by omega)).trans (congrArg (fun y => HC b c (st1 co 27 (va_up (co 27) j (some n))) y (n + 2)) rowS_nw))) ?_
              refine A_iconst (v := 0) dX9_row_65 (by decide) ?_
              exact A_iret dX9_row_66 ⟨_, _, _, rfl, hok.symm, by rw [if_pos hok, tcl_nI (by omega), hs]; exact ⟨rfl, rfl, g, rfl, hg⟩⟩ ⟨by decide, by decide⟩
            · obtain ⟨hco, ha, hq0, hm, oa, oq⟩ := hsj.2 a q w0 m f hs
              rw [hco]
              refine A_ifnonnull 54 dX9_row_38 (by decide) ?_
              refine A_aload_n dX9_row_54 rfl rfl ?_
              refine A_get dX9_row_55 f_X9_41 HC_at0 rfl ?_
              refine A_iload_n dX9_row_58 rfl rfl ?_
              refine A_aald dX9_row_59 (HC_at (by decide)) rfl (vp_in_nI (by omega) (by decide)) ?_
              rw [nI_clamp (by omega), hco]
              refine A_iload_n dX9_row_60 rfl rfl ?_
              refine A_iload_n dX9_row_61 rfl rfl ?_
              refine A_callVv dX9_row_62 m_X9_414 cb_X5_begin (As := [_, _]) rfl ((HC_out oa).trans ha) rfl (c_beginS G ((HC_out oa).trans ha) ((HC_out oq).trans hq0) (Int32.not_lt.mpr c26) (Int32.not_lt.mpr c19)) rfl ⟨by decide, by decide⟩ (Nat.le_of_ble_eq_true rfl) ⟨by decide, by decide⟩ (fun h62 hq => ?_)
              obtain ⟨g, rfl, hg⟩ := hq
              refine WA_h ((congrArg (fun y => upH y q (aJ 60 g)) (HC_upR oa)).trans (HC_upR oq)) ?_
              refine A_iconst (v := 0) dX9_row_65 (by decide) ?_
              exact A_iret dX9_row_66 ⟨_, _, _, rfl, hok.symm, by rw [if_pos hok, tcl_nI (by omega), hs]; exact ⟨rfl, rfl, g, rfl, hg⟩⟩ ⟨by decide, by decide⟩
          · have c26x : k < 0 := Int32.not_le.mp c26
            refine A_bipush (v := (-3)) dX9_row_29 (by decide) ?_
            exact A_iret dX9_row_31 ⟨co, r, n, rfl, by rw [rowA, if_neg nb, if_pos c26x], by rw [if_neg (by rw [rowA, if_neg nb, if_pos c26x]; decide)]; exact ⟨rfl, rfl, rfl⟩⟩ ⟨by decide, by decide⟩
        · refine A_bipush (v := (-2)) dX9_row_22 (by decide) ?_
          exact A_iret dX9_row_24 ⟨co, r, n, rfl, by rw [rowA, if_pos (by first | exact Or.inl (by assumption) | exact Or.inr (Or.inl (if_pos (Or.inl (by assumption)))) | exact Or.inr (Or.inl (i3_4 (by assumption))) | exact Or.inr (Or.inr (Int32.not_le.mp (by assumption))))], by rw [if_neg (by rw [rowA, if_pos (by first | exact Or.inl (by assumption) | exact Or.inr (Or.inl (if_pos (Or.inl (by assumption)))) | exact Or.inr (Or.inl (i3_4 (by assumption))) | exact Or.inr (Or.inr (Int32.not_le.mp (by assumption))))]; decide)]; exact ⟨rfl, rfl, rfl⟩⟩ ⟨by decide, by decide⟩

theorem HC_nwP {b : Nat} {c : CT} {co : Nat → Nat → Option Nat} {r : Nat → Option AE} {n : Nat} (hn : b + 55 ≤ n) : nwL (HC b c co r n) [ob 2 [.ref (n + 1), .ref (n + 3), .ref (n + 5), .ref (n + 7), .ref (n + 9), .int 0, .int 0, .int 0, .int 0], ob 3 [.int 6, .int 5, .ref (n + 2), .int 0], aI 30 (fun _ => 0), ob 3 [.int 8, .int 5, .ref (n + 4), .int 0], aI 40 (fun _ => 0), ob 3 [.int 3, .int 4, .ref (n + 6), .int 0], aI 12 (fun _ => 0), ob 3 [.int 8, .int 5, .ref (n + 8), .int 0], aI 40 (fun _ => 0), aI 30 (fun _ => 0)] = HC b c co (upP r n (fun _ _ => 0)) (n + 10) := by
  obtain ⟨es, e9⟩ : ∃ es, [ob 2 [.ref (n + 1), .ref (n + 3), .ref (n + 5), .ref (n + 7), .ref (n + 9), .int 0, .int 0, .int 0, .int 0], ob 3 [.int 6, .int 5, .ref (n + 2), .int 0], aI 30 (fun _ => 0), ob 3 [.int 8, .int 5, .ref (n + 4), .int 0], aI 40 (fun _ => 0), ob 3 [.int 3, .int 4, .ref (n + 6), .int 0], aI 12 (fun _ => 0), ob 3 [.int 8, .int 5, .ref (n + 8), .int 0], aI 40 (fun _ => 0), aI 30 (fun _ => 0)] = es := ⟨_, rfl⟩
  have key : ∀ k, k < 10 → some (mkP n k (fun _ => 0) (cz0 k)) = es[k]? := by
    subst e9
    intro k hk
    match k, hk with
    | 0, _ => rfl
    | 1, _ => rfl
    | 2, _ => rfl
    | 3, _ => rfl
    | 4, _ => rfl
    | 5, _ => rfl
    | 6, _ => rfl
    | 7, _ => rfl
    | 8, _ => rfl
    | 9, _ => rfl
    | n + 10, h9 => exact absurd h9 (Nat.not_lt_of_le (Nat.le_add_left 10 n))
  have hl : es.length = 10 := by rw [← e9]; rfl
  rw [e9]
  refine Prod.ext ?_ (nwL_2.trans (by rw [hl]; rfl))
  funext q
  show (nwL (HC b c co r n) es).1 q = (if b ≤ q ∧ q < b + 55 then some (mkC b (q - b) (c (q - b)) (co (q - b))) else upP r n (fun _ _ => 0) q)
  have h2 : (HC b c co r n).2 = n := rfl
  by_cases h1 : q < n
  · rw [nwL_lo (by rw [h2]; exact h1)]
    show (if b ≤ q ∧ q < b + 55 then some (mkC b (q - b) (c (q - b)) (co (q - b))) else r q) = _
    rw [upP_no (by omega)]
  · rw [if_neg (by omega)]
    by_cases h3 : q < n + 10
    · rw [nwL_at (k := q - n) (by rw [h2]; omega) (key (q - n) (by omega)).symm, upP, if_pos (by omega)]
    · rw [nwL_hi (by rw [h2, hl]; omega) (Or.inr trivial), upP_no (by omega), HC_out (by omega)]
def imgP (I : Nat → Option (Nat × CT)) (c : CT) (v : Int32) (x : Int32) (co : Nat → Nat → Option Nat) (r : Nat → Option AE) (n : Nat) (co1 : Nat → Nat → Option Nat) (r1 : Nat → Option AE) (n1 : Nat) : Prop :=
  if inI v 3 = 0 then x = -2 ∧ co1 = co ∧ r1 = r ∧ n1 = n else x = 0 ∧ match I (tcl v) with
  | some (q, _) => co1 = co ∧ n1 = n ∧ r1 = upP r q (fun k => c (6 + k))
  | none => co1 = st1 co 26 (va_up (co 26) (tcl v) (some n)) ∧ n1 = n + 10 ∧ r1 = upP r n (fun k => c (6 + k))
theorem upP_upP {r : Nat → Option AE} {q : Nat} {P Q : CT} : upP (upP r q P) q Q = upP r q Q := by
  funext a
  unfold upP
  split
  · rfl
  · rfl
theorem c_image (G : GX) {b : Nat} {c : CT} {co : Nat → Nat → Option Nat} {r : Nat → Option AE} {n : Nat} {I : Nat → Option (Nat × CT)} {v : Int32} (hI : IOk b co r I) (hn : b + 55 ≤ n) (hN : PN (fun k => c (6 + k)) 0) : MA G 3 yX9_image cX9_image 2 (some .int) 10 177 [.ref b, .int v] (HC b c co r n) (qI fun x h1 => ∃ co1 r1 n1, h1 = HC b c co1 r1 n1 ∧ imgP I c v x co r n co1 r1 n1) := by
  refine MA.of (own := RX9) false [some (.ref b), some (.int v)] (by decide +kernel) rfl (fun h => by cases h) (Nat.le_of_ble_eq_true rfl) rfl (fun X => ?_)
  refine A_iload_n dX9_image_0 rfl rfl ?_
  refine A_if_lt 9 dX9_image_1 (by decide) (fun c1 => ?_) (fun c1 => ?_)
  · refine A_bipush (v := (-2)) dX9_image_9 (by decide) ?_
    exact A_iret dX9_image_11 ⟨co, r, n, rfl, by rw [imgP, if_pos (show inI v 3 = 0 from if_pos (by first | exact Or.inl (by assumption) | exact Or.inr (Int32.not_lt.mp (by assumption))))]; exact ⟨rfl, rfl, rfl, rfl⟩⟩ ⟨by decide, by decide⟩
  · refine A_iload_n dX9_image_4 rfl rfl ?_
    refine A_iconst (v := 3) dX9_image_5 (by decide) ?_
    refine A_icmp_lt 12 dX9_image_6 (by decide) (fun c6 => ?_) (fun c6 => ?_)
    · have ck : ¬ inI v 3 = 0 := fun z => by rw [inI, if_neg (fun q => q.elim c1 (fun w => absurd c6 (Int32.not_lt.mpr w)))] at z; exact absurd z (by decide)
      obtain ⟨j, hj, rfl⟩ := inI_of (k := 3) rfl ck (by decide)
      refine A_aload_n dX9_image_12 rfl rfl ?_
      refine A_get dX9_image_13 f_X9_35 HC_at0 rfl ?_
      refine A_iload_n dX9_image_16 rfl rfl ?_
      refine A_aald dX9_image_17 (HC_at (by decide)) rfl (vp_in_nI (by omega) (by decide)) ?_
      obtain ⟨e1, e2⟩ := hI j hj
      rw [nI_clamp (by omega)]
      rcases hs : I j with _ | ⟨q, Q⟩
      · rw [hs] at e1
        rw [show co 26 j = none from e1]
        refine A_ifnonnullN dX9_image_18 ?_
        refine A_aload_n dX9_image_21 rfl rfl ?_
        refine A_get dX9_image_22 f_X9_35 HC_at0 rfl ?_
        refine A_iload_n dX9_image_25 rfl rfl ?_
        refine A_new (ci := 2) (fs := [.null, .null, .null, .null, .null, .int 0, .int 0, .int 0, .int 0]) dX9_image_26 rfl ⟨w_96, w_97, w_5⟩ tyX2 tyX2_ok (by decide) (Nat.le_of_ble_eq_true rfl) (Nat.le_of_ble_eq_true rfl) ?_
        refine A_dup dX9_image_29 rfl ?_
        refine A_callINv dX9_image_30 m_X9_27 cb_X2_init (As := []) rfl (i_X2 G (h := HC b c co r n) (a := n) rfl) rfl ⟨by decide, by decide⟩ (Nat.le_of_ble_eq_true rfl) ⟨by decide, by decide⟩ (fun h30 hq => ?_)
        obtain rfl := hq
        refine WA_h (HC_nwP hn) ?_
        refine A_aast dX9_image_33 (HC_at (k := 26) (by decide)) rfl ((HC_out (a := n) (by omega)).trans (upP_at (k := 0) (by decide))) rfl (vp_in_nI (by omega) (by decide)) ?_
        refine WA_h (HC_upO (k := 26) (g := va_up (co 26) (nI j).toNatClampNeg (some n)) (by decide) rfl) ?_
        refine A_aload_n dX9_image_34 rfl rfl ?_
        refine A_get dX9_image_35 f_X9_35 HC_at0 rfl ?_
        refine A_iload_n dX9_image_38 rfl rfl ?_
        refine A_aald dX9_image_39 (HC_at (by decide)) rfl (vp_in_nI (by omega) (by decide)) ?_
        rw [nI_clamp (by omega), st1_eq, va_up_self]
        refine A_aload_n dX9_image_40 rfl rfl ?_
        refine A_get dX9_image_41 f_X9_28 HC_at0 rfl ?_
        refine A_callVv dX9_image_44 m_X9_86 cb_X2_copy (As := [_]) rfl ((HC_out (a := n) (by omega)).trans (upP_at (k := 0) (by decide))) rfl (c_copyTo G (q := n) (Q := fun _ _ => 0) (fun k hk => upP_at hk) (by omega) hN) rfl ⟨by decide, by decide⟩ (Nat.le_of_ble_eq_true rfl) ⟨by decide, by decide⟩ (fun h44 hq => ?_)
        obtain rfl := hq
        refine WA_h (congrArg (fun y => HC b c (st1 co 26 (va_up (co 26) j (some n))) y (n + 10)) upP_upP) ?_
        refine A_iconst (v := 0) dX9_image_47 (by decide) ?_
        exact A_iret dX9_image_48 ⟨_, _, _, rfl, by rw [imgP, if_neg ck, tcl_nI (by omega), hs]; exact ⟨rfl, rfl, rfl, rfl⟩⟩ ⟨by decide, by decide⟩
      · rw [hs] at e1
        obtain ⟨hd, hQ⟩ := e2 q Q hs
        rw [show co 26 j = some q from e1]
        refine A_ifnonnull 34 dX9_image_18 (by decide) ?_
        refine A_aload_n dX9_image_34 rfl rfl ?_
        refine A_get dX9_image_35 f_X9_35 HC_at0 rfl ?_
        refine A_iload_n dX9_image_38 rfl rfl ?_
        refine A_aald dX9_image_39 (HC_at (by decide)) rfl (vp_in_nI (by omega) (by decide)) ?_
        rw [nI_clamp (by omega), show co 26 j = some q from e1]
        refine A_aload_n dX9_image_40 rfl rfl ?_
        refine A_get dX9_image_41 f_X9_28 HC_at0 rfl ?_
        refine A_callVv dX9_image_44 m_X9_86 cb_X2_copy (As := [_]) rfl ((HC_out (a := q) (by omega)).trans (hQ 0 (by decide))) rfl (c_copyTo G hQ hd hN) rfl ⟨by decide, by decide⟩ (Nat.le_of_ble_eq_true rfl) ⟨by decide, by decide⟩ (fun h44 hq => ?_)
        obtain rfl := hq
        refine A_iconst (v := 0) dX9_image_47 (by decide) ?_
        exact A_iret dX9_image_48 ⟨_, _, _, rfl, by rw [imgP, if_neg ck, tcl_nI (by omega), hs]; exact ⟨rfl, rfl, rfl, rfl⟩⟩ ⟨by decide, by decide⟩
    · refine A_bipush (v := (-2)) dX9_image_9 (by decide) ?_
      exact A_iret dX9_image_11 ⟨co, r, n, rfl, by rw [imgP, if_pos (show inI v 3 = 0 from if_pos (by first | exact Or.inl (by assumption) | exact Or.inr (Int32.not_lt.mp (by assumption))))]; exact ⟨rfl, rfl, rfl, rfl⟩⟩ ⟨by decide, by decide⟩
