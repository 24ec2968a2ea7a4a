/-! THE REFERENCE reads a village, a crop, a flood, a loan -/
abbrev RS : Type := (Int32 × Nat) × (Nat → Int32)
def tdS (f : Nat → Int32) (L j : Nat) (lo hi : Int32) (i : Nat) (s : RS) : RS := (thn (thn s.1 (wdO f L j)) (nuO f L lo hi), upd s.2 i (if (thn (thn s.1 (wdO f L j)) (nuO f L lo hi)).1 = 0 then nuW f L (thn s.1 (wdO f L j)).2 else 0))
def nuS (f : Nat → Int32) (L : Nat) (lo hi : Int32) (i : Nat) (s : RS) : RS := (thn s.1 (nuO f L lo hi), upd s.2 i (if (thn s.1 (nuO f L lo hi)).1 = 0 then nuW f L s.1.2 else 0))
def stS2 (i : Nat) (v : Int32) (s : RS) : RS := (s.1, upd s.2 i v)
def inS (i : Nat) (s : RS) : RS := stS2 i (s.2 i + 1) s
def SMr (m y : CT) : Prop := (∀ l, l ≠ 0 → l ≠ 6 → y l = m l) ∧ ∀ j, (j < 8 ∨ 13 < j) → y 0 j = m 0 j
theorem SMr.rf {m : CT} : SMr m m := ⟨fun _ _ _ => rfl, fun _ _ => rfl⟩
theorem SMr.f {a b c : CT} (h : SMr a b) (h2 : SMf b c) : SMr a c := ⟨fun l x z => (h2.1 l x).trans (h.1 l x z), fun j x => (h2.2 j x).trans (h.2 j x)⟩
theorem SMr.p {a b : CT} {i : Nat} {v : Int32} (h : SMr a b) : SMr a (put b 6 i v) := ⟨fun l x z => by rw [put_ne z]; exact h.1 l x z, fun j x => by rw [put_ne (by decide)]; exact h.2 j x⟩
theorem put6 {m : CT} {i : Nat} {v : Int32} : put m 6 i v 6 = upd (m 6) i v := by
  funext j
  by_cases e : j = i
  · subst e; rw [put_at, pk_us]
  · rw [put_no e, pk_un e]
theorem LK.p6 {L p i : Nat} {f : Nat → Int32} {m : CT} {v : Int32} (h : LK L f p m) : LK L f p (put m 6 i v) := by
  have e0 : put m 6 i v 0 = m 0 := put_ne (by decide)
  have e4 : put m 6 i v 4 = m 4 := put_ne (by decide)
  unfold LK at *
  rw [e0]
  refine ⟨h.1, h.2.1, h.2.2.1, ?_, h.2.2.2.2⟩
  rw [← h.2.2.2.1]
  funext k
  rw [myF, myF, e0, e4]
theorem GS.p6 {L i : Nat} {f : Nat → Int32} {o : Int32 × Nat} {m : CT} {v : Int32} (h : GS L f o m) : GS L f o (put m 6 i v) := by
  have e0 : put m 6 i v 0 = m 0 := put_ne (by decide)
  refine ⟨h.1.to (put_ne (by decide)), ?_⟩
  rw [e0]
  rcases h.2 with ⟨a, b, c, d⟩ | z
  · exact Or.inl ⟨a, b, c, d.p6⟩
  · exact Or.inr z
def STr (L : Nat) (f : Nat → Int32) (m0 : CT) (s : RS) (y : CT) : Prop := SMr m0 y ∧ GS L f s.1 y ∧ y 6 = s.2
theorem STr.td {L j i : Nat} {f : Nat → Int32} {m0 y m1 : CT} {s : RS} {lo hi : Int32} (h : STr L f m0 s y) (hS : SMf y m1) (hG : GS L f (thn (thn s.1 (wdO f L j)) (nuO f L lo hi)) m1) : STr L f m0 (tdS f L j lo hi i s) (put m1 6 i (if (thn (thn s.1 (wdO f L j)) (nuO f L lo hi)).1 = 0 then nuW f L (thn s.1 (wdO f L j)).2 else 0)) :=
  ⟨(h.1.f hS).p, hG.p6, by rw [put6, hS.1 6 (by decide), h.2.2]; rfl⟩
theorem STr.nu {L i : Nat} {f : Nat → Int32} {m0 y m1 : CT} {s : RS} {lo hi : Int32} (h : STr L f m0 s y) (hS : SMf y m1) (hG : GS L f (thn s.1 (nuO f L lo hi)) m1) : STr L f m0 (nuS f L lo hi i s) (put m1 6 i (if (thn s.1 (nuO f L lo hi)).1 = 0 then nuW f L s.1.2 else 0)) :=
  ⟨(h.1.f hS).p, hG.p6, by rw [put6, hS.1 6 (by decide), h.2.2]; rfl⟩
theorem STr.st {L i : Nat} {f : Nat → Int32} {m0 y : CT} {s : RS} {v : Int32} (h : STr L f m0 s y) : STr L f m0 (stS2 i v s) (put y 6 i v) := ⟨h.1.p, h.2.1.p6, by rw [put6, h.2.2]; rfl⟩
theorem STr.o {L : Nat} {f : Nat → Int32} {m0 y m1 : CT} {s : RS} {o : Int32 × Nat} (h : STr L f m0 s y) (hS : SMf y m1) (hG : GS L f o m1) : STr L f m0 (o, s.2) m1 := ⟨h.1.f hS, hG, by rw [hS.1 6 (by decide), h.2.2]⟩
theorem A_hide {X : XC} {G : GX} {own : String} {cc : ByteArray} {ini : Bool} {ret : Option FieldType} {Qp : Option Value → AH → Prop} {d mc ms : Nat} {b : Nat} {c : CT} {ml : Nat → Nat → Int64} {r : Nat → Option AE} {n uc us pc : Nat} {lv : List (Option Value)} {st : List Value} {P : CT → Prop} (h : P c) (k : ∀ y, P y → WA X G own cc ini ret Qp d mc ms (HM b y ml r n) uc us pc lv st) : WA X G own cc ini ret Qp d mc ms (HM b c ml r n) uc us pc lv st := k c h
theorem A_hide2 {X : XC} {G : GX} {own : String} {cc : ByteArray} {ini : Bool} {ret : Option FieldType} {Qp : Option Value → AH → Prop} {d mc ms : Nat} {b : Nat} {c m0 : CT} {L : Nat} {f : Nat → Int32} {S : RS} {ml : Nat → Nat → Int64} {r : Nat → Option AE} {n uc us pc : Nat} {lv : List (Option Value)} {st : List Value} (h : STr L f m0 S c) (k : ∀ s1 y, S = s1 → STr L f m0 s1 y → WA X G own cc ini ret Qp d mc ms (HM b y ml r n) uc us pc lv st) : WA X G own cc ini ret Qp d mc ms (HM b c ml r n) uc us pc lv st := k S c rfl h
def viS (f : Nat → Int32) (L N : Nat) (s : RS) : RS :=
  let s1 := tdS f L 17 0 9999 (8 + 5 * N + 0) s
  let s2 := tdS f L 18 0 (s1.2 (8 + 5 * N + 0)) (8 + 5 * N + 1) s1
  inS 0 (tdS f L 20 0 99 (8 + 5 * N + 3) (tdS f L 19 0 99 (8 + 5 * N + 2) s2))
def crS (f : Nat → Int32) (L N : Nat) (s : RS) : RS :=
  let s3 := tdS f L 22 0 99 (38 + 5 * N + 2) (tdS f L 21 1 99 (38 + 5 * N + 1) (nuS f L 0 (s.2 0 - 1) (38 + 5 * N + 0) s))
  let s4 := tdS f L 23 0 (s3.2 5 - 1) (38 + 5 * N + 3) s3
  inS 1 (tdS f L 24 (s4.2 (38 + 5 * N + 3)) (s4.2 5 - 1) (38 + 5 * N + 4) s4)
def flS (f : Nat → Int32) (L N : Nat) (s : RS) : RS := inS 2 (stS2 (157 + N) (-1) (tdS f L 26 0 100 (108 + 3 * N + 2) (tdS f L 22 0 9999 (108 + 3 * N + 1) (nuS f L 0 (s.2 5 - 1) (108 + 3 * N + 0) s))))
def loV (f : Nat → Int32) (L : Nat) (s : RS) : Int32 := if (thn s.1 (nuO f L 0 (s.2 0 - 1))).1 = 0 then nuW f L s.1.2 else 0
def loO (f : Nat → Int32) (L : Nat) (s : RS) : Int32 × Nat := thn (thn s.1 (nuO f L 0 (s.2 0 - 1))) (wdO f L 24)
def loP (f : Nat → Int32) (L : Nat) (s : RS) : Int32 × Nat := if (loO f L s).1 = 0 ∧ tkK f (tkS f L (loO f L s).2) = 2 ∧ nuW f L (loO f L s).2 = loV f L s then (2, tkS f L (loO f L s).2) else loO f L s
def loS (f : Nat → Int32) (L N : Nat) (s : RS) : RS :=
  let s3 := stS2 (117 + 5 * N + 0) (loV f L s) (loP f L s, s.2)
  let s5 := tdS f L 27 1 9999 (117 + 5 * N + 2) (nuS f L 0 (s3.2 0 - 1) (117 + 5 * N + 1) s3)
  let s6 := tdS f L 28 0 (s5.2 5 - 1) (117 + 5 * N + 3) s5
  inS 3 (tdS f L 29 (s6.2 (117 + 5 * N + 3) + 1) (s6.2 5 - 1) (117 + 5 * N + 4) s6)
theorem k_readVillage (G : GX) {b : Nat} {m0 m : CT} {ml : Nat → Nat → Int64} {r : Nat → Option AE} {n L N : Nat} {f : Nat → Int32} {s : RS} (hT : STr L f m0 s m) (hN : s.2 0 = nI N) (hN2 : N < 6) : MA G 10 yX10_readVillage cX10_readVillage 2 none 0 0 [.ref b] (HM b m ml r n) (qV fun h1 => ∃ m1, h1 = HM b m1 ml r n ∧ STr L f m0 (viS f L N s) m1) := by
  refine MA.of (own := RX10) false [some (.ref b), none] (by decide +kernel) rfl (fun h => by cases h) (Nat.le_of_ble_eq_true rfl) rfl (fun X => ?_)
  refine A_bipush (v := 8) dX10_readVillage_0 (by decide) ?_
  refine A_iconst (v := 5) dX10_readVillage_2 (by decide) ?_
  refine A_aload_n dX10_readVillage_3 rfl rfl ?_
  refine A_get dX10_readVillage_4 f_X10_31 HM_at0 rfl ?_
  refine A_iconst (v := 0) dX10_readVillage_7 (by decide) ?_
  refine A_ialdK (i := 0) dX10_readVillage_8 (HM_at (by decide)) rfl (by omega) (by decide) ?_
  refine A_eqI (y := nI N) (by rw [hT.2.2]; exact hN) ?_
  refine A_imul dX10_readVillage_9 ?_
  refine A_iadd dX10_readVillage_10 ?_
  refine A_eqI (y := nI (8 + 5 * N)) (by rw [show (8 : Int32) = nI 8 from rfl, show (5 : Int32) = nI 5 from rfl, pk_mul, nI_add]) ?_
  refine A_istore_n (lv1 := [_, _]) dX10_readVillage_11 rfl (Nat.le_of_ble_eq_true rfl) rfl rfl ?_
  refine A_aload_n dX10_readVillage_12 rfl rfl ?_
  refine A_get dX10_readVillage_13 f_X10_31 HM_at0 rfl ?_
  refine A_iload_n dX10_readVillage_16 rfl rfl ?_
  refine A_iconst (v := 0) dX10_readVillage_17 (by decide) ?_
  refine A_iadd dX10_readVillage_18 ?_
  refine A_aload_n dX10_readVillage_19 rfl rfl ?_
  refine A_ldcS 17 dX10_readVillage_20 rfl ?_
  refine A_iconst (v := 0) dX10_readVillage_22 (by decide) ?_
  refine A_sipush (v := 9999) dX10_readVillage_23 (by decide) ?_
  refine A_callVi dX10_readVillage_26 m_X10_173 cb_X10_told (As := [_, _, _]) rfl HM_at0 rfl (k_told G (j := 17) (by decide) hT.2.1) rfl ⟨by decide, by decide⟩ (Nat.le_of_ble_eq_true rfl) ⟨by decide, by decide⟩ (fun x26 h26 hq => ?_)
  obtain ⟨rfl, m1, rfl, hS, hG1⟩ := hq
  refine A_iastMK (i := ((8 + 5 * N) + 0)) dX10_readVillage_29 (by decide) (fun _ => rfl) (ixA rfl rfl) (by omega) (by decide) ?_
  refine A_hide2 (hT.td (i := ((8 + 5 * N) + 0)) hS hG1) (fun s29 y e29 hT => ?_)
  refine A_aload_n dX10_readVillage_30 rfl rfl ?_
  refine A_get dX10_readVillage_31 f_X10_31 HM_at0 rfl ?_
  refine A_iload_n dX10_readVillage_34 rfl rfl ?_
  refine A_iconst (v := 1) dX10_readVillage_35 (by decide) ?_
  refine A_iadd dX10_readVillage_36 ?_
  refine A_aload_n dX10_readVillage_37 rfl rfl ?_
  refine A_ldcS 18 dX10_readVillage_38 rfl ?_
  refine A_iconst (v := 0) dX10_readVillage_40 (by decide) ?_
  refine A_aload_n dX10_readVillage_41 rfl rfl ?_
  refine A_get dX10_readVillage_42 f_X10_31 HM_at0 rfl ?_
  refine A_iload_n dX10_readVillage_45 rfl rfl ?_
  refine A_iconst (v := 0) dX10_readVillage_46 (by decide) ?_
  refine A_iadd dX10_readVillage_47 ?_
  refine A_ialdK (i := ((8 + 5 * N) + 0)) dX10_readVillage_48 (HM_at (by decide)) (ixA rfl rfl) (by omega) (by decide) ?_
  rw [hT.2.2]
  refine A_callVi dX10_readVillage_49 m_X10_173 cb_X10_told (As := [_, _, _]) rfl HM_at0 rfl (k_told G (j := 18) (by decide) hT.2.1) rfl ⟨by decide, by decide⟩ (Nat.le_of_ble_eq_true rfl) ⟨by decide, by decide⟩ (fun x49 h49 hq => ?_)
  obtain ⟨rfl, m1, rfl, hS, hG1⟩ := hq
  refine A_iastMK (i := ((8 + 5 * N) + 1)) dX10_readVillage_52 (by decide) (fun _ => rfl) (ixA rfl rfl) (by omega) (by decide) ?_
  refine A_hide2 (hT.td (i := ((8 + 5 * N) + 1)) hS hG1) (fun s52 y e52 hT => ?_)
  refine A_aload_n dX10_readVillage_53 rfl rfl ?_
  refine A_get dX10_readVillage_54 f_X10_31 HM_at0 rfl ?_
  refine A_iload_n dX10_readVillage_57 rfl rfl ?_
  refine A_iconst (v := 2) dX10_readVillage_58 (by decide) ?_
  refine A_iadd dX10_readVillage_59 ?_
  refine A_aload_n dX10_readVillage_60 rfl rfl ?_
  refine A_ldcS 19 dX10_readVillage_61 rfl ?_
  refine A_iconst (v := 0) dX10_readVillage_63 (by decide) ?_
  refine A_bipush (v := 99) dX10_readVillage_64 (by decide) ?_
  refine A_callVi dX10_readVillage_66 m_X10_173 cb_X10_told (As := [_, _, _]) rfl HM_at0 rfl (k_told G (j := 19) (by decide) hT.2.1) rfl ⟨by decide, by decide⟩ (Nat.le_of_ble_eq_true rfl) ⟨by decide, by decide⟩ (fun x66 h66 hq => ?_)
  obtain ⟨rfl, m1, rfl, hS, hG1⟩ := hq
  refine A_iastMK (i := ((8 + 5 * N) + 2)) dX10_readVillage_69 (by decide) (fun _ => rfl) (ixA rfl rfl) (by omega) (by decide) ?_
  refine A_hide2 (hT.td (i := ((8 + 5 * N) + 2)) hS hG1) (fun s69 y e69 hT => ?_)
  refine A_aload_n dX10_readVillage_70 rfl rfl ?_
  refine A_get dX10_readVillage_71 f_X10_31 HM_at0 rfl ?_
  refine A_iload_n dX10_readVillage_74 rfl rfl ?_
  refine A_iconst (v := 3) dX10_readVillage_75 (by decide) ?_
  refine A_iadd dX10_readVillage_76 ?_
  refine A_aload_n dX10_readVillage_77 rfl rfl ?_
  refine A_ldcS 20 dX10_readVillage_78 rfl ?_
  refine A_iconst (v := 0) dX10_readVillage_80 (by decide) ?_
  refine A_bipush (v := 99) dX10_readVillage_81 (by decide) ?_
  refine A_callVi dX10_readVillage_83 m_X10_173 cb_X10_told (As := [_, _, _]) rfl HM_at0 rfl (k_told G (j := 20) (by decide) hT.2.1) rfl ⟨by decide, by decide⟩ (Nat.le_of_ble_eq_true rfl) ⟨by decide, by decide⟩ (fun x83 h83 hq => ?_)
  obtain ⟨rfl, m1, rfl, hS, hG1⟩ := hq
  refine A_iastMK (i := ((8 + 5 * N) + 3)) dX10_readVillage_86 (by decide) (fun _ => rfl) (ixA rfl rfl) (by omega) (by decide) ?_
  refine A_hide2 (hT.td (i := ((8 + 5 * N) + 3)) hS hG1) (fun s86 y e86 hT => ?_)
  refine A_aload_n dX10_readVillage_87 rfl rfl ?_
  refine A_get dX10_readVillage_88 f_X10_31 HM_at0 rfl ?_
  refine A_iconst (v := 0) dX10_readVillage_91 (by decide) ?_
  refine A_dup2 dX10_readVillage_92 rfl rfl ?_
  refine A_ialdK (i := 0) dX10_readVillage_93 (HM_at (by decide)) rfl (by omega) (by decide) ?_
  rw [hT.2.2]
  refine A_iconst (v := 1) dX10_readVillage_94 (by decide) ?_
  refine A_iadd dX10_readVillage_95 ?_
  refine A_iastMK (i := 0) dX10_readVillage_96 (by decide) (fun _ => rfl) rfl (by omega) (by decide) ?_
  refine A_hide2 hT.st (fun s96 y e96 hT => ?_)
  exact A_vret dX10_readVillage_97 ⟨_, rfl, by rw [show viS f L N s = s96 by simp only [viS, inS, e29, e52, e69, e86, e96]]; exact hT⟩ ⟨by decide, by decide⟩

theorem k_readCrop (G : GX) {b : Nat} {m0 m : CT} {ml : Nat → Nat → Int64} {r : Nat → Option AE} {n L N : Nat} {f : Nat → Int32} {s : RS} (hT : STr L f m0 s m) (hN : s.2 1 = nI N) (hN2 : N < 8) : MA G 10 yX10_readCrop cX10_readCrop 2 none 0 0 [.ref b] (HM b m ml r n) (qV fun h1 => ∃ m1, h1 = HM b m1 ml r n ∧ STr L f m0 (crS f L N s) m1) := by
  refine MA.of (own := RX10) false [some (.ref b), none] (by decide +kernel) rfl (fun h => by cases h) (Nat.le_of_ble_eq_true rfl) rfl (fun X => ?_)
  refine A_bipush (v := 38) dX10_readCrop_0 (by decide) ?_
  refine A_iconst (v := 5) dX10_readCrop_2 (by decide) ?_
  refine A_aload_n dX10_readCrop_3 rfl rfl ?_
  refine A_get dX10_readCrop_4 f_X10_31 HM_at0 rfl ?_
  refine A_iconst (v := 1) dX10_readCrop_7 (by decide) ?_
  refine A_ialdK (i := 1) dX10_readCrop_8 (HM_at (by decide)) rfl (by omega) (by decide) ?_
  refine A_eqI (y := nI N) (by rw [hT.2.2]; exact hN) ?_
  refine A_imul dX10_readCrop_9 ?_
  refine A_iadd dX10_readCrop_10 ?_
  refine A_eqI (y := nI (38 + 5 * N)) (by rw [show (38 : Int32) = nI 38 from rfl, show (5 : Int32) = nI 5 from rfl, pk_mul, nI_add]) ?_
  refine A_istore_n (lv1 := [_, _]) dX10_readCrop_11 rfl (Nat.le_of_ble_eq_true rfl) rfl rfl ?_
  refine A_aload_n dX10_readCrop_12 rfl rfl ?_
  refine A_get dX10_readCrop_13 f_X10_31 HM_at0 rfl ?_
  refine A_iload_n dX10_readCrop_16 rfl rfl ?_
  refine A_iconst (v := 0) dX10_readCrop_17 (by decide) ?_
  refine A_iadd dX10_readCrop_18 ?_
  refine A_aload_n dX10_readCrop_19 rfl rfl ?_
  refine A_callVi dX10_readCrop_20 m_X10_182 cb_X10_freshVillage (As := []) rfl HM_at0 rfl (k_freshVillage G hT.2.1) rfl ⟨by decide, by decide⟩ (Nat.le_of_ble_eq_true rfl) ⟨by decide, by decide⟩ (fun x20 h20 hq => ?_)
  obtain ⟨rfl, m1, rfl, hS, hG1⟩ := hq
  rw [hT.2.2] at hG1 ⊢
  refine A_iastMK (i := ((38 + 5 * N) + 0)) dX10_readCrop_23 (by decide) (fun _ => rfl) (ixA rfl rfl) (by omega) (by decide) ?_
  refine A_hide2 (hT.nu (i := ((38 + 5 * N) + 0)) hS hG1) (fun s23 y e23 hT => ?_)
  refine A_aload_n dX10_readCrop_24 rfl rfl ?_
  refine A_get dX10_readCrop_25 f_X10_31 HM_at0 rfl ?_
  refine A_iload_n dX10_readCrop_28 rfl rfl ?_
  refine A_iconst (v := 1) dX10_readCrop_29 (by decide) ?_
  refine A_iadd dX10_readCrop_30 ?_
  refine A_aload_n dX10_readCrop_31 rfl rfl ?_
  refine A_ldcS 21 dX10_readCrop_32 rfl ?_
  refine A_iconst (v := 1) dX10_readCrop_34 (by decide) ?_
  refine A_bipush (v := 99) dX10_readCrop_35 (by decide) ?_
  refine A_callVi dX10_readCrop_37 m_X10_173 cb_X10_told (As := [_, _, _]) rfl HM_at0 rfl (k_told G (j := 21) (by decide) hT.2.1) rfl ⟨by decide, by decide⟩ (Nat.le_of_ble_eq_true rfl) ⟨by decide, by decide⟩ (fun x37 h37 hq => ?_)
  obtain ⟨rfl, m1, rfl, hS, hG1⟩ := hq
  refine A_iastMK (i := ((38 + 5 * N) + 1)) dX10_readCrop_40 (by decide) (fun _ => rfl) (ixA rfl rfl) (by omega) (by decide) ?_
  refine A_hide2 (hT.td (i := ((38 + 5 * N) + 1)) hS hG1) (fun s40 y e40 hT => ?_)
  refine A_aload_n dX10_readCrop_41 rfl rfl ?_
  refine A_get dX10_readCrop_42 f_X10_31 HM_at0 rfl ?_
  refine A_iload_n dX10_readCrop_45 rfl rfl ?_
  refine A_iconst (v := 2) dX10_readCrop_46 (by decide) ?_
  refine A_iadd dX10_readCrop_47 ?_
  refine A_aload_n dX10_readCrop_48 rfl rfl ?_
  refine A_ldcS 22 dX10_readCrop_49 rfl ?_
  refine A_iconst (v := 0) dX10_readCrop_51 (by decide) ?_
  refine A_bipush (v := 99) dX10_readCrop_52 (by decide) ?_
  refine A_callVi dX10_readCrop_54 m_X10_173 cb_X10_told (As := [_, _, _]) rfl HM_at0 rfl (k_told G (j := 22) (by decide) hT.2.1) rfl ⟨by decide, by decide⟩ (Nat.le_of_ble_eq_true rfl) ⟨by decide, by decide⟩ (fun x54 h54 hq => ?_)
  obtain ⟨rfl, m1, rfl, hS, hG1⟩ := hq
  refine A_iastMK (i := ((38 + 5 * N) + 2)) dX10_readCrop_57 (by decide) (fun _ => rfl) (ixA rfl rfl) (by omega) (by decide) ?_
  refine A_hide2 (hT.td (i := ((38 + 5 * N) + 2)) hS hG1) (fun s57 y e57 hT => ?_)
  refine A_aload_n dX10_readCrop_58 rfl rfl ?_
  refine A_get dX10_readCrop_59 f_X10_31 HM_at0 rfl ?_
  refine A_iload_n dX10_readCrop_62 rfl rfl ?_
  refine A_iconst (v := 3) dX10_readCrop_63 (by decide) ?_
  refine A_iadd dX10_readCrop_64 ?_
  refine A_aload_n dX10_readCrop_65 rfl rfl ?_
  refine A_ldcS 23 dX10_readCrop_66 rfl ?_
  refine A_iconst (v := 0) dX10_readCrop_68 (by decide) ?_
  refine A_aload_n dX10_readCrop_69 rfl rfl ?_
  refine A_get dX10_readCrop_70 f_X10_31 HM_at0 rfl ?_
  refine A_iconst (v := 5) dX10_readCrop_73 (by decide) ?_
  refine A_ialdK (i := 5) dX10_readCrop_74 (HM_at (by decide)) rfl (by omega) (by decide) ?_
  rw [hT.2.2]
  refine A_iconst (v := 1) dX10_readCrop_75 (by decide) ?_
  refine A_isub dX10_readCrop_76 ?_
  refine A_callVi dX10_readCrop_77 m_X10_173 cb_X10_told (As := [_, _, _]) rfl HM_at0 rfl (k_told G (j := 23) (by decide) hT.2.1) rfl ⟨by decide, by decide⟩ (Nat.le_of_ble_eq_true rfl) ⟨by decide, by decide⟩ (fun x77 h77 hq => ?_)
  obtain ⟨rfl, m1, rfl, hS, hG1⟩ := hq
  refine A_iastMK (i := ((38 + 5 * N) + 3)) dX10_readCrop_80 (by decide) (fun _ => rfl) (ixA rfl rfl) (by omega) (by decide) ?_
  refine A_hide2 (hT.td (i := ((38 + 5 * N) + 3)) hS hG1) (fun s80 y e80 hT => ?_)
  refine A_aload_n dX10_readCrop_81 rfl rfl ?_
  refine A_get dX10_readCrop_82 f_X10_31 HM_at0 rfl ?_
  refine A_iload_n dX10_readCrop_85 rfl rfl ?_
  refine A_iconst (v := 4) dX10_readCrop_86 (by decide) ?_
  refine A_iadd dX10_readCrop_87 ?_
  refine A_aload_n dX10_readCrop_88 rfl rfl ?_
  refine A_ldcS 24 dX10_readCrop_89 rfl ?_
  refine A_aload_n dX10_readCrop_91 rfl rfl ?_
  refine A_get dX10_readCrop_92 f_X10_31 HM_at0 rfl ?_
  refine A_iload_n dX10_readCrop_95 rfl rfl ?_
  refine A_iconst (v := 3) dX10_readCrop_96 (by decide) ?_
  refine A_iadd dX10_readCrop_97 ?_
  refine A_ialdK (i := ((38 + 5 * N) + 3)) dX10_readCrop_98 (HM_at (by decide)) (ixA rfl rfl) (by omega) (by decide) ?_
  rw [hT.2.2]
  refine A_aload_n dX10_readCrop_99 rfl rfl ?_
  refine A_get dX10_readCrop_100 f_X10_31 HM_at0 rfl ?_
  refine A_iconst (v := 5) dX10_readCrop_103 (by decide) ?_
  refine A_ialdK (i := 5) dX10_readCrop_104 (HM_at (by decide)) rfl (by omega) (by decide) ?_
  rw [hT.2.2]
  refine A_iconst (v := 1) dX10_readCrop_105 (by decide) ?_
  refine A_isub dX10_readCrop_106 ?_
  refine A_callVi dX10_readCrop_107 m_X10_173 cb_X10_told (As := [_, _, _]) rfl HM_at0 rfl (k_told G (j := 24) (by decide) hT.2.1) rfl ⟨by decide, by decide⟩ (Nat.le_of_ble_eq_true rfl) ⟨by decide, by decide⟩ (fun x107 h107 hq => ?_)
  obtain ⟨rfl, m1, rfl, hS, hG1⟩ := hq
  refine A_iastMK (i := ((38 + 5 * N) + 4)) dX10_readCrop_110 (by decide) (fun _ => rfl) (ixA rfl rfl) (by omega) (by decide) ?_
  refine A_hide2 (hT.td (i := ((38 + 5 * N) + 4)) hS hG1) (fun s110 y e110 hT => ?_)
  refine A_aload_n dX10_readCrop_111 rfl rfl ?_
  refine A_get dX10_readCrop_112 f_X10_31 HM_at0 rfl ?_
  refine A_iconst (v := 1) dX10_readCrop_115 (by decide) ?_
  refine A_dup2 dX10_readCrop_116 rfl rfl ?_
  refine A_ialdK (i := 1) dX10_readCrop_117 (HM_at (by decide)) rfl (by omega) (by decide) ?_
  rw [hT.2.2]
  refine A_iconst (v := 1) dX10_readCrop_118 (by decide) ?_
  refine A_iadd dX10_readCrop_119 ?_
  refine A_iastMK (i := 1) dX10_readCrop_120 (by decide) (fun _ => rfl) rfl (by omega) (by decide) ?_
  refine A_hide2 hT.st (fun s120 y e120 hT => ?_)
  exact A_vret dX10_readCrop_121 ⟨_, rfl, by rw [show crS f L N s = s120 by simp only [crS, inS, e23, e40, e57, e80, e110, e120]]; exact hT⟩ ⟨by decide, by decide⟩

theorem k_readFlood (G : GX) {b : Nat} {m0 m : CT} {ml : Nat → Nat → Int64} {r : Nat → Option AE} {n L N : Nat} {f : Nat → Int32} {s : RS} (hT : STr L f m0 s m) (hN : s.2 2 = nI N) (hN2 : N < 3) : MA G 10 yX10_readFlood cX10_readFlood 2 none 0 0 [.ref b] (HM b m ml r n) (qV fun h1 => ∃ m1, h1 = HM b m1 ml r n ∧ STr L f m0 (flS f L N s) m1) := by
  refine MA.of (own := RX10) false [some (.ref b), none] (by decide +kernel) rfl (fun h => by cases h) (Nat.le_of_ble_eq_true rfl) rfl (fun X => ?_)
  refine A_bipush (v := 108) dX10_readFlood_0 (by decide) ?_
  refine A_iconst (v := 3) dX10_readFlood_2 (by decide) ?_
  refine A_aload_n dX10_readFlood_3 rfl rfl ?_
  refine A_get dX10_readFlood_4 f_X10_31 HM_at0 rfl ?_
  refine A_iconst (v := 2) dX10_readFlood_7 (by decide) ?_
  refine A_ialdK (i := 2) dX10_readFlood_8 (HM_at (by decide)) rfl (by omega) (by decide) ?_
  refine A_eqI (y := nI N) (by rw [hT.2.2]; exact hN) ?_
  refine A_imul dX10_readFlood_9 ?_
  refine A_iadd dX10_readFlood_10 ?_
  refine A_eqI (y := nI (108 + 3 * N)) (by rw [show (108 : Int32) = nI 108 from rfl, show (3 : Int32) = nI 3 from rfl, pk_mul, nI_add]) ?_
  refine A_istore_n (lv1 := [_, _]) dX10_readFlood_11 rfl (Nat.le_of_ble_eq_true rfl) rfl rfl ?_
  refine A_aload_n dX10_readFlood_12 rfl rfl ?_
  refine A_get dX10_readFlood_13 f_X10_31 HM_at0 rfl ?_
  refine A_iload_n dX10_readFlood_16 rfl rfl ?_
  refine A_iconst (v := 0) dX10_readFlood_17 (by decide) ?_
  refine A_iadd dX10_readFlood_18 ?_
  refine A_aload_n dX10_readFlood_19 rfl rfl ?_
  refine A_iconst (v := 0) dX10_readFlood_20 (by decide) ?_
  refine A_aload_n dX10_readFlood_21 rfl rfl ?_
  refine A_get dX10_readFlood_22 f_X10_31 HM_at0 rfl ?_
  refine A_iconst (v := 5) dX10_readFlood_25 (by decide) ?_
  refine A_ialdK (i := 5) dX10_readFlood_26 (HM_at (by decide)) rfl (by omega) (by decide) ?_
  rw [hT.2.2]
  refine A_iconst (v := 1) dX10_readFlood_27 (by decide) ?_
  refine A_isub dX10_readFlood_28 ?_
  refine A_callVi dX10_readFlood_29 m_X10_168 cb_X10_number (As := [_, _]) rfl HM_at0 rfl (k_number G hT.2.1) rfl ⟨by decide, by decide⟩ (Nat.le_of_ble_eq_true rfl) ⟨by decide, by decide⟩ (fun x29 h29 hq => ?_)
  obtain ⟨rfl, m1, rfl, hS, hG1⟩ := hq
  refine A_iastMK (i := ((108 + 3 * N) + 0)) dX10_readFlood_32 (by decide) (fun _ => rfl) (ixA rfl rfl) (by omega) (by decide) ?_
  refine A_hide2 (hT.nu (i := ((108 + 3 * N) + 0)) hS hG1) (fun s32 y e32 hT => ?_)
  refine A_aload_n dX10_readFlood_33 rfl rfl ?_
  refine A_get dX10_readFlood_34 f_X10_31 HM_at0 rfl ?_
  refine A_iload_n dX10_readFlood_37 rfl rfl ?_
  refine A_iconst (v := 1) dX10_readFlood_38 (by decide) ?_
  refine A_iadd dX10_readFlood_39 ?_
  refine A_aload_n dX10_readFlood_40 rfl rfl ?_
  refine A_ldcS 22 dX10_readFlood_41 rfl ?_
  refine A_iconst (v := 0) dX10_readFlood_43 (by decide) ?_
  refine A_sipush (v := 9999) dX10_readFlood_44 (by decide) ?_
  refine A_callVi dX10_readFlood_47 m_X10_173 cb_X10_told (As := [_, _, _]) rfl HM_at0 rfl (k_told G (j := 22) (by decide) hT.2.1) rfl ⟨by decide, by decide⟩ (Nat.le_of_ble_eq_true rfl) ⟨by decide, by decide⟩ (fun x47 h47 hq => ?_)
  obtain ⟨rfl, m1, rfl, hS, hG1⟩ := hq
  refine A_iastMK (i := ((108 + 3 * N) + 1)) dX10_readFlood_50 (by decide) (fun _ => rfl) (ixA rfl rfl) (by omega) (by decide) ?_
  refine A_hide2 (hT.td (i := ((108 + 3 * N) + 1)) hS hG1) (fun s50 y e50 hT => ?_)
  refine A_aload_n dX10_readFlood_51 rfl rfl ?_
  refine A_get dX10_readFlood_52 f_X10_31 HM_at0 rfl ?_
  refine A_iload_n dX10_readFlood_55 rfl rfl ?_
  refine A_iconst (v := 2) dX10_readFlood_56 (by decide) ?_
  refine A_iadd dX10_readFlood_57 ?_
  refine A_aload_n dX10_readFlood_58 rfl rfl ?_
  refine A_ldcS 26 dX10_readFlood_59 rfl ?_
  refine A_iconst (v := 0) dX10_readFlood_61 (by decide) ?_
  refine A_bipush (v := 100) dX10_readFlood_62 (by decide) ?_
  refine A_callVi dX10_readFlood_64 m_X10_173 cb_X10_told (As := [_, _, _]) rfl HM_at0 rfl (k_told G (j := 26) (by decide) hT.2.1) rfl ⟨by decide, by decide⟩ (Nat.le_of_ble_eq_true rfl) ⟨by decide, by decide⟩ (fun x64 h64 hq => ?_)
  obtain ⟨rfl, m1, rfl, hS, hG1⟩ := hq
  refine A_iastMK (i := ((108 + 3 * N) + 2)) dX10_readFlood_67 (by decide) (fun _ => rfl) (ixA rfl rfl) (by omega) (by decide) ?_
  refine A_hide2 (hT.td (i := ((108 + 3 * N) + 2)) hS hG1) (fun s67 y e67 hT => ?_)
  refine A_aload_n dX10_readFlood_68 rfl rfl ?_
  refine A_get dX10_readFlood_69 f_X10_31 HM_at0 rfl ?_
  refine A_sipush (v := 157) dX10_readFlood_72 (by decide) ?_
  refine A_aload_n dX10_readFlood_75 rfl rfl ?_
  refine A_get dX10_readFlood_76 f_X10_31 HM_at0 rfl ?_
  refine A_iconst (v := 2) dX10_readFlood_79 (by decide) ?_
  refine A_ialdK (i := 2) dX10_readFlood_80 (HM_at (by decide)) rfl (by omega) (by decide) ?_
  refine A_eqI (y := nI N) (by rw [hT.2.2, ← e67, ← e50, ← e32]; show upd (upd (upd s.2 _ _) _ _) _ _ 2 = nI N; rw [pk_un (by omega), pk_un (by omega), pk_un (by omega)]; exact hN) ?_
  refine A_iadd dX10_readFlood_81 ?_
  refine A_eqI (y := nI (157 + N)) (nI_add 157 N) ?_
  refine A_iconst (v := (-1)) dX10_readFlood_82 (by decide) ?_
  refine A_iastMN dX10_readFlood_83 (by decide) (fun _ => rfl) (by omega) (by decide) ?_
  refine A_hide2 hT.st (fun s83 y e83 hT => ?_)
  refine A_aload_n dX10_readFlood_84 rfl rfl ?_
  refine A_get dX10_readFlood_85 f_X10_31 HM_at0 rfl ?_
  refine A_iconst (v := 2) dX10_readFlood_88 (by decide) ?_
  refine A_dup2 dX10_readFlood_89 rfl rfl ?_
  refine A_ialdK (i := 2) dX10_readFlood_90 (HM_at (by decide)) rfl (by omega) (by decide) ?_
  rw [hT.2.2]
  refine A_iconst (v := 1) dX10_readFlood_91 (by decide) ?_
  refine A_iadd dX10_readFlood_92 ?_
  refine A_iastMK (i := 2) dX10_readFlood_93 (by decide) (fun _ => rfl) rfl (by omega) (by decide) ?_
  refine A_hide2 hT.st (fun s93 y e93 hT => ?_)
  exact A_vret dX10_readFlood_94 ⟨_, rfl, by rw [show flS f L N s = s93 by simp only [flS, inS, e32, e50, e67, e83, e93]]; exact hT⟩ ⟨by decide, by decide⟩

theorem loan_w (G : GX) (X : XC) {b : Nat} {m0 m : CT} {ml : Nat → Nat → Int64} {r : Nat → Option AE} {n L N : Nat} {f : Nat → Int32} {s : RS} {R : RS} {u1 u2 : Nat} (hu : u1 = 0 ∧ u2 = 0) (hT : STr L f m0 (loP f L s, s.2) m) (hN2 : N < 8) (hE : R = loS f L N s) : WA X G RX10 cX10_readLoan false none (qV fun h1 => ∃ m1, h1 = HM b m1 ml r n ∧ STr L f m0 (R) m1) 10 0 0 (HM b m ml r n) u1 u2 51 [some (.ref b), some (.int (nI (117 + 5 * N))), some (.int (loV f L s))] [] := by
  obtain ⟨rfl, rfl⟩ := hu
  refine A_aload_n dX10_readLoan_51 rfl rfl ?_
  refine A_get dX10_readLoan_52 f_X10_31 HM_at0 rfl ?_
  refine A_iload_n dX10_readLoan_55 rfl rfl ?_
  refine A_iconst (v := 0) dX10_readLoan_56 (by decide) ?_
  refine A_iadd dX10_readLoan_57 ?_
  refine A_iload_n dX10_readLoan_58 rfl rfl ?_
  refine A_iastMK (i := ((117 + 5 * N) + 0)) dX10_readLoan_59 (by decide) (fun _ => rfl) (ixA rfl rfl) (by omega) (by decide) ?_
  refine A_hide2 hT.st (fun s59 y e59 hT => ?_)
  refine A_aload_n dX10_readLoan_60 rfl rfl ?_
  refine A_get dX10_readLoan_61 f_X10_31 HM_at0 rfl ?_
  refine A_iload_n dX10_readLoan_64 rfl rfl ?_
  refine A_iconst (v := 1) dX10_readLoan_65 (by decide) ?_
  refine A_iadd dX10_readLoan_66 ?_
  refine A_aload_n dX10_readLoan_67 rfl rfl ?_
  refine A_callVi dX10_readLoan_68 m_X10_182 cb_X10_freshVillage (As := []) rfl HM_at0 rfl (k_freshVillage G hT.2.1) rfl ⟨by decide, by decide⟩ (Nat.le_of_ble_eq_true rfl) ⟨by decide, by decide⟩ (fun x68 h68 hq => ?_)
  obtain ⟨rfl, m1, rfl, hS, hG1⟩ := hq
  rw [hT.2.2] at hG1 ⊢
  refine A_iastMK (i := ((117 + 5 * N) + 1)) dX10_readLoan_71 (by decide) (fun _ => rfl) (ixA rfl rfl) (by omega) (by decide) ?_
  refine A_hide2 (hT.nu (i := ((117 + 5 * N) + 1)) hS hG1) (fun s71 y e71 hT => ?_)
  refine A_aload_n dX10_readLoan_72 rfl rfl ?_
  refine A_get dX10_readLoan_73 f_X10_31 HM_at0 rfl ?_
  refine A_iload_n dX10_readLoan_76 rfl rfl ?_
  refine A_iconst (v := 2) dX10_readLoan_77 (by decide) ?_
  refine A_iadd dX10_readLoan_78 ?_
  refine A_aload_n dX10_readLoan_79 rfl rfl ?_
  refine A_ldcS 27 dX10_readLoan_80 rfl ?_
  refine A_iconst (v := 1) dX10_readLoan_82 (by decide) ?_
  refine A_sipush (v := 9999) dX10_readLoan_83 (by decide) ?_
  refine A_callVi dX10_readLoan_86 m_X10_173 cb_X10_told (As := [_, _, _]) rfl HM_at0 rfl (k_told G (j := 27) (by decide) hT.2.1) rfl ⟨by decide, by decide⟩ (Nat.le_of_ble_eq_true rfl) ⟨by decide, by decide⟩ (fun x86 h86 hq => ?_)
  obtain ⟨rfl, m1, rfl, hS, hG1⟩ := hq
  refine A_iastMK (i := ((117 + 5 * N) + 2)) dX10_readLoan_89 (by decide) (fun _ => rfl) (ixA rfl rfl) (by omega) (by decide) ?_
  refine A_hide2 (hT.td (i := ((117 + 5 * N) + 2)) hS hG1) (fun s89 y e89 hT => ?_)
  refine A_aload_n dX10_readLoan_90 rfl rfl ?_
  refine A_get dX10_readLoan_91 f_X10_31 HM_at0 rfl ?_
  refine A_iload_n dX10_readLoan_94 rfl rfl ?_
  refine A_iconst (v := 3) dX10_readLoan_95 (by decide) ?_
  refine A_iadd dX10_readLoan_96 ?_
  refine A_aload_n dX10_readLoan_97 rfl rfl ?_
  refine A_ldcS 28 dX10_readLoan_98 rfl ?_
  refine A_iconst (v := 0) dX10_readLoan_100 (by decide) ?_
  refine A_aload_n dX10_readLoan_101 rfl rfl ?_
  refine A_get dX10_readLoan_102 f_X10_31 HM_at0 rfl ?_
  refine A_iconst (v := 5) dX10_readLoan_105 (by decide) ?_
  refine A_ialdK (i := 5) dX10_readLoan_106 (HM_at (by decide)) rfl (by omega) (by decide) ?_
  rw [hT.2.2]
  refine A_iconst (v := 1) dX10_readLoan_107 (by decide) ?_
  refine A_isub dX10_readLoan_108 ?_
  refine A_callVi dX10_readLoan_109 m_X10_173 cb_X10_told (As := [_, _, _]) rfl HM_at0 rfl (k_told G (j := 28) (by decide) hT.2.1) rfl ⟨by decide, by decide⟩ (Nat.le_of_ble_eq_true rfl) ⟨by decide, by decide⟩ (fun x109 h109 hq => ?_)
  obtain ⟨rfl, m1, rfl, hS, hG1⟩ := hq
  refine A_iastMK (i := ((117 + 5 * N) + 3)) dX10_readLoan_112 (by decide) (fun _ => rfl) (ixA rfl rfl) (by omega) (by decide) ?_
  refine A_hide2 (hT.td (i := ((117 + 5 * N) + 3)) hS hG1) (fun s112 y e112 hT => ?_)
  refine A_aload_n dX10_readLoan_113 rfl rfl ?_
  refine A_get dX10_readLoan_114 f_X10_31 HM_at0 rfl ?_
  refine A_iload_n dX10_readLoan_117 rfl rfl ?_
  refine A_iconst (v := 4) dX10_readLoan_118 (by decide) ?_
  refine A_iadd dX10_readLoan_119 ?_
  refine A_aload_n dX10_readLoan_120 rfl rfl ?_
  refine A_ldcS 29 dX10_readLoan_121 rfl ?_
  refine A_aload_n dX10_readLoan_123 rfl rfl ?_
  refine A_get dX10_readLoan_124 f_X10_31 HM_at0 rfl ?_
  refine A_iload_n dX10_readLoan_127 rfl rfl ?_
  refine A_iconst (v := 3) dX10_readLoan_128 (by decide) ?_
  refine A_iadd dX10_readLoan_129 ?_
  refine A_ialdK (i := ((117 + 5 * N) + 3)) dX10_readLoan_130 (HM_at (by decide)) (ixA rfl rfl) (by omega) (by decide) ?_
  rw [hT.2.2]
  refine A_iconst (v := 1) dX10_readLoan_131 (by decide) ?_
  refine A_iadd dX10_readLoan_132 ?_
  refine A_aload_n dX10_readLoan_133 rfl rfl ?_
  refine A_get dX10_readLoan_134 f_X10_31 HM_at0 rfl ?_
  refine A_iconst (v := 5) dX10_readLoan_137 (by decide) ?_
  refine A_ialdK (i := 5) dX10_readLoan_138 (HM_at (by decide)) rfl (by omega) (by decide) ?_
  rw [hT.2.2]
  refine A_iconst (v := 1) dX10_readLoan_139 (by decide) ?_
  refine A_isub dX10_readLoan_140 ?_
  refine A_callVi dX10_readLoan_141 m_X10_173 cb_X10_told (As := [_, _, _]) rfl HM_at0 rfl (k_told G (j := 29) (by decide) hT.2.1) rfl ⟨by decide, by decide⟩ (Nat.le_of_ble_eq_true rfl) ⟨by decide, by decide⟩ (fun x141 h141 hq => ?_)
  obtain ⟨rfl, m1, rfl, hS, hG1⟩ := hq
  refine A_iastMK (i := ((117 + 5 * N) + 4)) dX10_readLoan_144 (by decide) (fun _ => rfl) (ixA rfl rfl) (by omega) (by decide) ?_
  refine A_hide2 (hT.td (i := ((117 + 5 * N) + 4)) hS hG1) (fun s144 y e144 hT => ?_)
  refine A_aload_n dX10_readLoan_145 rfl rfl ?_
  refine A_get dX10_readLoan_146 f_X10_31 HM_at0 rfl ?_
  refine A_iconst (v := 3) dX10_readLoan_149 (by decide) ?_
  refine A_dup2 dX10_readLoan_150 rfl rfl ?_
  refine A_ialdK (i := 3) dX10_readLoan_151 (HM_at (by decide)) rfl (by omega) (by decide) ?_
  rw [hT.2.2]
  refine A_iconst (v := 1) dX10_readLoan_152 (by decide) ?_
  refine A_iadd dX10_readLoan_153 ?_
  refine A_iastMK (i := 3) dX10_readLoan_154 (by decide) (fun _ => rfl) rfl (by omega) (by decide) ?_
  refine A_hide2 hT.st (fun s154 y e154 hT => ?_)
  exact A_vret dX10_readLoan_155 ⟨_, rfl, by rw [hE, show loS f L N s = s154 by simp only [loS, inS, e59, e71, e89, e112, e144, e154]]; exact hT⟩ ⟨by decide, by decide⟩
theorem k_readLoan (G : GX) {b : Nat} {m0 m : CT} {ml : Nat → Nat → Int64} {r : Nat → Option AE} {n L N : Nat} {f : Nat → Int32} {s : RS} (hT : STr L f m0 s m) (hN : s.2 3 = nI N) (hN2 : N < 8) : MA G 10 yX10_readLoan cX10_readLoan 3 none 0 0 [.ref b] (HM b m ml r n) (qV fun h1 => ∃ m1, h1 = HM b m1 ml r n ∧ STr L f m0 (loS f L N s) m1) := by
  refine MA.of (own := RX10) false [some (.ref b), none, none] (by decide +kernel) rfl (fun h => by cases h) (Nat.le_of_ble_eq_true rfl) rfl (fun X => ?_)
  refine A_bipush (v := 117) dX10_readLoan_0 (by decide) ?_
  refine A_iconst (v := 5) dX10_readLoan_2 (by decide) ?_
  refine A_aload_n dX10_readLoan_3 rfl rfl ?_
  refine A_get dX10_readLoan_4 f_X10_31 HM_at0 rfl ?_
  refine A_iconst (v := 3) dX10_readLoan_7 (by decide) ?_
  refine A_ialdK (i := 3) dX10_readLoan_8 (HM_at (by decide)) rfl (by omega) (by decide) ?_
  refine A_eqI (y := nI N) (by rw [hT.2.2]; exact hN) ?_
  refine A_imul dX10_readLoan_9 ?_
  refine A_iadd dX10_readLoan_10 ?_
  refine A_eqI (y := nI (117 + 5 * N)) (by rw [show (117 : Int32) = nI 117 from rfl, show (5 : Int32) = nI 5 from rfl, pk_mul, nI_add]) ?_
  refine A_istore_n (lv1 := [_, _, _]) dX10_readLoan_11 rfl (Nat.le_of_ble_eq_true rfl) rfl rfl ?_
  refine A_aload_n dX10_readLoan_12 rfl rfl ?_
  refine A_callVi dX10_readLoan_13 m_X10_182 cb_X10_freshVillage (As := []) rfl HM_at0 rfl (k_freshVillage G hT.2.1) rfl ⟨by decide, by decide⟩ (Nat.le_of_ble_eq_true rfl) ⟨by decide, by decide⟩ (fun x13 h13 hq => ?_)
  obtain ⟨rfl, m1, rfl, hS, hG1⟩ := hq
  rw [hT.2.2] at hG1 ⊢
  refine A_eqI (y := loV f L s) rfl ?_
  refine A_istore_n (lv1 := [_, _, _]) dX10_readLoan_16 rfl (Nat.le_of_ble_eq_true rfl) rfl rfl ?_
  refine A_aload_n dX10_readLoan_17 rfl rfl ?_
  refine A_ldcS 24 dX10_readLoan_18 rfl ?_
  refine A_callVv dX10_readLoan_20 m_X10_164 cb_X10_needs (As := [_]) rfl HM_at0 rfl (k_needs G (j := 24) (by decide) hG1) rfl ⟨by decide, by decide⟩ (Nat.le_of_ble_eq_true rfl) ⟨by decide, by decide⟩ (fun h20 hq => ?_)
  obtain ⟨m2, rfl, hS2, hG2⟩ := hq
  have hG2 : GS L f (loO f L s) m2 := hG2
  have hT3 : STr L f m0 (loO f L s, s.2) m2 := hT.o (SMf.tr hS hS2) hG2
  refine A_aload_n dX10_readLoan_23 rfl rfl ?_
  refine A_callVi dX10_readLoan_24 m_X10_137 cb_X10_good (As := []) rfl HM_at0 rfl (k_good G) rfl ⟨by decide, by decide⟩ (Nat.le_of_ble_eq_true rfl) ⟨by decide, by decide⟩ (fun x24 h24 hq => ?_)
  obtain ⟨rfl, rfl⟩ := hq
  refine A_if_eq 51 dX10_readLoan_27 (by decide) (fun c27 => ?_) (fun c27 => ?_)
  · have bad0 : ¬ (loO f L s).1 = 0 := fun w => by rw [if_pos (hG2.lk w).1] at c27; exact absurd c27 (by decide)
    exact loan_w G X ⟨rfl, rfl⟩ (by rw [loP, if_neg (fun w => bad0 w.1)]; exact hT3) hN2 rfl
  · have q0 : (loO f L s).1 = 0 := by by_cases w : (loO f L s).1 = 0; exact w; exact absurd (if_neg (hG2.bad w)) c27
    obtain ⟨g0, -, hLK⟩ := hG2.lk q0
    have h10 := hLK.2.2.2.2.1
    have h11 := hLK.2.2.2.2.2.2.2
    refine A_aload_n dX10_readLoan_30 rfl rfl ?_
    refine A_get dX10_readLoan_31 f_X10_113 HM_at0 rfl ?_
    refine A_iconst (v := 2) dX10_readLoan_34 (by decide) ?_
    refine A_icmp_ne 51 dX10_readLoan_35 (by decide) (fun c35 => ?_) (fun c35 => ?_)
    · exact loan_w G X ⟨rfl, rfl⟩ (by rw [loP, if_neg (fun w => c35 (h10.trans w.2.1))]; exact hT3) hN2 rfl
    · refine A_aload_n dX10_readLoan_38 rfl rfl ?_
      refine A_get dX10_readLoan_39 f_X10_124 HM_at0 rfl ?_
      refine A_iload_n dX10_readLoan_42 rfl rfl ?_
      refine A_icmp_ne 51 dX10_readLoan_43 (by decide) (fun c43 => ?_) (fun c43 => ?_)
      · exact loan_w G X ⟨rfl, rfl⟩ (by rw [loP, if_neg (fun w => c43 ((h11 w.2.1).trans w.2.2))]; exact hT3) hN2 rfl
      · have q1 := h10.symm.trans c35
        have q2 := (h11 q1).symm.trans c43
        refine A_aload_n dX10_readLoan_46 rfl rfl ?_
        refine A_iconst (v := 2) dX10_readLoan_47 (by decide) ?_
        refine A_callVv dX10_readLoan_48 m_X10_160 cb_X10_errs (As := [_]) rfl HM_at0 rfl (k_errs G) rfl ⟨by decide, by decide⟩ (Nat.le_of_ble_eq_true rfl) ⟨by decide, by decide⟩ (fun h48 hq => ?_)
        obtain rfl := hq
        exact loan_w G X ⟨rfl, rfl⟩ (by rw [loP, if_pos ⟨q0, q1, q2⟩]; exact hT3.o erM_s (er_G (by decide) hG2.1 g0 hLK)) hN2 rfl
