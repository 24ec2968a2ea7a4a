/-! THE REFERENCE'S YEAR: what each step does -/
def takeM (fl : Nat) (w : Int32) (i : Nat) (m : CT) : CT :=
  if m 1 (108 + 3 * i + 0) = w then if tnM fl m i = -1 then m else
    let m1 := put m 9 (3 * i + 0) (mn (m 1 (108 + 3 * i + 1)) (roomM m (tcl (tnM fl m i))))
    let m2 := put m1 9 (3 * i + 1) (owedM m1 (m1 9 (3 * i + 0)))
    put m2 7 (tcl (tnM fl m i)) (m2 7 (tcl (tnM fl m i)) + m2 9 (3 * i + 0))
  else m
def lendN (m : CT) (i : Nat) : Int32 := mn (m 1 (117 + 5 * i + 2)) (mn (m 7 (tcl (m 1 (117 + 5 * i + 0)))) (roomM m (tcl (m 1 (117 + 5 * i + 1)))))
def lendM (w : Int32) (i : Nat) (m : CT) : CT :=
  if m 1 (117 + 5 * i + 3) = w then if m 1 (117 + 5 * i + 0) = m 0 25 then m else
    let m1 := put m 10 (3 * i + 0) (lendN m i)
    let m2 := put m1 10 (3 * i + 1) (owedM m1 (lendN m i))
    let m3 := put m2 7 (tcl (m 1 (117 + 5 * i + 0))) (m2 7 (tcl (m 1 (117 + 5 * i + 0))) - lendN m i)
    put m3 7 (tcl (m 1 (117 + 5 * i + 1))) (m3 7 (tcl (m 1 (117 + 5 * i + 1))) + lendN m i)
  else m
def repayN (m : CT) (i : Nat) : Int32 := mn (m 10 (3 * i + 1)) (mn (m 7 (tcl (m 1 (117 + 5 * i + 1)))) (roomM m (tcl (m 1 (117 + 5 * i + 0)))))
def repayM (w : Int32) (i : Nat) (m : CT) : CT :=
  if m 1 (117 + 5 * i + 4) = w then
    let m1 := put m 10 (3 * i + 2) (repayN m i)
    let m2 := put m1 7 (tcl (m 1 (117 + 5 * i + 1))) (m1 7 (tcl (m 1 (117 + 5 * i + 1))) - repayN m i)
    let m3 := put m2 7 (tcl (m 1 (117 + 5 * i + 0))) (m2 7 (tcl (m 1 (117 + 5 * i + 0))) + repayN m i)
    if m3 10 (3 * i + 1) ≤ repayN m i then m3 else wrongM w m3
  else m
def giveN (fl : Nat) (m : CT) (i : Nat) : Int32 := mn (m 9 (3 * i + 1)) (m 7 (tcl (tnM fl m i)))
def giveM (fl : Nat) (w : Int32) (i : Nat) (m : CT) : CT :=
  if tnM fl m i = -1 then m else if w < m 1 (108 + 3 * i + 0) then m else
    let m1 := put m 9 (3 * i + 2) (giveN fl m i)
    let m2 := put m1 7 (tcl (tnM fl m i)) (m1 7 (tcl (tnM fl m i)) - giveN fl m i)
    if m2 9 (3 * i + 1) ≤ giveN fl m i then m2 else wrongM w m2
def fdM (w x : Int32) : Int32 := if x = -1 then w else x
def dryM (w : Int32) (i : Nat) (m : CT) : CT :=
  let m1 := put m 11 (3 * i + 1) (m 11 (3 * i + 1) + 1)
  let m2 := put m1 11 (3 * i + 2) (fdM w (m1 11 (3 * i + 2)))
  wrongM w m2
def drinkM (w : Int32) (i : Nat) (m : CT) : CT :=
  if inL w.toInt64 (m 1 (38 + 5 * i + 3)).toInt64 (m 1 (38 + 5 * i + 4)).toInt64 = 0 then m else
    if m 7 (tcl (m 1 (38 + 5 * i + 0))) < m 1 (38 + 5 * i + 1) then dryM w i m else
      let m1 := put m 7 (tcl (m 1 (38 + 5 * i + 0))) (m 7 (tcl (m 1 (38 + 5 * i + 0))) - m 1 (38 + 5 * i + 1))
      let m2 := put m1 0 22 (m1 0 22 + m 1 (38 + 5 * i + 1))
      put m2 11 (3 * i + 0) (m2 11 (3 * i + 0) + m2 1 (38 + 5 * i + 2))
def skyN (s : Int32) (m : CT) (i : Nat) : Int32 := mn (m 7 i) (m 1 (8 + 5 * i + 2) * s / 100)
def skyM (s : Int32) (i : Nat) (m : CT) : CT :=
  let m1 := put m 7 i (m 7 i - skyN s m i)
  put m1 0 20 (m1 0 20 + skyN s m i)
def lostN (m : CT) (i : Nat) : Int32 := mn (m 7 i) (m 1 (8 + 5 * i + 3))
def seepM (N i : Nat) (m : CT) : CT :=
  let m1 := put m 7 i (m 7 i - lostN m i)
  if i + 1 = N then put m1 0 21 (m1 0 21 + (lostN m i - 0)) else
    let m2 := if mn (lostN m i) (roomM m1 (i + 1)) ≤ 0 then m1 else put m1 7 (i + 1) (m1 7 (i + 1) + mn (lostN m i) (roomM m1 (i + 1)))
    put m2 0 21 (m2 0 21 + (lostN m i - mn (lostN m i) (roomM m1 (i + 1))))
def seepQ (N : Nat) : Nat → CT → CT
  | 0, m => m
  | i + 1, m => seepQ N i (seepM N i m)
def wbM (w i : Nat) (m : CT) : CT := put m 8 (30 * i + w) (m 7 i)
def takeB (fl : Nat) (w : Int32) (m : CT) : CT := forR (takeM fl w) 0 (tcl (m 1 2)) m
def lendB (w : Int32) (m : CT) : CT := forR (lendM w) 0 (tcl (m 1 3)) m
def repayB (w : Int32) (m : CT) : CT := forR (repayM w) 0 (tcl (m 1 3)) m
def giveB (fl : Nat) (w : Int32) (m : CT) : CT := forR (giveM fl w) 0 (tcl (m 1 2)) m
def dueB (fl : Nat) (w : Int32) (m : CT) : CT := if w = m 1 7 then giveB fl w (repayB w m) else repayB w m
def drinkB (w : Int32) (m : CT) : CT := forR (drinkM w) 0 (tcl (m 1 1)) m
def skyB (w : Nat) (m : CT) : CT := forR (skyM (m 1 (78 + w))) 0 (tcl (m 1 0)) m
def seepB (m : CT) : CT := seepQ (tcl (m 1 0)) (tcl (m 1 0)) m
def wbB (w : Nat) (m : CT) : CT := forR (wbM w) 0 (tcl (m 1 0)) m
def weekM (fl w : Nat) (m : CT) : CT := wbB w (seepB (skyB w (drinkB (nI w) (dueB fl (nI w) (lendB (nI w) (takeB fl (nI w) m))))))
def begM (fl : Nat) (m : CT) : CT := put (put (put (put (st1 (st1 (st1 (st1 (put m 0 24 (nI fl)) 7 (fun j => if j < tcl (m 1 0) then m 1 (8 + 5 * j + 1) else m 7 j)) 9 (fun _ => 0)) 10 (fun _ => 0)) 11 (fun j => if j % 3 = 2 then -1 else 0)) 0 20 0) 0 21 0) 0 22 0) 0 23 (-1)
def runM (fl : Nat) (m : CT) : CT := forR (weekM fl) 0 (tcl (m 1 5)) (begM fl m)
/-- what the YEAR's steps leave as it is -/
def sameM (m m' : CT) : Prop := (∀ l, l ≠ 0 → l < 7 ∨ 12 ≤ l → m' l = m l) ∧ ∀ j, j < 20 ∨ 24 ≤ j → m' 0 j = m 0 j
theorem sameM.rf {m : CT} : sameM m m := ⟨fun _ _ _ => rfl, fun _ _ => rfl⟩
theorem sameM.tr {a b c : CT} (h : sameM a b) (h2 : sameM b c) : sameM a c := ⟨fun l x y => (h2.1 l x y).trans (h.1 l x y), fun j x => (h2.2 j x).trans (h.2 j x)⟩
theorem sameM.pu {a c : CT} {k i : Nat} {v : Int32} (h : sameM a c) (hk : 7 ≤ k ∧ k < 12) : sameM a (put c k i v) := h.tr ⟨fun l _ z => put_ne (by omega), fun j _ => by rw [put_ne (by omega)]⟩
theorem sameM.p0 {a c : CT} {i : Nat} {v : Int32} (h : sameM a c) (hi : 20 ≤ i ∧ i < 24) : sameM a (put c 0 i v) := h.tr ⟨fun l z _ => put_ne z, fun j z => put_no (by omega)⟩
theorem sameM.w {m m' : CT} (h : sameM m m') : m' 1 = m 1 := h.1 1 (by decide) (by decide)
theorem sameM.IM {m m' : CT} {nv nc nf nl wk : Nat} (e : sameM m m') (h : IM m nv nc nf nl wk) : IM m' nv nc nf nl wk := h.to e.w
theorem sameM.TM {m m' : CT} {nv nf : Nat} (e : sameM m m') (h : TM m nv nf) : TM m' nv nf := h.to e.w
theorem sameM.fl {m m' : CT} {f : Int32} (e : sameM m m') (h : m 0 24 = f) : m' 0 24 = f := (e.2 24 (by decide)).trans h
theorem wrongM_s {w : Int32} {m : CT} : sameM m (wrongM w m) := by
  unfold wrongM; split
  · exact sameM.rf.p0 (by decide)
  · exact sameM.rf
theorem takeM_s {fl : Nat} {w : Int32} {i : Nat} {m : CT} : sameM m (takeM fl w i m) := by
  unfold takeM; split
  · split
    · exact sameM.rf
    · exact ((sameM.rf.pu (by decide)).pu (by decide)).pu (by decide)
  · exact sameM.rf
theorem lendM_s {w : Int32} {i : Nat} {m : CT} : sameM m (lendM w i m) := by
  unfold lendM; split
  · split
    · exact sameM.rf
    · exact (((sameM.rf.pu (by decide)).pu (by decide)).pu (by decide)).pu (by decide)
  · exact sameM.rf
theorem repayM_s {w : Int32} {i : Nat} {m : CT} : sameM m (repayM w i m) := by
  unfold repayM; split
  · dsimp only
    split
    · exact ((sameM.rf.pu (by decide)).pu (by decide)).pu (by decide)
    · exact (((sameM.rf.pu (by decide)).pu (by decide)).pu (by decide)).tr wrongM_s
  · exact sameM.rf
theorem giveM_s {fl : Nat} {w : Int32} {i : Nat} {m : CT} : sameM m (giveM fl w i m) := by
  unfold giveM; split
  · exact sameM.rf
  · split
    · exact sameM.rf
    · dsimp only
      split
      · exact (sameM.rf.pu (by decide)).pu (by decide)
      · exact ((sameM.rf.pu (by decide)).pu (by decide)).tr wrongM_s
theorem dryM_s {w : Int32} {i : Nat} {m : CT} : sameM m (dryM w i m) := ((sameM.rf.pu (by decide)).pu (by decide)).tr wrongM_s
theorem drinkM_s {w : Int32} {i : Nat} {m : CT} : sameM m (drinkM w i m) := by
  unfold drinkM; split
  · exact sameM.rf
  · split
    · exact dryM_s
    · exact ((sameM.rf.pu (by decide)).p0 (by decide)).pu (by decide)
theorem skyM_s {s : Int32} {i : Nat} {m : CT} : sameM m (skyM s i m) := (sameM.rf.pu (by decide)).p0 (by decide)
theorem seepM_s {N i : Nat} {m : CT} : sameM m (seepM N i m) := by
  unfold seepM; dsimp only; split
  · exact (sameM.rf.pu (by decide)).p0 (by decide)
  · split
    · exact (sameM.rf.pu (by decide)).p0 (by decide)
    · exact ((sameM.rf.pu (by decide)).pu (by decide)).p0 (by decide)
theorem wbM_s {w i : Nat} {m : CT} : sameM m (wbM w i m) := sameM.rf.pu (by decide)
theorem forR_s {f : Nat → CT → CT} (h : ∀ i c, sameM c (f i c)) {i k : Nat} {c : CT} : sameM c (forR f i k c) := forR_keep (fun z => sameM c z) (fun i z hz => hz.tr (h i z)) k i c sameM.rf
theorem seepQ_s {N : Nat} : ∀ {k : Nat} {c : CT}, sameM c (seepQ N k c)
  | 0, _ => sameM.rf
  | k + 1, c => (seepM_s (N := N) (i := k) (m := c)).tr seepQ_s
theorem takeB_s {fl : Nat} {w : Int32} {m : CT} : sameM m (takeB fl w m) := forR_s (fun _ _ => takeM_s)
theorem lendB_s {w : Int32} {m : CT} : sameM m (lendB w m) := forR_s (fun _ _ => lendM_s)
theorem repayB_s {w : Int32} {m : CT} : sameM m (repayB w m) := forR_s (fun _ _ => repayM_s)
theorem giveB_s {fl : Nat} {w : Int32} {m : CT} : sameM m (giveB fl w m) := forR_s (fun _ _ => giveM_s)
theorem dueB_s {fl : Nat} {w : Int32} {m : CT} : sameM m (dueB fl w m) := by
  unfold dueB; split
  · exact repayB_s.tr giveB_s
  · exact repayB_s
theorem drinkB_s {w : Int32} {m : CT} : sameM m (drinkB w m) := forR_s (fun _ _ => drinkM_s)
theorem skyB_s {w : Nat} {m : CT} : sameM m (skyB w m) := forR_s (fun _ _ => skyM_s)
theorem seepB_s {m : CT} : sameM m (seepB m) := seepQ_s
theorem wbB_s {w : Nat} {m : CT} : sameM m (wbB w m) := forR_s (fun _ _ => wbM_s)
theorem weekM_s {fl w : Nat} {m : CT} : sameM m (weekM fl w m) := (((((takeB_s (fl := fl) (w := nI w)).tr (lendB_s (w := nI w))).tr (dueB_s (fl := fl) (w := nI w))).tr (drinkB_s (w := nI w))).tr skyB_s).tr (seepB_s.tr wbB_s)
theorem TM.tn {m : CT} {nv nf fl i : Nat} (h : TM m nv nf) (hi : i < nf) (z : ¬ tnM fl m i = -1) : vp_in (tnM fl m i) nv := by
  unfold tnM at *
  split
  · next q => rw [if_pos q] at z; exact h i hi z
  · next q => rw [if_neg q] at z; exact absurd rfl z
/-- a row of the reference's world -/
theorem WA_rowM {X : XC} {G : GX} {own : String} {cc : ByteArray} {ini : Bool} {ret : Option FieldType} {Qp : Option Value → AH → Prop} {d mc ms : Nat} {uc us pc : Nat} {lv : List (Option Value)} {st : List Value} {b : Nat} {c : CT} {co : Nat → Nat → Int64} {r : Nat → Option AE} {n k len : Nat} (F : Nat → Int32) (hk : k < 21) (hm : ∀ f, mkM b k f (co k) = aI len f) (hF : ∀ i, i < len → c k i = F i) (kk : WA X G own cc ini ret Qp d mc ms (HM b (st1 c k F) co r n) uc us pc lv st) : WA X G own cc ini ret Qp d mc ms (HM b c co r n) uc us pc lv st := by
  refine WA_aI (a := b + k) (k := 0) (n := len) (f := c k) (g := F) ((HM_at hk).trans (congrArg some (hm _))) hF (WA_h (HM_up hk (hm F)) kk)
theorem k_floodsIn (G : GX) {b : Nat} {m : CT} {ml : Nat → Nat → Int64} {r : Nat → Option AE} {n : Nat} {nv nc nf nl wk : Nat} {fl : Nat} {w : Int32} (hI : IM m nv nc nf nl wk) (hT : TM m nv nf) (hco : m 0 24 = nI fl) (hfl : fl < 8) : MA G 2 yX10_floodsIn cX10_floodsIn 4 none 0 0 [.ref b, .int w] (HM b m ml r n) (qV fun h1 => h1 = HM b (takeB fl w m) ml r n) := by
  refine MA.of (own := RX10) false [some (.ref b), some (.int w), none, none] (by decide +kernel) rfl (fun h => by cases h) (Nat.le_of_ble_eq_true rfl) rfl (fun X => ?_)
  obtain ⟨T, hTe⟩ : ∃ T, T = takeB fl w m := ⟨_, rfl⟩
  rw [← hTe]
  have loop : ∀ (k i : Nat) (m : CT), i + k = nf → (IM m nv nc nf nl wk ∧ TM m nv nf ∧ m 0 24 = nI fl) → forR (takeM fl w) i k m = T → WA X G RX10 cX10_floodsIn false none (qV fun h1 => h1 = HM b T ml r n) 2 0 0 (HM b m ml r n) 0 0 2 [some (.ref b), some (.int w), some (.int (nI i)), none] [] := by
    intro k
    induction k with
    | zero =>
      intro i m hk hI hT
      obtain ⟨hv, hv6, hc, hc8, hf, hf3, hl, hl8, hw, hw30, gC, gL⟩ := id hI.1
      refine A_iload_n dX10_floodsIn_2 rfl rfl ?_
      refine A_aload_n dX10_floodsIn_3 rfl rfl ?_
      refine A_get dX10_floodsIn_4 f_X10_9 HM_at0 rfl ?_
      refine A_iconst (v := 2) dX10_floodsIn_7 (by decide) ?_
      refine A_ialdK (i := 2) dX10_floodsIn_8 (HM_at (by decide)) rfl (by omega) (by decide) ?_
      refine A_icmp_ge 109 dX10_floodsIn_9 (by decide) (fun c9 => ?_) (fun c9 => ?_)
      · exact A_vret dX10_floodsIn_109 (congrArg (fun z => HM b z ml r n) hT) ⟨by decide, by decide⟩
      · exact absurd (by rw [hf]; exact nI_le (by omega) (by omega)) c9
    | succ k ih =>
      intro i m hk hI hT
      obtain ⟨hv, hv6, hc, hc8, hf, hf3, hl, hl8, hw, hw30, gC, gL⟩ := id hI.1
      have hi : i < nf := by omega
      refine A_iload_n dX10_floodsIn_2 rfl rfl ?_
      refine A_aload_n dX10_floodsIn_3 rfl rfl ?_
      refine A_get dX10_floodsIn_4 f_X10_9 HM_at0 rfl ?_
      refine A_iconst (v := 2) dX10_floodsIn_7 (by decide) ?_
      refine A_ialdK (i := 2) dX10_floodsIn_8 (HM_at (by decide)) rfl (by omega) (by decide) ?_
      refine A_icmp_ge 109 dX10_floodsIn_9 (by decide) (fun c9 => ?_) (fun c9 => ?_)
      · exact absurd c9 (by rw [hf]; exact nI_ge (by omega) (by omega))
      · refine A_aload_n dX10_floodsIn_12 rfl rfl ?_
        refine A_iload_n dX10_floodsIn_13 rfl rfl ?_
        refine A_callVi dX10_floodsIn_14 m_X10_249 cb_X10_takerNow (As := [_]) rfl HM_at0 rfl (k_takerNow G hI.2.2 hfl (by omega)) rfl ⟨by decide, by decide⟩ (Nat.le_of_ble_eq_true rfl) ⟨by decide, by decide⟩ (fun x14 h14 hq => ?_)
        obtain ⟨rfl, rfl⟩ := hq
        refine A_istore_n (lv1 := [_, _, _, _]) dX10_floodsIn_17 rfl (Nat.le_of_ble_eq_true rfl) rfl rfl ?_
        refine A_aload_n dX10_floodsIn_18 rfl rfl ?_
        refine A_iload_n dX10_floodsIn_19 rfl rfl ?_
        refine A_iconst (v := 0) dX10_floodsIn_20 (by decide) ?_
        refine A_callVi dX10_floodsIn_21 m_X10_252 cb_X10_ofFlood (As := [_, _]) rfl HM_at0 rfl (k_ofFlood G 0 (by omega) (by decide)) rfl ⟨by decide, by decide⟩ (Nat.le_of_ble_eq_true rfl) ⟨by decide, by decide⟩ (fun x21 h21 hq => ?_)
        obtain ⟨rfl, rfl⟩ := hq
        refine A_iload_n dX10_floodsIn_24 rfl rfl ?_
        refine A_icmp_ne 103 dX10_floodsIn_25 (by decide) (fun c25 => ?_) (fun c25 => ?_)
        · refine A_inc 1 (lv1 := [_, _, _, _]) dX10_floodsIn_103 rfl (by decide) rfl rfl ?_
          refine A_goto 2 dX10_floodsIn_106 (by decide) ?_
          refine A_fg 3 (lv1 := [_, _, _, _]) rfl ?_
          rw [nI_1]
          refine WA_h (congrArg (fun z => HM b z ml r n) (Eq.symm (?_ : takeM fl w i m = _))) (ih (i + 1) (takeM fl w i m) (by omega) (⟨takeM_s.IM hI.1, takeM_s.TM hI.2.1, takeM_s.fl hI.2.2⟩) hT)
          rw [takeM]
          exact if_neg c25
        · refine A_iload_n dX10_floodsIn_28 rfl rfl ?_
          refine A_iconst (v := (-1)) dX10_floodsIn_29 (by decide) ?_
          refine A_icmp_ne 36 dX10_floodsIn_30 (by decide) (fun c30 => ?_) (fun c30 => ?_)
          · refine A_aload_n dX10_floodsIn_36 rfl rfl ?_
            refine A_get dX10_floodsIn_37 f_X10_40 HM_at0 rfl ?_
            refine A_iconst (v := 3) dX10_floodsIn_40 (by decide) ?_
            refine A_iload_n dX10_floodsIn_41 rfl rfl ?_
            refine A_imul dX10_floodsIn_42 ?_
            refine A_iconst (v := 0) dX10_floodsIn_43 (by decide) ?_
            refine A_iadd dX10_floodsIn_44 ?_
            refine A_aload_n dX10_floodsIn_45 rfl rfl ?_
            refine A_iload_n dX10_floodsIn_46 rfl rfl ?_
            refine A_iconst (v := 1) dX10_floodsIn_47 (by decide) ?_
            refine A_callVi dX10_floodsIn_48 m_X10_252 cb_X10_ofFlood (As := [_, _]) rfl HM_at0 rfl (k_ofFlood G 1 (by omega) (by decide)) rfl ⟨by decide, by decide⟩ (Nat.le_of_ble_eq_true rfl) ⟨by decide, by decide⟩ (fun x48 h48 hq => ?_)
            obtain ⟨rfl, rfl⟩ := hq
            refine A_aload_n dX10_floodsIn_51 rfl rfl ?_
            refine A_iload_n dX10_floodsIn_52 rfl rfl ?_
            refine A_callVi dX10_floodsIn_53 m_X10_255 cb_X10_room (As := [_]) rfl HM_at0 rfl (k_room G (vp_mono (hI.2.1.tn hi c30) hv6)) rfl ⟨by decide, by decide⟩ (Nat.le_of_ble_eq_true rfl) ⟨by decide, by decide⟩ (fun x53 h53 hq => ?_)
            obtain ⟨rfl, rfl⟩ := hq
            refine A_min dX10_floodsIn_56 w_1328 (by decide) (Nat.le_of_ble_eq_true rfl) ⟨by decide, by decide⟩ ?_
            refine A_iastMK (i := ((3 * i) + 0)) dX10_floodsIn_59 (by decide) (fun _ => rfl) (ixA (ixU rfl rfl) rfl) (by omega) (by decide) ?_
            refine A_aload_n dX10_floodsIn_60 rfl rfl ?_
            refine A_get dX10_floodsIn_61 f_X10_40 HM_at0 rfl ?_
            refine A_iconst (v := 3) dX10_floodsIn_64 (by decide) ?_
            refine A_iload_n dX10_floodsIn_65 rfl rfl ?_
            refine A_imul dX10_floodsIn_66 ?_
            refine A_iconst (v := 1) dX10_floodsIn_67 (by decide) ?_
            refine A_iadd dX10_floodsIn_68 ?_
            refine A_aload_n dX10_floodsIn_69 rfl rfl ?_
            refine A_aload_n dX10_floodsIn_70 rfl rfl ?_
            refine A_get dX10_floodsIn_71 f_X10_40 HM_at0 rfl ?_
            refine A_iconst (v := 3) dX10_floodsIn_74 (by decide) ?_
            refine A_iload_n dX10_floodsIn_75 rfl rfl ?_
            refine A_imul dX10_floodsIn_76 ?_
            refine A_iconst (v := 0) dX10_floodsIn_77 (by decide) ?_
            refine A_iadd dX10_floodsIn_78 ?_
            refine A_ialdK (i := ((3 * i) + 0)) dX10_floodsIn_79 (HM_at (by decide)) (ixA (ixU rfl rfl) rfl) (by omega) (by decide) ?_
            refine A_callVi dX10_floodsIn_80 m_X10_258 cb_X10_owed (As := [_]) rfl HM_at0 rfl (k_owed G) rfl ⟨by decide, by decide⟩ (Nat.le_of_ble_eq_true rfl) ⟨by decide, by decide⟩ (fun x80 h80 hq => ?_)
            obtain ⟨rfl, rfl⟩ := hq
            refine A_iastMK (i := ((3 * i) + 1)) dX10_floodsIn_83 (by decide) (fun _ => rfl) (ixA (ixU rfl rfl) rfl) (by omega) (by decide) ?_
            refine A_aload_n dX10_floodsIn_84 rfl rfl ?_
            refine A_get dX10_floodsIn_85 f_X10_34 HM_at0 rfl ?_
            refine A_iload_n dX10_floodsIn_88 rfl rfl ?_
            refine A_dup2 dX10_floodsIn_89 rfl rfl ?_
            refine A_iald dX10_floodsIn_90 (HM_at (by decide)) (vp_mono (hI.2.1.tn hi c30) hv6) ?_
            refine A_aload_n dX10_floodsIn_91 rfl rfl ?_
            refine A_get dX10_floodsIn_92 f_X10_40 HM_at0 rfl ?_
            refine A_iconst (v := 3) dX10_floodsIn_95 (by decide) ?_
            refine A_iload_n dX10_floodsIn_96 rfl rfl ?_
            refine A_imul dX10_floodsIn_97 ?_
            refine A_iconst (v := 0) dX10_floodsIn_98 (by decide) ?_
            refine A_iadd dX10_floodsIn_99 ?_
            refine A_ialdK (i := ((3 * i) + 0)) dX10_floodsIn_100 (HM_at (by decide)) (ixA (ixU rfl rfl) rfl) (by omega) (by decide) ?_
            refine A_iadd dX10_floodsIn_101 ?_
            refine A_iastM dX10_floodsIn_102 (by decide) (fun _ => rfl) (vp_mono (hI.2.1.tn hi c30) hv6) ?_
            refine A_inc 1 (lv1 := [_, _, _, _]) dX10_floodsIn_103 rfl (by decide) rfl rfl ?_
            refine A_goto 2 dX10_floodsIn_106 (by decide) ?_
            refine A_fg 3 (lv1 := [_, _, _, _]) rfl ?_
            rw [nI_1]
            refine WA_h (congrArg (fun z => HM b z ml r n) (Eq.symm (?_ : takeM fl w i m = _))) (ih (i + 1) (takeM fl w i m) (by omega) (⟨takeM_s.IM hI.1, takeM_s.TM hI.2.1, takeM_s.fl hI.2.2⟩) hT)
            rw [takeM, if_pos c25]
            exact if_neg c30
          · refine A_goto 103 dX10_floodsIn_33 (by decide) ?_
            refine A_inc 1 (lv1 := [_, _, _, _]) dX10_floodsIn_103 rfl (by decide) rfl rfl ?_
            refine A_goto 2 dX10_floodsIn_106 (by decide) ?_
            refine A_fg 3 (lv1 := [_, _, _, _]) rfl ?_
            rw [nI_1]
            refine WA_h (congrArg (fun z => HM b z ml r n) (Eq.symm (?_ : takeM fl w i m = _))) (ih (i + 1) (takeM fl w i m) (by omega) (⟨takeM_s.IM hI.1, takeM_s.TM hI.2.1, takeM_s.fl hI.2.2⟩) hT)
            rw [takeM, if_pos c25]
            exact if_pos c30
  refine A_iconst (v := 0) dX10_floodsIn_0 (by decide) ?_
  refine A_istore_n (lv1 := [_, _, _, _]) dX10_floodsIn_1 rfl (Nat.le_of_ble_eq_true rfl) rfl rfl ?_
  have hf3 := hI.2.2.2.2.2.1
  refine loop nf 0 m (by omega) ⟨hI, hT, hco⟩ (by rw [hTe]; rw [takeB, hI.2.2.2.2.1, tcl_nI (by omega)])

theorem k_loansIn (G : GX) {b : Nat} {m : CT} {ml : Nat → Nat → Int64} {r : Nat → Option AE} {n : Nat} {nv nc nf nl wk : Nat} {w : Int32} (hI : IM m nv nc nf nl wk) : MA G 2 yX10_loansIn cX10_loansIn 6 none 0 0 [.ref b, .int w] (HM b m ml r n) (qV fun h1 => h1 = HM b (lendB w m) ml r n) := by
  refine MA.of (own := RX10) false [some (.ref b), some (.int w), none, none, none, none] (by decide +kernel) rfl (fun h => by cases h) (Nat.le_of_ble_eq_true rfl) rfl (fun X => ?_)
  obtain ⟨T, hTe⟩ : ∃ T, T = lendB w m := ⟨_, rfl⟩
  rw [← hTe]
  have loop : ∀ (k i : Nat) (m : CT), i + k = nl → IM m nv nc nf nl wk → forR (lendM w) i k m = T → WA X G RX10 cX10_loansIn false none (qV fun h1 => h1 = HM b T ml r n) 2 0 0 (HM b m ml r n) 0 0 2 [some (.ref b), some (.int w), some (.int (nI i)), none, none, none] [] := by
    intro k
    induction k with
    | zero =>
      intro i m hk hI hT
      obtain ⟨hv, hv6, hc, hc8, hf, hf3, hl, hl8, hw, hw30, gC, gL⟩ := id hI
      refine A_iload_n dX10_loansIn_2 rfl rfl ?_
      refine A_aload_n dX10_loansIn_3 rfl rfl ?_
      refine A_get dX10_loansIn_4 f_X10_9 HM_at0 rfl ?_
      refine A_iconst (v := 3) dX10_loansIn_7 (by decide) ?_
      refine A_ialdK (i := 3) dX10_loansIn_8 (HM_at (by decide)) rfl (by omega) (by decide) ?_
      refine A_icmp_ge 131 dX10_loansIn_9 (by decide) (fun c9 => ?_) (fun c9 => ?_)
      · exact A_vret dX10_loansIn_131 (congrArg (fun z => HM b z ml r n) hT) ⟨by decide, by decide⟩
      · exact absurd (by rw [hl]; exact nI_le (by omega) (by omega)) c9
    | succ k ih =>
      intro i m hk hI hT
      obtain ⟨hv, hv6, hc, hc8, hf, hf3, hl, hl8, hw, hw30, gC, gL⟩ := id hI
      have hi : i < nl := by omega
      refine A_iload_n dX10_loansIn_2 rfl rfl ?_
      refine A_aload_n dX10_loansIn_3 rfl rfl ?_
      refine A_get dX10_loansIn_4 f_X10_9 HM_at0 rfl ?_
      refine A_iconst (v := 3) dX10_loansIn_7 (by decide) ?_
      refine A_ialdK (i := 3) dX10_loansIn_8 (HM_at (by decide)) rfl (by omega) (by decide) ?_
      refine A_icmp_ge 131 dX10_loansIn_9 (by decide) (fun c9 => ?_) (fun c9 => ?_)
      · exact absurd c9 (by rw [hl]; exact nI_ge (by omega) (by omega))
      · refine A_aload_n dX10_loansIn_12 rfl rfl ?_
        refine A_iload_n dX10_loansIn_13 rfl rfl ?_
        refine A_iconst (v := 0) dX10_loansIn_14 (by decide) ?_
        refine A_callVi dX10_loansIn_15 m_X10_261 cb_X10_ofLoan (As := [_, _]) rfl HM_at0 rfl (k_ofLoan G 0 (by omega) (by decide)) rfl ⟨by decide, by decide⟩ (Nat.le_of_ble_eq_true rfl) ⟨by decide, by decide⟩ (fun x15 h15 hq => ?_)
        obtain ⟨rfl, rfl⟩ := hq
        refine A_istore_n (lv1 := [_, _, _, _, _, _]) dX10_loansIn_18 rfl (Nat.le_of_ble_eq_true rfl) rfl rfl ?_
        refine A_aload_n dX10_loansIn_19 rfl rfl ?_
        refine A_iload_n dX10_loansIn_20 rfl rfl ?_
        refine A_iconst (v := 1) dX10_loansIn_21 (by decide) ?_
        refine A_callVi dX10_loansIn_22 m_X10_261 cb_X10_ofLoan (As := [_, _]) rfl HM_at0 rfl (k_ofLoan G 1 (by omega) (by decide)) rfl ⟨by decide, by decide⟩ (Nat.le_of_ble_eq_true rfl) ⟨by decide, by decide⟩ (fun x22 h22 hq => ?_)
        obtain ⟨rfl, rfl⟩ := hq
        refine A_istore (lv1 := [_, _, _, _, _, _]) dX10_loansIn_25 (Nat.le_of_ble_eq_true rfl) rfl rfl ?_
        refine A_aload_n dX10_loansIn_27 rfl rfl ?_
        refine A_iload_n dX10_loansIn_28 rfl rfl ?_
        refine A_iconst (v := 3) dX10_loansIn_29 (by decide) ?_
        refine A_callVi dX10_loansIn_30 m_X10_261 cb_X10_ofLoan (As := [_, _]) rfl HM_at0 rfl (k_ofLoan G 3 (by omega) (by decide)) rfl ⟨by decide, by decide⟩ (Nat.le_of_ble_eq_true rfl) ⟨by decide, by decide⟩ (fun x30 h30 hq => ?_)
        obtain ⟨rfl, rfl⟩ := hq
        refine A_iload_n dX10_loansIn_33 rfl rfl ?_
        refine A_icmp_ne 125 dX10_loansIn_34 (by decide) (fun c34 => ?_) (fun c34 => ?_)
        · refine A_inc 1 (lv1 := [_, _, _, _, _, _]) dX10_loansIn_125 rfl (by decide) rfl rfl ?_
          refine A_goto 2 dX10_loansIn_128 (by decide) ?_
          refine A_fg 3 (lv1 := [_, _, _, _, _, _]) rfl ?_
          refine A_fg 4 (lv1 := [_, _, _, _, _, _]) rfl ?_
          refine A_fg 5 (lv1 := [_, _, _, _, _, _]) rfl ?_
          rw [nI_1]
          refine WA_h (congrArg (fun z => HM b z ml r n) (Eq.symm (?_ : lendM w i m = _))) (ih (i + 1) (lendM w i m) (by omega) (lendM_s.IM hI) hT)
          rw [lendM]
          exact if_neg c34
        · refine A_iload_n dX10_loansIn_37 rfl rfl ?_
          refine A_aload_n dX10_loansIn_38 rfl rfl ?_
          refine A_get dX10_loansIn_39 f_X10_49 HM_at0 rfl ?_
          refine A_icmp_ne 48 dX10_loansIn_42 (by decide) (fun c42 => ?_) (fun c42 => ?_)
          · refine A_aload_n dX10_loansIn_48 rfl rfl ?_
            refine A_iload_n dX10_loansIn_49 rfl rfl ?_
            refine A_iconst (v := 2) dX10_loansIn_50 (by decide) ?_
            refine A_callVi dX10_loansIn_51 m_X10_261 cb_X10_ofLoan (As := [_, _]) rfl HM_at0 rfl (k_ofLoan G 2 (by omega) (by decide)) rfl ⟨by decide, by decide⟩ (Nat.le_of_ble_eq_true rfl) ⟨by decide, by decide⟩ (fun x51 h51 hq => ?_)
            obtain ⟨rfl, rfl⟩ := hq
            refine A_aload_n dX10_loansIn_54 rfl rfl ?_
            refine A_get dX10_loansIn_55 f_X10_34 HM_at0 rfl ?_
            refine A_iload_n dX10_loansIn_58 rfl rfl ?_
            refine A_iald dX10_loansIn_59 (HM_at (by decide)) (vp_mono (gL i hi).1 hv6) ?_
            refine A_aload_n dX10_loansIn_60 rfl rfl ?_
            refine A_iload dX10_loansIn_61 rfl ?_
            refine A_callVi dX10_loansIn_63 m_X10_255 cb_X10_room (As := [_]) rfl HM_at0 rfl (k_room G (vp_mono (gL i hi).2 hv6)) rfl ⟨by decide, by decide⟩ (Nat.le_of_ble_eq_true rfl) ⟨by decide, by decide⟩ (fun x63 h63 hq => ?_)
            obtain ⟨rfl, rfl⟩ := hq
            refine A_min dX10_loansIn_66 w_1328 (by decide) (Nat.le_of_ble_eq_true rfl) ⟨by decide, by decide⟩ ?_
            refine A_min dX10_loansIn_69 w_1328 (by decide) (Nat.le_of_ble_eq_true rfl) ⟨by decide, by decide⟩ ?_
            refine A_eqI (y := lendN m i) rfl ?_
            refine A_istore (lv1 := [_, _, _, _, _, _]) dX10_loansIn_72 (Nat.le_of_ble_eq_true rfl) rfl rfl ?_
            refine A_aload_n dX10_loansIn_74 rfl rfl ?_
            refine A_get dX10_loansIn_75 f_X10_43 HM_at0 rfl ?_
            refine A_iconst (v := 3) dX10_loansIn_78 (by decide) ?_
            refine A_iload_n dX10_loansIn_79 rfl rfl ?_
            refine A_imul dX10_loansIn_80 ?_
            refine A_iconst (v := 0) dX10_loansIn_81 (by decide) ?_
            refine A_iadd dX10_loansIn_82 ?_
            refine A_iload dX10_loansIn_83 rfl ?_
            refine A_iastMK (i := ((3 * i) + 0)) dX10_loansIn_85 (by decide) (fun _ => rfl) (ixA (ixU rfl rfl) rfl) (by omega) (by decide) ?_
            refine A_aload_n dX10_loansIn_86 rfl rfl ?_
            refine A_get dX10_loansIn_87 f_X10_43 HM_at0 rfl ?_
            refine A_iconst (v := 3) dX10_loansIn_90 (by decide) ?_
            refine A_iload_n dX10_loansIn_91 rfl rfl ?_
            refine A_imul dX10_loansIn_92 ?_
            refine A_iconst (v := 1) dX10_loansIn_93 (by decide) ?_
            refine A_iadd dX10_loansIn_94 ?_
            refine A_aload_n dX10_loansIn_95 rfl rfl ?_
            refine A_iload dX10_loansIn_96 rfl ?_
            refine A_callVi dX10_loansIn_98 m_X10_258 cb_X10_owed (As := [_]) rfl HM_at0 rfl (k_owed G) rfl ⟨by decide, by decide⟩ (Nat.le_of_ble_eq_true rfl) ⟨by decide, by decide⟩ (fun x98 h98 hq => ?_)
            obtain ⟨rfl, rfl⟩ := hq
            refine A_iastMK (i := ((3 * i) + 1)) dX10_loansIn_101 (by decide) (fun _ => rfl) (ixA (ixU rfl rfl) rfl) (by omega) (by decide) ?_
            refine A_aload_n dX10_loansIn_102 rfl rfl ?_
            refine A_get dX10_loansIn_103 f_X10_34 HM_at0 rfl ?_
            refine A_iload_n dX10_loansIn_106 rfl rfl ?_
            refine A_dup2 dX10_loansIn_107 rfl rfl ?_
            refine A_iald dX10_loansIn_108 (HM_at (by decide)) (vp_mono (gL i hi).1 hv6) ?_
            refine A_iload dX10_loansIn_109 rfl ?_
            refine A_isub dX10_loansIn_111 ?_
            refine A_iastM dX10_loansIn_112 (by decide) (fun _ => rfl) (vp_mono (gL i hi).1 hv6) ?_
            refine A_aload_n dX10_loansIn_113 rfl rfl ?_
            refine A_get dX10_loansIn_114 f_X10_34 HM_at0 rfl ?_
            refine A_iload dX10_loansIn_117 rfl ?_
            refine A_dup2 dX10_loansIn_119 rfl rfl ?_
            refine A_iald dX10_loansIn_120 (HM_at (by decide)) (vp_mono (gL i hi).2 hv6) ?_
            refine A_iload dX10_loansIn_121 rfl ?_
            refine A_iadd dX10_loansIn_123 ?_
            refine A_iastM dX10_loansIn_124 (by decide) (fun _ => rfl) (vp_mono (gL i hi).2 hv6) ?_
            refine A_inc 1 (lv1 := [_, _, _, _, _, _]) dX10_loansIn_125 rfl (by decide) rfl rfl ?_
            refine A_goto 2 dX10_loansIn_128 (by decide) ?_
            refine A_fg 3 (lv1 := [_, _, _, _, _, _]) rfl ?_
            refine A_fg 4 (lv1 := [_, _, _, _, _, _]) rfl ?_
            refine A_fg 5 (lv1 := [_, _, _, _, _, _]) rfl ?_
            rw [nI_1]
            refine WA_h (congrArg (fun z => HM b z ml r n) (Eq.symm (?_ : lendM w i m = _))) (ih (i + 1) (lendM w i m) (by omega) (lendM_s.IM hI) hT)
            rw [lendM, if_pos c34]
            exact if_neg c42
          · refine A_goto 125 dX10_loansIn_45 (by decide) ?_
            refine A_inc 1 (lv1 := [_, _, _, _, _, _]) dX10_loansIn_125 rfl (by decide) rfl rfl ?_
            refine A_goto 2 dX10_loansIn_128 (by decide) ?_
            refine A_fg 3 (lv1 := [_, _, _, _, _, _]) rfl ?_
            refine A_fg 4 (lv1 := [_, _, _, _, _, _]) rfl ?_
            refine A_fg 5 (lv1 := [_, _, _, _, _, _]) rfl ?_
            rw [nI_1]
            refine WA_h (congrArg (fun z => HM b z ml r n) (Eq.symm (?_ : lendM w i m = _))) (ih (i + 1) (lendM w i m) (by omega) (lendM_s.IM hI) hT)
            rw [lendM, if_pos c34]
            exact if_pos c42
  refine A_iconst (v := 0) dX10_loansIn_0 (by decide) ?_
  refine A_istore_n (lv1 := [_, _, _, _, _, _]) dX10_loansIn_1 rfl (Nat.le_of_ble_eq_true rfl) rfl rfl ?_
  obtain ⟨hv, hv6, hc, hc8, hf, hf3, hl, hl8, hw, hw30, gC, gL⟩ := id hI
  refine loop nl 0 m (by omega) hI (by rw [hTe]; rw [lendB, hl, tcl_nI (by omega)])

theorem k_dueIn (G : GX) {b : Nat} {m : CT} {ml : Nat → Nat → Int64} {r : Nat → Option AE} {n : Nat} {nv nc nf nl wk : Nat} {fl : Nat} {w : Int32} (hI : IM m nv nc nf nl wk) (hT : TM m nv nf) (hco : m 0 24 = nI fl) (hfl : fl < 8) : MA G 2 yX10_dueIn cX10_dueIn 6 none 0 0 [.ref b, .int w] (HM b m ml r n) (qV fun h1 => h1 = HM b (dueB fl w m) ml r n) := by
  refine MA.of (own := RX10) false [some (.ref b), some (.int w), none, none, none, none] (by decide +kernel) rfl (fun h => by cases h) (Nat.le_of_ble_eq_true rfl) rfl (fun X => ?_)
  obtain ⟨T, hTe⟩ : ∃ T, T = dueB fl w m := ⟨_, rfl⟩
  rw [← hTe]
  have loop2 : ∀ (T : CT) (k i : Nat) (m : CT), i + k = nf → ((IM m nv nc nf nl wk ∧ TM m nv nf ∧ m 0 24 = nI fl) ∧ w = m 1 7) → forR (giveM fl w) i k m = T → WA X G RX10 cX10_dueIn false none (qV fun h1 => h1 = HM b T ml r n) 2 0 0 (HM b m ml r n) 0 0 133 [some (.ref b), some (.int w), some (.int (nI i)), none, none, none] [] := by
    intro T k
    induction k with
    | zero =>
      intro i m hk hI hT
      obtain ⟨hv, hv6, hc, hc8, hf, hf3, hl, hl8, hw, hw30, gC, gL⟩ := id hI.1.1
      refine A_iload_n dX10_dueIn_133 rfl rfl ?_
      refine A_aload_n dX10_dueIn_134 rfl rfl ?_
      refine A_get dX10_dueIn_135 f_X10_9 HM_at0 rfl ?_
      refine A_iconst (v := 2) dX10_dueIn_138 (by decide) ?_
      refine A_ialdK (i := 2) dX10_dueIn_139 (HM_at (by decide)) rfl (by omega) (by decide) ?_
      refine A_icmp_ge 248 dX10_dueIn_140 (by decide) (fun c140 => ?_) (fun c140 => ?_)
      · exact A_vret dX10_dueIn_248 (congrArg (fun z => HM b z ml r n) hT) ⟨by decide, by decide⟩
      · exact absurd (by rw [hf]; exact nI_le (by omega) (by omega)) c140
    | succ k ih =>
      intro i m hk hI hT
      obtain ⟨hv, hv6, hc, hc8, hf, hf3, hl, hl8, hw, hw30, gC, gL⟩ := id hI.1.1
      have hi : i < nf := by omega
      refine A_iload_n dX10_dueIn_133 rfl rfl ?_
      refine A_aload_n dX10_dueIn_134 rfl rfl ?_
      refine A_get dX10_dueIn_135 f_X10_9 HM_at0 rfl ?_
      refine A_iconst (v := 2) dX10_dueIn_138 (by decide) ?_
      refine A_ialdK (i := 2) dX10_dueIn_139 (HM_at (by decide)) rfl (by omega) (by decide) ?_
      refine A_icmp_ge 248 dX10_dueIn_140 (by decide) (fun c140 => ?_) (fun c140 => ?_)
      · exact absurd c140 (by rw [hf]; exact nI_ge (by omega) (by omega))
      · refine A_iload_n dX10_dueIn_143 rfl rfl ?_
        refine A_aload_n dX10_dueIn_144 rfl rfl ?_
        refine A_get dX10_dueIn_145 f_X10_9 HM_at0 rfl ?_
        refine A_bipush (v := 7) dX10_dueIn_148 (by decide) ?_
        refine A_ialdK (i := 7) dX10_dueIn_150 (HM_at (by decide)) rfl (by omega) (by decide) ?_
        refine A_icmp_ne 248 dX10_dueIn_151 (by decide) (fun c151 => ?_) (fun c151 => ?_)
        · exact absurd hI.2 c151
        · refine A_aload_n dX10_dueIn_154 rfl rfl ?_
          refine A_iload_n dX10_dueIn_155 rfl rfl ?_
          refine A_callVi dX10_dueIn_156 m_X10_249 cb_X10_takerNow (As := [_]) rfl HM_at0 rfl (k_takerNow G hI.1.2.2 hfl (by omega)) rfl ⟨by decide, by decide⟩ (Nat.le_of_ble_eq_true rfl) ⟨by decide, by decide⟩ (fun x156 h156 hq => ?_)
          obtain ⟨rfl, rfl⟩ := hq
          refine A_istore_n (lv1 := [_, _, _, _, _, _]) dX10_dueIn_159 rfl (Nat.le_of_ble_eq_true rfl) rfl rfl ?_
          refine A_iload_n dX10_dueIn_160 rfl rfl ?_
          refine A_iconst (v := (-1)) dX10_dueIn_161 (by decide) ?_
          refine A_icmp_eq 242 dX10_dueIn_162 (by decide) (fun c162 => ?_) (fun c162 => ?_)
          · refine A_inc 1 (lv1 := [_, _, _, _, _, _]) dX10_dueIn_242 rfl (by decide) rfl rfl ?_
            refine A_goto 133 dX10_dueIn_245 (by decide) ?_
            refine A_fg 3 (lv1 := [_, _, _, _, _, _]) rfl ?_
            refine A_fg 4 (lv1 := [_, _, _, _, _, _]) rfl ?_
            refine A_fg 5 (lv1 := [_, _, _, _, _, _]) rfl ?_
            rw [nI_1]
            refine WA_h (congrArg (fun z => HM b z ml r n) (Eq.symm (?_ : giveM fl w i m = _))) (ih (i + 1) (giveM fl w i m) (by omega) (⟨⟨giveM_s.IM hI.1.1, giveM_s.TM hI.1.2.1, giveM_s.fl hI.1.2.2⟩, (congrFun giveM_s.w 7).symm ▸ hI.2⟩) hT)
            rw [giveM]
            exact if_pos c162
          · refine A_aload_n dX10_dueIn_165 rfl rfl ?_
            refine A_iload_n dX10_dueIn_166 rfl rfl ?_
            refine A_iconst (v := 0) dX10_dueIn_167 (by decide) ?_
            refine A_callVi dX10_dueIn_168 m_X10_252 cb_X10_ofFlood (As := [_, _]) rfl HM_at0 rfl (k_ofFlood G 0 (by omega) (by decide)) rfl ⟨by decide, by decide⟩ (Nat.le_of_ble_eq_true rfl) ⟨by decide, by decide⟩ (fun x168 h168 hq => ?_)
            obtain ⟨rfl, rfl⟩ := hq
            refine A_iload_n dX10_dueIn_171 rfl rfl ?_
            refine A_icmp_le 178 dX10_dueIn_172 (by decide) (fun c172 => ?_) (fun c172 => ?_)
            · refine A_aload_n dX10_dueIn_178 rfl rfl ?_
              refine A_get dX10_dueIn_179 f_X10_40 HM_at0 rfl ?_
              refine A_iconst (v := 3) dX10_dueIn_182 (by decide) ?_
              refine A_iload_n dX10_dueIn_183 rfl rfl ?_
              refine A_imul dX10_dueIn_184 ?_
              refine A_iconst (v := 1) dX10_dueIn_185 (by decide) ?_
              refine A_iadd dX10_dueIn_186 ?_
              refine A_ialdK (i := ((3 * i) + 1)) dX10_dueIn_187 (HM_at (by decide)) (ixA (ixU rfl rfl) rfl) (by omega) (by decide) ?_
              refine A_aload_n dX10_dueIn_188 rfl rfl ?_
              refine A_get dX10_dueIn_189 f_X10_34 HM_at0 rfl ?_
              refine A_iload_n dX10_dueIn_192 rfl rfl ?_
              refine A_iald dX10_dueIn_193 (HM_at (by decide)) (vp_mono (hI.1.2.1.tn hi c162) hv6) ?_
              refine A_min dX10_dueIn_194 w_1328 (by decide) (Nat.le_of_ble_eq_true rfl) ⟨by decide, by decide⟩ ?_
              refine A_eqI (y := giveN fl m i) rfl ?_
              refine A_istore (lv1 := [_, _, _, _, _, _]) dX10_dueIn_197 (Nat.le_of_ble_eq_true rfl) rfl rfl ?_
              refine A_aload_n dX10_dueIn_199 rfl rfl ?_
              refine A_get dX10_dueIn_200 f_X10_40 HM_at0 rfl ?_
              refine A_iconst (v := 3) dX10_dueIn_203 (by decide) ?_
              refine A_iload_n dX10_dueIn_204 rfl rfl ?_
              refine A_imul dX10_dueIn_205 ?_
              refine A_iconst (v := 2) dX10_dueIn_206 (by decide) ?_
              refine A_iadd dX10_dueIn_207 ?_
              refine A_iload dX10_dueIn_208 rfl ?_
              refine A_iastMK (i := ((3 * i) + 2)) dX10_dueIn_210 (by decide) (fun _ => rfl) (ixA (ixU rfl rfl) rfl) (by omega) (by decide) ?_
              refine A_aload_n dX10_dueIn_211 rfl rfl ?_
              refine A_get dX10_dueIn_212 f_X10_34 HM_at0 rfl ?_
              refine A_iload_n dX10_dueIn_215 rfl rfl ?_
              refine A_dup2 dX10_dueIn_216 rfl rfl ?_
              refine A_iald dX10_dueIn_217 (HM_at (by decide)) (vp_mono (hI.1.2.1.tn hi c162) hv6) ?_
              refine A_iload dX10_dueIn_218 rfl ?_
              refine A_isub dX10_dueIn_220 ?_
              refine A_iastM dX10_dueIn_221 (by decide) (fun _ => rfl) (vp_mono (hI.1.2.1.tn hi c162) hv6) ?_
              refine A_iload dX10_dueIn_222 rfl ?_
              refine A_aload_n dX10_dueIn_224 rfl rfl ?_
              refine A_get dX10_dueIn_225 f_X10_40 HM_at0 rfl ?_
              refine A_iconst (v := 3) dX10_dueIn_228 (by decide) ?_
              refine A_iload_n dX10_dueIn_229 rfl rfl ?_
              refine A_imul dX10_dueIn_230 ?_
              refine A_iconst (v := 1) dX10_dueIn_231 (by decide) ?_
              refine A_iadd dX10_dueIn_232 ?_
              refine A_ialdK (i := ((3 * i) + 1)) dX10_dueIn_233 (HM_at (by decide)) (ixA (ixU rfl rfl) rfl) (by omega) (by decide) ?_
              refine A_icmp_ge 242 dX10_dueIn_234 (by decide) (fun c234 => ?_) (fun c234 => ?_)
              · refine A_inc 1 (lv1 := [_, _, _, _, _, _]) dX10_dueIn_242 rfl (by decide) rfl rfl ?_
                refine A_goto 133 dX10_dueIn_245 (by decide) ?_
                refine A_fg 3 (lv1 := [_, _, _, _, _, _]) rfl ?_
                refine A_fg 4 (lv1 := [_, _, _, _, _, _]) rfl ?_
                refine A_fg 5 (lv1 := [_, _, _, _, _, _]) rfl ?_
                rw [nI_1]
                refine WA_h (congrArg (fun z => HM b z ml r n) (Eq.symm (?_ : giveM fl w i m = _))) (ih (i + 1) (giveM fl w i m) (by omega) (⟨⟨giveM_s.IM hI.1.1, giveM_s.TM hI.1.2.1, giveM_s.fl hI.1.2.2⟩, (congrFun giveM_s.w 7).symm ▸ hI.2⟩) hT)
                rw [giveM, if_neg c162, if_neg (Int32.not_lt.mpr c172)]
                exact if_pos c234
              · refine A_aload_n dX10_dueIn_237 rfl rfl ?_
                refine A_iload_n dX10_dueIn_238 rfl rfl ?_
                refine A_callVv dX10_dueIn_239 m_X10_264 cb_X10_wrongIn (As := [_]) rfl HM_at0 rfl (k_wrongIn G) rfl ⟨by decide, by decide⟩ (Nat.le_of_ble_eq_true rfl) ⟨by decide, by decide⟩ (fun h239 hq => ?_)
                obtain ⟨rfl, rfl⟩ := hq
                refine A_inc 1 (lv1 := [_, _, _, _, _, _]) dX10_dueIn_242 rfl (by decide) rfl rfl ?_
                refine A_goto 133 dX10_dueIn_245 (by decide) ?_
                refine A_fg 3 (lv1 := [_, _, _, _, _, _]) rfl ?_
                refine A_fg 4 (lv1 := [_, _, _, _, _, _]) rfl ?_
                refine A_fg 5 (lv1 := [_, _, _, _, _, _]) rfl ?_
                rw [nI_1]
                refine WA_h (congrArg (fun z => HM b z ml r n) (Eq.symm (?_ : giveM fl w i m = _))) (ih (i + 1) (giveM fl w i m) (by omega) (⟨⟨giveM_s.IM hI.1.1, giveM_s.TM hI.1.2.1, giveM_s.fl hI.1.2.2⟩, (congrFun giveM_s.w 7).symm ▸ hI.2⟩) hT)
                rw [giveM, if_neg c162, if_neg (Int32.not_lt.mpr c172)]
                exact if_neg c234
            · refine A_goto 242 dX10_dueIn_175 (by decide) ?_
              refine A_inc 1 (lv1 := [_, _, _, _, _, _]) dX10_dueIn_242 rfl (by decide) rfl rfl ?_
              refine A_goto 133 dX10_dueIn_245 (by decide) ?_
              refine A_fg 3 (lv1 := [_, _, _, _, _, _]) rfl ?_
              refine A_fg 4 (lv1 := [_, _, _, _, _, _]) rfl ?_
              refine A_fg 5 (lv1 := [_, _, _, _, _, _]) rfl ?_
              rw [nI_1]
              refine WA_h (congrArg (fun z => HM b z ml r n) (Eq.symm (?_ : giveM fl w i m = _))) (ih (i + 1) (giveM fl w i m) (by omega) (⟨⟨giveM_s.IM hI.1.1, giveM_s.TM hI.1.2.1, giveM_s.fl hI.1.2.2⟩, (congrFun giveM_s.w 7).symm ▸ hI.2⟩) hT)
              rw [giveM, if_neg c162]
              exact if_pos (Int32.not_le.mp c172)
  have loop1 : ∀ (k i : Nat) (m : CT), i + k = nl → (IM m nv nc nf nl wk ∧ TM m nv nf ∧ m 0 24 = nI fl) → (if w = m 1 7 then giveB fl w (forR (repayM w) i k m) else forR (repayM w) i k m) = T → WA X G RX10 cX10_dueIn false none (qV fun h1 => h1 = HM b T ml r n) 2 0 0 (HM b m ml r n) 0 0 2 [some (.ref b), some (.int w), some (.int (nI i)), none, none, none] [] := by
    intro k
    induction k with
    | zero =>
      intro i m hk hI hT
      obtain ⟨hv, hv6, hc, hc8, hf, hf3, hl, hl8, hw, hw30, gC, gL⟩ := id hI.1
      refine A_iload_n dX10_dueIn_2 rfl rfl ?_
      refine A_aload_n dX10_dueIn_3 rfl rfl ?_
      refine A_get dX10_dueIn_4 f_X10_9 HM_at0 rfl ?_
      refine A_iconst (v := 3) dX10_dueIn_7 (by decide) ?_
      refine A_ialdK (i := 3) dX10_dueIn_8 (HM_at (by decide)) rfl (by omega) (by decide) ?_
      refine A_icmp_ge 131 dX10_dueIn_9 (by decide) (fun c9 => ?_) (fun c9 => ?_)
      · refine A_iconst (v := 0) dX10_dueIn_131 (by decide) ?_
        refine A_istore_n (lv1 := [_, _, _, _, _, _]) dX10_dueIn_132 rfl (Nat.le_of_ble_eq_true rfl) rfl rfl ?_
        by_cases hb : w = m 1 7
        · rw [if_pos hb] at hT
          exact loop2 T nf 0 m (by omega) ⟨hI, hb⟩ (by rw [← hT, giveB, forR, hf, tcl_nI (by omega)])
        · refine A_iload_n dX10_dueIn_133 rfl rfl ?_
          refine A_aload_n dX10_dueIn_134 rfl rfl ?_
          refine A_get dX10_dueIn_135 f_X10_9 HM_at0 rfl ?_
          refine A_iconst (v := 2) dX10_dueIn_138 (by decide) ?_
          refine A_ialdK (i := 2) dX10_dueIn_139 (HM_at (by decide)) rfl (by omega) (by decide) ?_
          refine A_icmp_ge 248 dX10_dueIn_140 (by decide) (fun c140 => ?_) (fun c140 => ?_)
          · exact A_vret dX10_dueIn_248 (by rw [if_neg hb] at hT; exact congrArg (fun z => HM b z ml r n) hT) ⟨by decide, by decide⟩
          · refine A_iload_n dX10_dueIn_143 rfl rfl ?_
            refine A_aload_n dX10_dueIn_144 rfl rfl ?_
            refine A_get dX10_dueIn_145 f_X10_9 HM_at0 rfl ?_
            refine A_bipush (v := 7) dX10_dueIn_148 (by decide) ?_
            refine A_ialdK (i := 7) dX10_dueIn_150 (HM_at (by decide)) rfl (by omega) (by decide) ?_
            refine A_icmp_ne 248 dX10_dueIn_151 (by decide) (fun c151 => ?_) (fun c151 => ?_)
            · exact A_vret dX10_dueIn_248 (by rw [if_neg hb] at hT; exact congrArg (fun z => HM b z ml r n) hT) ⟨by decide, by decide⟩
            · exact absurd c151 hb
      · exact absurd (by rw [hl]; exact nI_le (by omega) (by omega)) c9
    | succ k ih =>
      intro i m hk hI hT
      obtain ⟨hv, hv6, hc, hc8, hf, hf3, hl, hl8, hw, hw30, gC, gL⟩ := id hI.1
      have hi : i < nl := by omega
      refine A_iload_n dX10_dueIn_2 rfl rfl ?_
      refine A_aload_n dX10_dueIn_3 rfl rfl ?_
      refine A_get dX10_dueIn_4 f_X10_9 HM_at0 rfl ?_
      refine A_iconst (v := 3) dX10_dueIn_7 (by decide) ?_
      refine A_ialdK (i := 3) dX10_dueIn_8 (HM_at (by decide)) rfl (by omega) (by decide) ?_
      refine A_icmp_ge 131 dX10_dueIn_9 (by decide) (fun c9 => ?_) (fun c9 => ?_)
      · exact absurd c9 (by rw [hl]; exact nI_ge (by omega) (by omega))
      · refine A_aload_n dX10_dueIn_12 rfl rfl ?_
        refine A_iload_n dX10_dueIn_13 rfl rfl ?_
        refine A_iconst (v := 4) dX10_dueIn_14 (by decide) ?_
        refine A_callVi dX10_dueIn_15 m_X10_261 cb_X10_ofLoan (As := [_, _]) rfl HM_at0 rfl (k_ofLoan G 4 (by omega) (by decide)) rfl ⟨by decide, by decide⟩ (Nat.le_of_ble_eq_true rfl) ⟨by decide, by decide⟩ (fun x15 h15 hq => ?_)
        obtain ⟨rfl, rfl⟩ := hq
        refine A_iload_n dX10_dueIn_18 rfl rfl ?_
        refine A_icmp_eq 25 dX10_dueIn_19 (by decide) (fun c19 => ?_) (fun c19 => ?_)
        · refine A_aload_n dX10_dueIn_25 rfl rfl ?_
          refine A_iload_n dX10_dueIn_26 rfl rfl ?_
          refine A_iconst (v := 0) dX10_dueIn_27 (by decide) ?_
          refine A_callVi dX10_dueIn_28 m_X10_261 cb_X10_ofLoan (As := [_, _]) rfl HM_at0 rfl (k_ofLoan G 0 (by omega) (by decide)) rfl ⟨by decide, by decide⟩ (Nat.le_of_ble_eq_true rfl) ⟨by decide, by decide⟩ (fun x28 h28 hq => ?_)
          obtain ⟨rfl, rfl⟩ := hq
          refine A_istore_n (lv1 := [_, _, _, _, _, _]) dX10_dueIn_31 rfl (Nat.le_of_ble_eq_true rfl) rfl rfl ?_
          refine A_aload_n dX10_dueIn_32 rfl rfl ?_
          refine A_iload_n dX10_dueIn_33 rfl rfl ?_
          refine A_iconst (v := 1) dX10_dueIn_34 (by decide) ?_
          refine A_callVi dX10_dueIn_35 m_X10_261 cb_X10_ofLoan (As := [_, _]) rfl HM_at0 rfl (k_ofLoan G 1 (by omega) (by decide)) rfl ⟨by decide, by decide⟩ (Nat.le_of_ble_eq_true rfl) ⟨by decide, by decide⟩ (fun x35 h35 hq => ?_)
          obtain ⟨rfl, rfl⟩ := hq
          refine A_istore (lv1 := [_, _, _, _, _, _]) dX10_dueIn_38 (Nat.le_of_ble_eq_true rfl) rfl rfl ?_
          refine A_aload_n dX10_dueIn_40 rfl rfl ?_
          refine A_get dX10_dueIn_41 f_X10_43 HM_at0 rfl ?_
          refine A_iconst (v := 3) dX10_dueIn_44 (by decide) ?_
          refine A_iload_n dX10_dueIn_45 rfl rfl ?_
          refine A_imul dX10_dueIn_46 ?_
          refine A_iconst (v := 1) dX10_dueIn_47 (by decide) ?_
          refine A_iadd dX10_dueIn_48 ?_
          refine A_ialdK (i := ((3 * i) + 1)) dX10_dueIn_49 (HM_at (by decide)) (ixA (ixU rfl rfl) rfl) (by omega) (by decide) ?_
          refine A_aload_n dX10_dueIn_50 rfl rfl ?_
          refine A_get dX10_dueIn_51 f_X10_34 HM_at0 rfl ?_
          refine A_iload dX10_dueIn_54 rfl ?_
          refine A_iald dX10_dueIn_56 (HM_at (by decide)) (vp_mono (gL i hi).2 hv6) ?_
          refine A_aload_n dX10_dueIn_57 rfl rfl ?_
          refine A_iload_n dX10_dueIn_58 rfl rfl ?_
          refine A_callVi dX10_dueIn_59 m_X10_255 cb_X10_room (As := [_]) rfl HM_at0 rfl (k_room G (vp_mono (gL i hi).1 hv6)) rfl ⟨by decide, by decide⟩ (Nat.le_of_ble_eq_true rfl) ⟨by decide, by decide⟩ (fun x59 h59 hq => ?_)
          obtain ⟨rfl, rfl⟩ := hq
          refine A_min dX10_dueIn_62 w_1328 (by decide) (Nat.le_of_ble_eq_true rfl) ⟨by decide, by decide⟩ ?_
          refine A_min dX10_dueIn_65 w_1328 (by decide) (Nat.le_of_ble_eq_true rfl) ⟨by decide, by decide⟩ ?_
          refine A_eqI (y := repayN m i) rfl ?_
          refine A_istore (lv1 := [_, _, _, _, _, _]) dX10_dueIn_68 (Nat.le_of_ble_eq_true rfl) rfl rfl ?_
          refine A_aload_n dX10_dueIn_70 rfl rfl ?_
          refine A_get dX10_dueIn_71 f_X10_43 HM_at0 rfl ?_
          refine A_iconst (v := 3) dX10_dueIn_74 (by decide) ?_
          refine A_iload_n dX10_dueIn_75 rfl rfl ?_
          refine A_imul dX10_dueIn_76 ?_
          refine A_iconst (v := 2) dX10_dueIn_77 (by decide) ?_
          refine A_iadd dX10_dueIn_78 ?_
          refine A_iload dX10_dueIn_79 rfl ?_
          refine A_iastMK (i := ((3 * i) + 2)) dX10_dueIn_81 (by decide) (fun _ => rfl) (ixA (ixU rfl rfl) rfl) (by omega) (by decide) ?_
          refine A_aload_n dX10_dueIn_82 rfl rfl ?_
          refine A_get dX10_dueIn_83 f_X10_34 HM_at0 rfl ?_
          refine A_iload dX10_dueIn_86 rfl ?_
          refine A_dup2 dX10_dueIn_88 rfl rfl ?_
          refine A_iald dX10_dueIn_89 (HM_at (by decide)) (vp_mono (gL i hi).2 hv6) ?_
          refine A_iload dX10_dueIn_90 rfl ?_
          refine A_isub dX10_dueIn_92 ?_
          refine A_iastM dX10_dueIn_93 (by decide) (fun _ => rfl) (vp_mono (gL i hi).2 hv6) ?_
          refine A_aload_n dX10_dueIn_94 rfl rfl ?_
          refine A_get dX10_dueIn_95 f_X10_34 HM_at0 rfl ?_
          refine A_iload_n dX10_dueIn_98 rfl rfl ?_
          refine A_dup2 dX10_dueIn_99 rfl rfl ?_
          refine A_iald dX10_dueIn_100 (HM_at (by decide)) (vp_mono (gL i hi).1 hv6) ?_
          refine A_iload dX10_dueIn_101 rfl ?_
          refine A_iadd dX10_dueIn_103 ?_
          refine A_iastM dX10_dueIn_104 (by decide) (fun _ => rfl) (vp_mono (gL i hi).1 hv6) ?_
          refine A_iload dX10_dueIn_105 rfl ?_
          refine A_aload_n dX10_dueIn_107 rfl rfl ?_
          refine A_get dX10_dueIn_108 f_X10_43 HM_at0 rfl ?_
          refine A_iconst (v := 3) dX10_dueIn_111 (by decide) ?_
          refine A_iload_n dX10_dueIn_112 rfl rfl ?_
          refine A_imul dX10_dueIn_113 ?_
          refine A_iconst (v := 1) dX10_dueIn_114 (by decide) ?_
          refine A_iadd dX10_dueIn_115 ?_
          refine A_ialdK (i := ((3 * i) + 1)) dX10_dueIn_116 (HM_at (by decide)) (ixA (ixU rfl rfl) rfl) (by omega) (by decide) ?_
          refine A_icmp_ge 125 dX10_dueIn_117 (by decide) (fun c117 => ?_) (fun c117 => ?_)
          · refine A_inc 1 (lv1 := [_, _, _, _, _, _]) dX10_dueIn_125 rfl (by decide) rfl rfl ?_
            refine A_goto 2 dX10_dueIn_128 (by decide) ?_
            refine A_fg 3 (lv1 := [_, _, _, _, _, _]) rfl ?_
            refine A_fg 4 (lv1 := [_, _, _, _, _, _]) rfl ?_
            refine A_fg 5 (lv1 := [_, _, _, _, _, _]) rfl ?_
            rw [nI_1]
            refine WA_h (congrArg (fun z => HM b z ml r n) (Eq.symm (?_ : repayM w i m = _))) (ih (i + 1) (repayM w i m) (by omega) (⟨repayM_s.IM hI.1, repayM_s.TM hI.2.1, repayM_s.fl hI.2.2⟩) (by rw [congrFun repayM_s.w 7]; exact hT))
            rw [repayM, if_pos c19]
            exact if_pos c117
          · refine A_aload_n dX10_dueIn_120 rfl rfl ?_
            refine A_iload_n dX10_dueIn_121 rfl rfl ?_
            refine A_callVv dX10_dueIn_122 m_X10_264 cb_X10_wrongIn (As := [_]) rfl HM_at0 rfl (k_wrongIn G) rfl ⟨by decide, by decide⟩ (Nat.le_of_ble_eq_true rfl) ⟨by decide, by decide⟩ (fun h122 hq => ?_)
            obtain ⟨rfl, rfl⟩ := hq
            refine A_inc 1 (lv1 := [_, _, _, _, _, _]) dX10_dueIn_125 rfl (by decide) rfl rfl ?_
            refine A_goto 2 dX10_dueIn_128 (by decide) ?_
            refine A_fg 3 (lv1 := [_, _, _, _, _, _]) rfl ?_
            refine A_fg 4 (lv1 := [_, _, _, _, _, _]) rfl ?_
            refine A_fg 5 (lv1 := [_, _, _, _, _, _]) rfl ?_
            rw [nI_1]
            refine WA_h (congrArg (fun z => HM b z ml r n) (Eq.symm (?_ : repayM w i m = _))) (ih (i + 1) (repayM w i m) (by omega) (⟨repayM_s.IM hI.1, repayM_s.TM hI.2.1, repayM_s.fl hI.2.2⟩) (by rw [congrFun repayM_s.w 7]; exact hT))
            rw [repayM, if_pos c19]
            exact if_neg c117
        · refine A_goto 125 dX10_dueIn_22 (by decide) ?_
          refine A_inc 1 (lv1 := [_, _, _, _, _, _]) dX10_dueIn_125 rfl (by decide) rfl rfl ?_
          refine A_goto 2 dX10_dueIn_128 (by decide) ?_
          refine A_fg 3 (lv1 := [_, _, _, _, _, _]) rfl ?_
          refine A_fg 4 (lv1 := [_, _, _, _, _, _]) rfl ?_
          refine A_fg 5 (lv1 := [_, _, _, _, _, _]) rfl ?_
          rw [nI_1]
          refine WA_h (congrArg (fun z => HM b z ml r n) (Eq.symm (?_ : repayM w i m = _))) (ih (i + 1) (repayM w i m) (by omega) (⟨repayM_s.IM hI.1, repayM_s.TM hI.2.1, repayM_s.fl hI.2.2⟩) (by rw [congrFun repayM_s.w 7]; exact hT))
          rw [repayM]
          exact if_neg c19
  refine A_iconst (v := 0) dX10_dueIn_0 (by decide) ?_
  refine A_istore_n (lv1 := [_, _, _, _, _, _]) dX10_dueIn_1 rfl (Nat.le_of_ble_eq_true rfl) rfl rfl ?_
  obtain ⟨hv, hv6, hc, hc8, hf, hf3, hl, hl8, hw, hw30, gC, gL⟩ := id hI
  exact loop1 nl 0 m (by omega) ⟨hI, hT, hco⟩ (by rw [hTe, dueB, repayB, hl, tcl_nI (by omega)])

theorem k_cropsIn (G : GX) {b : Nat} {m : CT} {ml : Nat → Nat → Int64} {r : Nat → Option AE} {n : Nat} {nv nc nf nl wk : Nat} {w : Int32} (hI : IM m nv nc nf nl wk) : MA G 1 yX10_cropsIn cX10_cropsIn 4 none 0 0 [.ref b, .int w] (HM b m ml r n) (qV fun h1 => h1 = HM b (drinkB w m) ml r n) := by
  refine MA.of (own := RX10) false [some (.ref b), some (.int w), none, none] (by decide +kernel) rfl (fun h => by cases h) (Nat.le_of_ble_eq_true rfl) rfl (fun X => ?_)
  obtain ⟨T, hTe⟩ : ∃ T, T = drinkB w m := ⟨_, rfl⟩
  rw [← hTe]
  have loop : ∀ (k i : Nat) (m : CT), i + k = nc → IM m nv nc nf nl wk → forR (drinkM w) i k m = T → WA X G RX10 cX10_cropsIn false none (qV fun h1 => h1 = HM b T ml r n) 1 0 0 (HM b m ml r n) 0 0 2 [some (.ref b), some (.int w), some (.int (nI i)), none] [] := by
    intro k
    induction k with
    | zero =>
      intro i m hk hI hT
      obtain ⟨hv, hv6, hc, hc8, hf, hf3, hl, hl8, hw, hw30, gC, gL⟩ := id hI
      refine A_iload_n dX10_cropsIn_2 rfl rfl ?_
      refine A_aload_n dX10_cropsIn_3 rfl rfl ?_
      refine A_get dX10_cropsIn_4 f_X10_9 HM_at0 rfl ?_
      refine A_iconst (v := 1) dX10_cropsIn_7 (by decide) ?_
      refine A_ialdK (i := 1) dX10_cropsIn_8 (HM_at (by decide)) rfl (by omega) (by decide) ?_
      refine A_icmp_ge 174 dX10_cropsIn_9 (by decide) (fun c9 => ?_) (fun c9 => ?_)
      · exact A_vret dX10_cropsIn_174 (congrArg (fun z => HM b z ml r n) hT) ⟨by decide, by decide⟩
      · exact absurd (by rw [hc]; exact nI_le (by omega) (by omega)) c9
    | succ k ih =>
      intro i m hk hI hT
      obtain ⟨hv, hv6, hc, hc8, hf, hf3, hl, hl8, hw, hw30, gC, gL⟩ := id hI
      have hi : i < nc := by omega
      refine A_iload_n dX10_cropsIn_2 rfl rfl ?_
      refine A_aload_n dX10_cropsIn_3 rfl rfl ?_
      refine A_get dX10_cropsIn_4 f_X10_9 HM_at0 rfl ?_
      refine A_iconst (v := 1) dX10_cropsIn_7 (by decide) ?_
      refine A_ialdK (i := 1) dX10_cropsIn_8 (HM_at (by decide)) rfl (by omega) (by decide) ?_
      refine A_icmp_ge 174 dX10_cropsIn_9 (by decide) (fun c9 => ?_) (fun c9 => ?_)
      · exact absurd c9 (by rw [hc]; exact nI_ge (by omega) (by omega))
      · refine A_iload_n dX10_cropsIn_12 rfl rfl ?_
        refine A_i2l dX10_cropsIn_13 ?_
        refine A_aload_n dX10_cropsIn_14 rfl rfl ?_
        refine A_iload_n dX10_cropsIn_15 rfl rfl ?_
        refine A_iconst (v := 3) dX10_cropsIn_16 (by decide) ?_
        refine A_callVi dX10_cropsIn_17 m_X10_267 cb_X10_ofCrop (As := [_, _]) rfl HM_at0 rfl (k_ofCrop G 3 (by omega) (by decide)) rfl ⟨by decide, by decide⟩ (Nat.le_of_ble_eq_true rfl) ⟨by decide, by decide⟩ (fun x17 h17 hq => ?_)
        obtain ⟨rfl, rfl⟩ := hq
        refine A_i2l dX10_cropsIn_20 ?_
        refine A_aload_n dX10_cropsIn_21 rfl rfl ?_
        refine A_iload_n dX10_cropsIn_22 rfl rfl ?_
        refine A_iconst (v := 4) dX10_cropsIn_23 (by decide) ?_
        refine A_callVi dX10_cropsIn_24 m_X10_267 cb_X10_ofCrop (As := [_, _]) rfl HM_at0 rfl (k_ofCrop G 4 (by omega) (by decide)) rfl ⟨by decide, by decide⟩ (Nat.le_of_ble_eq_true rfl) ⟨by decide, by decide⟩ (fun x24 h24 hq => ?_)
        obtain ⟨rfl, rfl⟩ := hq
        refine A_i2l dX10_cropsIn_27 ?_
        refine A_callSi dX10_cropsIn_28 m_X10_85 cb_X10_in (As := [_, _, _]) rfl (k_in G) rfl ⟨by decide, by decide⟩ (Nat.le_of_ble_eq_true rfl) ⟨by decide, by decide⟩ (fun x28 h28 hq => ?_)
        obtain ⟨rfl, rfl⟩ := hq
        refine A_if_ne 37 dX10_cropsIn_31 (by decide) (fun c31 => ?_) (fun c31 => ?_)
        · refine A_aload_n dX10_cropsIn_37 rfl rfl ?_
          refine A_iload_n dX10_cropsIn_38 rfl rfl ?_
          refine A_iconst (v := 0) dX10_cropsIn_39 (by decide) ?_
          refine A_callVi dX10_cropsIn_40 m_X10_267 cb_X10_ofCrop (As := [_, _]) rfl HM_at0 rfl (k_ofCrop G 0 (by omega) (by decide)) rfl ⟨by decide, by decide⟩ (Nat.le_of_ble_eq_true rfl) ⟨by decide, by decide⟩ (fun x40 h40 hq => ?_)
          obtain ⟨rfl, rfl⟩ := hq
          refine A_istore_n (lv1 := [_, _, _, _]) dX10_cropsIn_43 rfl (Nat.le_of_ble_eq_true rfl) rfl rfl ?_
          refine A_aload_n dX10_cropsIn_44 rfl rfl ?_
          refine A_get dX10_cropsIn_45 f_X10_34 HM_at0 rfl ?_
          refine A_iload_n dX10_cropsIn_48 rfl rfl ?_
          refine A_iald dX10_cropsIn_49 (HM_at (by decide)) (vp_mono (gC i hi) hv6) ?_
          refine A_aload_n dX10_cropsIn_50 rfl rfl ?_
          refine A_iload_n dX10_cropsIn_51 rfl rfl ?_
          refine A_iconst (v := 1) dX10_cropsIn_52 (by decide) ?_
          refine A_callVi dX10_cropsIn_53 m_X10_267 cb_X10_ofCrop (As := [_, _]) rfl HM_at0 rfl (k_ofCrop G 1 (by omega) (by decide)) rfl ⟨by decide, by decide⟩ (Nat.le_of_ble_eq_true rfl) ⟨by decide, by decide⟩ (fun x53 h53 hq => ?_)
          obtain ⟨rfl, rfl⟩ := hq
          refine A_icmp_lt 111 dX10_cropsIn_56 (by decide) (fun c56 => ?_) (fun c56 => ?_)
          · refine A_aload_n dX10_cropsIn_111 rfl rfl ?_
            refine A_get dX10_cropsIn_112 f_X10_46 HM_at0 rfl ?_
            refine A_iconst (v := 3) dX10_cropsIn_115 (by decide) ?_
            refine A_iload_n dX10_cropsIn_116 rfl rfl ?_
            refine A_imul dX10_cropsIn_117 ?_
            refine A_iconst (v := 1) dX10_cropsIn_118 (by decide) ?_
            refine A_iadd dX10_cropsIn_119 ?_
            refine A_dup2 dX10_cropsIn_120 rfl rfl ?_
            refine A_ialdK (i := ((3 * i) + 1)) dX10_cropsIn_121 (HM_at (by decide)) (ixA (ixU rfl rfl) rfl) (by omega) (by decide) ?_
            refine A_iconst (v := 1) dX10_cropsIn_122 (by decide) ?_
            refine A_iadd dX10_cropsIn_123 ?_
            refine A_iastMK (i := ((3 * i) + 1)) dX10_cropsIn_124 (by decide) (fun _ => rfl) (ixA (ixU rfl rfl) rfl) (by omega) (by decide) ?_
            refine A_aload_n dX10_cropsIn_125 rfl rfl ?_
            refine A_get dX10_cropsIn_126 f_X10_46 HM_at0 rfl ?_
            refine A_iconst (v := 3) dX10_cropsIn_129 (by decide) ?_
            refine A_iload_n dX10_cropsIn_130 rfl rfl ?_
            refine A_imul dX10_cropsIn_131 ?_
            refine A_iconst (v := 2) dX10_cropsIn_132 (by decide) ?_
            refine A_iadd dX10_cropsIn_133 ?_
            refine A_aload_n dX10_cropsIn_134 rfl rfl ?_
            refine A_get dX10_cropsIn_135 f_X10_46 HM_at0 rfl ?_
            refine A_iconst (v := 3) dX10_cropsIn_138 (by decide) ?_
            refine A_iload_n dX10_cropsIn_139 rfl rfl ?_
            refine A_imul dX10_cropsIn_140 ?_
            refine A_iconst (v := 2) dX10_cropsIn_141 (by decide) ?_
            refine A_iadd dX10_cropsIn_142 ?_
            refine A_ialdK (i := ((3 * i) + 2)) dX10_cropsIn_143 (HM_at (by decide)) (ixA (ixU rfl rfl) rfl) (by omega) (by decide) ?_
            refine A_iconst (v := (-1)) dX10_cropsIn_144 (by decide) ?_
            refine A_icmp_ne 152 dX10_cropsIn_145 (by decide) (fun c145 => ?_) (fun c145 => ?_)
            · refine A_aload_n dX10_cropsIn_152 rfl rfl ?_
              refine A_get dX10_cropsIn_153 f_X10_46 HM_at0 rfl ?_
              refine A_iconst (v := 3) dX10_cropsIn_156 (by decide) ?_
              refine A_iload_n dX10_cropsIn_157 rfl rfl ?_
              refine A_imul dX10_cropsIn_158 ?_
              refine A_iconst (v := 2) dX10_cropsIn_159 (by decide) ?_
              refine A_iadd dX10_cropsIn_160 ?_
              refine A_ialdK (i := ((3 * i) + 2)) dX10_cropsIn_161 (HM_at (by decide)) (ixA (ixU rfl rfl) rfl) (by omega) (by decide) ?_
              refine A_eqI (y := fdM w ((put m 11 (3 * i + 1) (m 11 (3 * i + 1) + 1)) 11 (3 * i + 2))) (by rw [fdM, if_neg c145]) ?_
              refine A_iastMK (i := ((3 * i) + 2)) dX10_cropsIn_162 (by decide) (fun _ => rfl) (ixA (ixU rfl rfl) rfl) (by omega) (by decide) ?_
              refine A_aload_n dX10_cropsIn_163 rfl rfl ?_
              refine A_iload_n dX10_cropsIn_164 rfl rfl ?_
              refine A_callVv dX10_cropsIn_165 m_X10_264 cb_X10_wrongIn (As := [_]) rfl HM_at0 rfl (k_wrongIn G) rfl ⟨by decide, by decide⟩ (Nat.le_of_ble_eq_true rfl) ⟨by decide, by decide⟩ (fun h165 hq => ?_)
              obtain ⟨rfl, rfl⟩ := hq
              refine A_inc 1 (lv1 := [_, _, _, _]) dX10_cropsIn_168 rfl (by decide) rfl rfl ?_
              refine A_goto 2 dX10_cropsIn_171 (by decide) ?_
              refine A_fg 3 (lv1 := [_, _, _, _]) rfl ?_
              rw [nI_1]
              refine WA_h (congrArg (fun z => HM b z ml r n) (Eq.symm (?_ : drinkM w i m = _))) (ih (i + 1) (drinkM w i m) (by omega) (drinkM_s.IM hI) hT)
              rw [drinkM, if_neg c31]
              exact if_pos c56
            · refine A_iload_n dX10_cropsIn_148 rfl rfl ?_
              refine A_goto 162 dX10_cropsIn_149 (by decide) ?_
              refine A_eqI (y := fdM w ((put m 11 (3 * i + 1) (m 11 (3 * i + 1) + 1)) 11 (3 * i + 2))) (by rw [fdM, if_pos c145]) ?_
              refine A_iastMK (i := ((3 * i) + 2)) dX10_cropsIn_162 (by decide) (fun _ => rfl) (ixA (ixU rfl rfl) rfl) (by omega) (by decide) ?_
              refine A_aload_n dX10_cropsIn_163 rfl rfl ?_
              refine A_iload_n dX10_cropsIn_164 rfl rfl ?_
              refine A_callVv dX10_cropsIn_165 m_X10_264 cb_X10_wrongIn (As := [_]) rfl HM_at0 rfl (k_wrongIn G) rfl ⟨by decide, by decide⟩ (Nat.le_of_ble_eq_true rfl) ⟨by decide, by decide⟩ (fun h165 hq => ?_)
              obtain ⟨rfl, rfl⟩ := hq
              refine A_inc 1 (lv1 := [_, _, _, _]) dX10_cropsIn_168 rfl (by decide) rfl rfl ?_
              refine A_goto 2 dX10_cropsIn_171 (by decide) ?_
              refine A_fg 3 (lv1 := [_, _, _, _]) rfl ?_
              rw [nI_1]
              refine WA_h (congrArg (fun z => HM b z ml r n) (Eq.symm (?_ : drinkM w i m = _))) (ih (i + 1) (drinkM w i m) (by omega) (drinkM_s.IM hI) hT)
              rw [drinkM, if_neg c31]
              exact if_pos c56
          · refine A_aload_n dX10_cropsIn_59 rfl rfl ?_
            refine A_get dX10_cropsIn_60 f_X10_34 HM_at0 rfl ?_
            refine A_iload_n dX10_cropsIn_63 rfl rfl ?_
            refine A_dup2 dX10_cropsIn_64 rfl rfl ?_
            refine A_iald dX10_cropsIn_65 (HM_at (by decide)) (vp_mono (gC i hi) hv6) ?_
            refine A_aload_n dX10_cropsIn_66 rfl rfl ?_
            refine A_iload_n dX10_cropsIn_67 rfl rfl ?_
            refine A_iconst (v := 1) dX10_cropsIn_68 (by decide) ?_
            refine A_callVi dX10_cropsIn_69 m_X10_267 cb_X10_ofCrop (As := [_, _]) rfl HM_at0 rfl (k_ofCrop G 1 (by omega) (by decide)) rfl ⟨by decide, by decide⟩ (Nat.le_of_ble_eq_true rfl) ⟨by decide, by decide⟩ (fun x69 h69 hq => ?_)
            obtain ⟨rfl, rfl⟩ := hq
            refine A_isub dX10_cropsIn_72 ?_
            refine A_iastM dX10_cropsIn_73 (by decide) (fun _ => rfl) (vp_mono (gC i hi) hv6) ?_
            refine A_aload_n dX10_cropsIn_74 rfl rfl ?_
            refine A_dup dX10_cropsIn_75 rfl ?_
            refine A_get dX10_cropsIn_76 f_X10_270 HM_at0 rfl ?_
            refine A_aload_n dX10_cropsIn_79 rfl rfl ?_
            refine A_iload_n dX10_cropsIn_80 rfl rfl ?_
            refine A_iconst (v := 1) dX10_cropsIn_81 (by decide) ?_
            refine A_callVi dX10_cropsIn_82 m_X10_267 cb_X10_ofCrop (As := [_, _]) rfl HM_at0 rfl (k_ofCrop G 1 (by omega) (by decide)) rfl ⟨by decide, by decide⟩ (Nat.le_of_ble_eq_true rfl) ⟨by decide, by decide⟩ (fun x82 h82 hq => ?_)
            obtain ⟨rfl, rfl⟩ := hq
            refine A_iadd dX10_cropsIn_85 ?_
            refine A_putM0 dX10_cropsIn_86 p_X10_270 rfl (Nat.le_of_ble_eq_true rfl) rfl ?_
            refine A_aload_n dX10_cropsIn_89 rfl rfl ?_
            refine A_get dX10_cropsIn_90 f_X10_46 HM_at0 rfl ?_
            refine A_iconst (v := 3) dX10_cropsIn_93 (by decide) ?_
            refine A_iload_n dX10_cropsIn_94 rfl rfl ?_
            refine A_imul dX10_cropsIn_95 ?_
            refine A_iconst (v := 0) dX10_cropsIn_96 (by decide) ?_
            refine A_iadd dX10_cropsIn_97 ?_
            refine A_dup2 dX10_cropsIn_98 rfl rfl ?_
            refine A_ialdK (i := ((3 * i) + 0)) dX10_cropsIn_99 (HM_at (by decide)) (ixA (ixU rfl rfl) rfl) (by omega) (by decide) ?_
            refine A_aload_n dX10_cropsIn_100 rfl rfl ?_
            refine A_iload_n dX10_cropsIn_101 rfl rfl ?_
            refine A_iconst (v := 2) dX10_cropsIn_102 (by decide) ?_
            refine A_callVi dX10_cropsIn_103 m_X10_267 cb_X10_ofCrop (As := [_, _]) rfl HM_at0 rfl (k_ofCrop G 2 (by omega) (by decide)) rfl ⟨by decide, by decide⟩ (Nat.le_of_ble_eq_true rfl) ⟨by decide, by decide⟩ (fun x103 h103 hq => ?_)
            obtain ⟨rfl, rfl⟩ := hq
            refine A_iadd dX10_cropsIn_106 ?_
            refine A_iastMK (i := ((3 * i) + 0)) dX10_cropsIn_107 (by decide) (fun _ => rfl) (ixA (ixU rfl rfl) rfl) (by omega) (by decide) ?_
            refine A_goto 168 dX10_cropsIn_108 (by decide) ?_
            refine A_inc 1 (lv1 := [_, _, _, _]) dX10_cropsIn_168 rfl (by decide) rfl rfl ?_
            refine A_goto 2 dX10_cropsIn_171 (by decide) ?_
            refine A_fg 3 (lv1 := [_, _, _, _]) rfl ?_
            rw [nI_1]
            refine WA_h (congrArg (fun z => HM b z ml r n) (Eq.symm (?_ : drinkM w i m = _))) (ih (i + 1) (drinkM w i m) (by omega) (drinkM_s.IM hI) hT)
            rw [drinkM, if_neg c31]
            exact if_neg c56
        · refine A_goto 168 dX10_cropsIn_34 (by decide) ?_
          refine A_inc 1 (lv1 := [_, _, _, _]) dX10_cropsIn_168 rfl (by decide) rfl rfl ?_
          refine A_goto 2 dX10_cropsIn_171 (by decide) ?_
          refine A_fg 3 (lv1 := [_, _, _, _]) rfl ?_
          rw [nI_1]
          refine WA_h (congrArg (fun z => HM b z ml r n) (Eq.symm (?_ : drinkM w i m = _))) (ih (i + 1) (drinkM w i m) (by omega) (drinkM_s.IM hI) hT)
          rw [drinkM]
          exact if_pos c31
  refine A_iconst (v := 0) dX10_cropsIn_0 (by decide) ?_
  refine A_istore_n (lv1 := [_, _, _, _]) dX10_cropsIn_1 rfl (Nat.le_of_ble_eq_true rfl) rfl rfl ?_
  obtain ⟨hv, hv6, hc, hc8, hf, hf3, hl, hl8, hw, hw30, gC, gL⟩ := id hI
  refine loop nc 0 m (by omega) hI (by rw [hTe]; rw [drinkB, hc, tcl_nI (by omega)])
