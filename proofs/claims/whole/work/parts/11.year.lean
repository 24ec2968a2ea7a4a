/-! THE YEAR of the class: what each step does to what the cells hold -/
abbrev CT : Type := Nat → Nat → Int32
def roomF (c : CT) (v : Nat) : Int32 := c 8 (5 * v + 0) - c 30 v
def moreF (c : CT) (x : Int32) : Int32 := x + (x * c 28 2 + 100 - 1) / 100
def noteF (w : Int32) (c : CT) : CT := if c 28 19 = -1 then put c 28 19 w else c
def takeS (w : Int32) (i : Nat) (c : CT) : CT :=
  if c 29 i = -1 then c else if c 12 (4 * i + 0) = w then
    let c1 := put c 32 i (mn (c 12 (4 * i + 1)) (roomF c (tcl (c 29 i))))
    let c2 := put c1 33 i (moreF c1 (c1 32 i))
    put c2 30 (tcl (c 29 i)) (c2 30 (tcl (c 29 i)) + c2 32 i)
  else c
def lendS (w : Int32) (i : Nat) (c : CT) : CT :=
  if c 14 (5 * i + 3) = w then if c 14 (5 * i + 0) = c 28 3 then c else
    let c1 := put c 35 i (mn (mn (c 14 (5 * i + 2)) (c 30 (tcl (c 14 (5 * i + 0))))) (roomF c (tcl (c 14 (5 * i + 1)))))
    let c2 := put c1 36 i (moreF c1 (c1 35 i))
    let c3 := put c2 30 (tcl (c 14 (5 * i + 0))) (c2 30 (tcl (c 14 (5 * i + 0))) - c2 35 i)
    put c3 30 (tcl (c 14 (5 * i + 1))) (c3 30 (tcl (c 14 (5 * i + 1))) + c3 35 i)
  else c
def repayS (w : Int32) (i : Nat) (c : CT) : CT :=
  if c 14 (5 * i + 4) = w then
    let c1 := put c 37 i (mn (mn (c 36 i) (c 30 (tcl (c 14 (5 * i + 1))))) (roomF c (tcl (c 14 (5 * i + 0)))))
    let c2 := put c1 30 (tcl (c 14 (5 * i + 1))) (c1 30 (tcl (c 14 (5 * i + 1))) - c1 37 i)
    let c3 := put c2 30 (tcl (c 14 (5 * i + 0))) (c2 30 (tcl (c 14 (5 * i + 0))) + c2 37 i)
    if c3 36 i ≤ c3 37 i then c3 else noteF w c3
  else c
def giveS (w : Int32) (i : Nat) (c : CT) : CT :=
  if c 29 i = -1 then c else
    let c1 := put c 34 i (mn (c 33 i) (c 30 (tcl (c 29 i))))
    let c2 := put c1 30 (tcl (c 29 i)) (c1 30 (tcl (c 29 i)) - c1 34 i)
    if c2 33 i ≤ c2 34 i then c2 else noteF w c2
def dryF (w : Int32) (i v : Nat) (c : CT) : CT :=
  let c1 := if c 39 i = 0 then put c 40 i w else c
  let c2 := put c1 39 i (c1 39 i + 1)
  let c3 := put c2 41 v 1
  noteF w c3
def drinkS (w : Int32) (i : Nat) (c : CT) : CT :=
  if w < c 10 (5 * i + 3) then c else if c 10 (5 * i + 4) < w then c else
    if c 30 (tcl (c 10 (5 * i + 0))) < c 10 (5 * i + 1) then dryF w i (tcl (c 10 (5 * i + 0))) c else
      let c1 := put c 30 (tcl (c 10 (5 * i + 0))) (c 30 (tcl (c 10 (5 * i + 0))) - c 10 (5 * i + 1))
      let c2 := put c1 28 18 (c1 28 18 + c 10 (5 * i + 1))
      put c2 38 i (c2 38 i + c2 10 (5 * i + 2))
def skyS (s : Int32) (i : Nat) (c : CT) : CT :=
  let c1 := put c 30 i (c 30 i - mn (c 30 i) (c 8 (5 * i + 2) * s / 100))
  put c1 28 16 (c1 28 16 + mn (c 30 i) (c 8 (5 * i + 2) * s / 100))
def seepS (N i : Nat) (c : CT) : CT :=
  let lost := mn (c 30 i) (c 8 (5 * i + 3))
  if i + 1 < N then
    let caught := mn lost (roomF c (i + 1))
    let c1 := put c 30 i (c 30 i - lost)
    let c2 := put c1 30 (i + 1) (c1 30 (i + 1) + caught)
    put c2 28 17 (c2 28 17 + (lost - caught))
  else
    let c1 := put c 30 i (c 30 i - lost)
    put c1 28 17 (c1 28 17 + (lost - 0))
def seepR (N : Nat) : Nat → CT → CT
  | 0, c => c
  | i + 1, c => seepR N i (seepS N i c)
def wbS (w : Nat) (i : Nat) (c : CT) : CT := put c 31 (i * 30 + w) (c 30 i)
def takeA (w : Int32) (c : CT) : CT := forR (takeS w) 0 (tcl (c 11 2)) c
def lendA (w : Int32) (c : CT) : CT := forR (lendS w) 0 (tcl (c 13 2)) c
def repayA (w : Int32) (c : CT) : CT := forR (repayS w) 0 (tcl (c 13 2)) c
def giveA (w : Int32) (c : CT) : CT := forR (giveS w) 0 (tcl (c 11 2)) c
def drinkA (w : Int32) (c : CT) : CT := forR (drinkS w) 0 (tcl (c 9 2)) c
def skyA (w : Nat) (c : CT) : CT := forR (skyS (c 15 w)) 0 (tcl (c 7 2)) c
def seepA (c : CT) : CT := seepR (tcl (c 7 2)) (tcl (c 7 2)) c
def wbA (w : Nat) (c : CT) : CT := forR (wbS w) 0 (tcl (c 7 2)) c
def passF (w : Nat) (c : CT) : CT :=
  let c3 := repayA (nI w) (lendA (nI w) (takeA (nI w) c))
  let c4 := if nI w = c3 6 8 then giveA (nI w) c3 else c3
  wbA w (seepA (skyA w (drinkA (nI w) c4)))
def runF (c : CT) : CT := forR passF 0 (tcl (c 6 6)) c
/-- the steps leave the PLAIN and the TAKERS of the YEAR as they are -/
def sameP (c c' : CT) : Prop := ∀ l, l ≤ 27 ∨ l = 29 ∨ 42 ≤ l → c' l = c l
theorem sameP.rf {c : CT} : sameP c c := fun _ _ => rfl
theorem sameP.tr {a b c : CT} (h : sameP a b) (h2 : sameP b c) : sameP a c := fun l hl => (h2 l hl).trans (h l hl)
theorem sameP.put {c : CT} {k i : Nat} {v : Int32} (hk : ¬ (k ≤ 27 ∨ k = 29 ∨ 42 ≤ k)) : sameP c (put c k i v) := fun l hl => put_ne (fun e => hk (e ▸ hl))
theorem sameP.put2 {a c : CT} {k i : Nat} {v : Int32} (h : sameP a c) (hk : ¬ (k ≤ 27 ∨ k = 29 ∨ 42 ≤ k)) : sameP a (_root_.Jvm.Pilot.@@N@@.put c k i v) := h.tr (sameP.put hk)
theorem noteF_P {w : Int32} {c : CT} : sameP c (noteF w c) := by
  unfold noteF; split
  · exact sameP.put (by decide)
  · exact sameP.rf
theorem takeS_P {w : Int32} {i : Nat} {c : CT} : sameP c (takeS w i c) := by
  unfold takeS; split
  · exact sameP.rf
  · split
    · exact ((sameP.put (by decide)).put2 (by decide)).put2 (by decide)
    · exact sameP.rf
theorem lendS_P {w : Int32} {i : Nat} {c : CT} : sameP c (lendS w i c) := by
  unfold lendS; split
  · split
    · exact sameP.rf
    · exact (((sameP.put (by decide)).put2 (by decide)).put2 (by decide)).put2 (by decide)
  · exact sameP.rf
theorem repayS_P {w : Int32} {i : Nat} {c : CT} : sameP c (repayS w i c) := by
  unfold repayS; split
  · dsimp only
    split
    · exact ((sameP.put (by decide)).put2 (by decide)).put2 (by decide)
    · exact (((sameP.put (by decide)).put2 (by decide)).put2 (by decide)).tr noteF_P
  · exact sameP.rf
theorem giveS_P {w : Int32} {i : Nat} {c : CT} : sameP c (giveS w i c) := by
  unfold giveS; split
  · exact sameP.rf
  · dsimp only
    split
    · exact (sameP.put (by decide)).put2 (by decide)
    · exact ((sameP.put (by decide)).put2 (by decide)).tr noteF_P
theorem dryF_P {w : Int32} {i v : Nat} {c : CT} : sameP c (dryF w i v c) := by
  unfold dryF; dsimp only
  refine sameP.tr ?_ noteF_P
  refine sameP.put2 (sameP.put2 ?_ (by decide)) (by decide)
  split
  · exact sameP.put (by decide)
  · exact sameP.rf
theorem drinkS_P {w : Int32} {i : Nat} {c : CT} : sameP c (drinkS w i c) := by
  unfold drinkS; split
  · exact sameP.rf
  · split
    · exact sameP.rf
    · split
      · exact dryF_P
      · exact ((sameP.put (by decide)).put2 (by decide)).put2 (by decide)
theorem skyS_P {s : Int32} {i : Nat} {c : CT} : sameP c (skyS s i c) := (sameP.put (by decide)).put2 (by decide)
theorem seepS_P {N i : Nat} {c : CT} : sameP c (seepS N i c) := by
  unfold seepS; dsimp only; split
  · exact ((sameP.put (by decide)).put2 (by decide)).put2 (by decide)
  · exact (sameP.put (by decide)).put2 (by decide)
theorem wbS_P {w i : Nat} {c : CT} : sameP c (wbS w i c) := sameP.put (by decide)
theorem forR_P {f : Nat → CT → CT} (h : ∀ i c, sameP c (f i c)) {i k : Nat} {c : CT} : sameP c (forR f i k c) := forR_keep (fun z => sameP c z) (fun i z hz => hz.tr (h i z)) k i c sameP.rf
theorem seepR_P {N : Nat} : ∀ {k : Nat} {c : CT}, sameP c (seepR N k c)
  | 0, _ => sameP.rf
  | k + 1, c => (seepS_P (N := N) (i := k) (c := c)).tr seepR_P
theorem takeA_P {w : Int32} {c : CT} : sameP c (takeA w c) := forR_P (fun _ _ => takeS_P)
theorem lendA_P {w : Int32} {c : CT} : sameP c (lendA w c) := forR_P (fun _ _ => lendS_P)
theorem repayA_P {w : Int32} {c : CT} : sameP c (repayA w c) := forR_P (fun _ _ => repayS_P)
theorem giveA_P {w : Int32} {c : CT} : sameP c (giveA w c) := forR_P (fun _ _ => giveS_P)
theorem drinkA_P {w : Int32} {c : CT} : sameP c (drinkA w c) := forR_P (fun _ _ => drinkS_P)
theorem skyA_P {w : Nat} {c : CT} : sameP c (skyA w c) := forR_P (fun _ _ => skyS_P)
theorem seepA_P {c : CT} : sameP c (seepA c) := seepR_P
theorem wbA_P {w : Nat} {c : CT} : sameP c (wbA w c) := forR_P (fun _ _ => wbS_P)
theorem passF_P {w : Nat} {c : CT} : sameP c (passF w c) := by
  unfold passF; dsimp only
  refine sameP.tr ?_ (((drinkA_P.tr skyA_P).tr seepA_P).tr wbA_P)
  refine (((takeA_P (w := nI w)).tr (lendA_P (w := nI w))).tr (repayA_P (w := nI w))).tr ?_
  split
  · exact giveA_P
  · exact sameP.rf
theorem runF_P {c : CT} : sameP c (runF c) := forR_P (fun _ _ => passF_P)
/-- the numbers by which the rows are read: how many of each there are, and that what is named is there -/
def IX (c : CT) (nv nc nf nl wk : Nat) : Prop := c 7 2 = nI nv ∧ nv ≤ 6 ∧ c 9 2 = nI nc ∧ nc ≤ 8 ∧ c 11 2 = nI nf ∧ nf ≤ 3 ∧ c 13 2 = nI nl ∧ nl ≤ 8 ∧ c 6 6 = nI wk ∧ wk ≤ 30 ∧ (∀ i, i < nc → vp_in (c 10 (5 * i + 0)) nv) ∧ (∀ i, i < nl → vp_in (c 14 (5 * i + 0)) nv ∧ vp_in (c 14 (5 * i + 1)) nv)
def TX (c : CT) (nv nf : Nat) : Prop := ∀ i, i < nf → c 29 i ≠ -1 → vp_in (c 29 i) nv
theorem IX.to {c c' : CT} {nv nc nf nl wk : Nat} (h : IX c nv nc nf nl wk) (e : ∀ l, l ≤ 15 → c' l = c l) : IX c' nv nc nf nl wk := by
  unfold IX at *
  rw [e 7 (by decide), e 9 (by decide), e 11 (by decide), e 13 (by decide), e 6 (by decide), e 10 (by decide), e 14 (by decide)]
  exact h
theorem IX.P {c c' : CT} {nv nc nf nl wk : Nat} (h : IX c nv nc nf nl wk) (e : sameP c c') : IX c' nv nc nf nl wk := h.to (fun l hl => e l (Or.inl (by omega)))
theorem TX.P {c c' : CT} {nv nf : Nat} (h : TX c nv nf) (e : sameP c c') : TX c' nv nf := by
  unfold TX at *
  rw [e 29 (Or.inr (Or.inl rfl))]
  exact h

theorem put_self (c : CT) (k i : Nat) : put c k i (c k i) = c := by
  funext l j
  by_cases h : l = k
  · subst h
    by_cases h2 : j = i
    · subst h2; rw [put_at]
    · rw [put_no h2]
  · rw [put_ne h]
theorem c_waterOf (G : GX) {b : Nat} {c : CT} {co : Nat → Nat → Option Nat} {r : Nat → Option AE} {n : Nat} {x : Int32} (hx : vp_in x 6) : MA G 0 yX8_waterOf cX8_waterOf 2 (some .int) 0 0 [.ref (b + 28), .int x] (HC b c co r n) (qI fun y h1 => y = c 30 (tcl x) ∧ h1 = (HC b c co r n)) := by
  refine MA.of (own := RX8) false [some (.ref (b + 28)), some (.int x)] (by decide +kernel) rfl (fun h => by cases h) (Nat.le_of_ble_eq_true rfl) rfl (fun X => ?_)
  obtain ⟨j, hj, rfl⟩ := vp_in_of hx (by decide)
  refine A_iload_n dX8_waterOf_0 rfl rfl ?_
  refine A_if_lt 19 dX8_waterOf_1 (by decide) (fun c1 => ?_) (fun c1 => ?_)
  · exact absurd c1 (nI_pos (by omega))
  · refine A_iload_n dX8_waterOf_4 rfl rfl ?_
    refine A_bipush (v := 6) dX8_waterOf_5 (by decide) ?_
    refine A_icmp_ge 19 dX8_waterOf_7 (by decide) (fun c7 => ?_) (fun c7 => ?_)
    · exact absurd c7 (nI_ge (b := 6) hj (by decide))
    · refine A_aload_n dX8_waterOf_10 rfl rfl ?_
      refine A_get dX8_waterOf_11 f_X8_15 (HC_at (by decide)) rfl ?_
      refine A_iload_n dX8_waterOf_14 rfl rfl ?_
      refine A_ialdN dX8_waterOf_15 (HC_at (by decide)) (by omega) (by decide) ?_
      refine A_goto 20 dX8_waterOf_16 (by decide) ?_
      exact A_iret dX8_waterOf_20 ⟨by rw [tcl, nI_clamp (by omega)], rfl⟩ ⟨by decide, by decide⟩

theorem c_addW (G : GX) {b : Nat} {c : CT} {co : Nat → Nat → Option Nat} {r : Nat → Option AE} {n : Nat} {x v : Int32} (hx : vp_in x 6) : MA G 0 yX8_add cX8_add 3 none 0 0 [.ref (b + 28), .int x, .int v] (HC b c co r n) (qV fun h1 => h1 = HC b (put c 30 (tcl x) (c 30 (tcl x) + v)) co r n) := by
  refine MA.of (own := RX8) false [some (.ref (b + 28)), some (.int x), some (.int v)] (by decide +kernel) rfl (fun h => by cases h) (Nat.le_of_ble_eq_true rfl) rfl (fun X => ?_)
  obtain ⟨j, hj, rfl⟩ := vp_in_of hx (by decide)
  refine A_iload_n dX8_add_0 rfl rfl ?_
  refine A_if_lt 20 dX8_add_1 (by decide) (fun c1 => ?_) (fun c1 => ?_)
  · exact absurd c1 (nI_pos (by omega))
  · refine A_iload_n dX8_add_4 rfl rfl ?_
    refine A_bipush (v := 6) dX8_add_5 (by decide) ?_
    refine A_icmp_ge 20 dX8_add_7 (by decide) (fun c7 => ?_) (fun c7 => ?_)
    · exact absurd c7 (nI_ge (b := 6) hj (by decide))
    · refine A_aload_n dX8_add_10 rfl rfl ?_
      refine A_get dX8_add_11 f_X8_15 (HC_at (by decide)) rfl ?_
      refine A_iload_n dX8_add_14 rfl rfl ?_
      refine A_dup2 dX8_add_15 rfl rfl ?_
      refine A_ialdN dX8_add_16 (HC_at (by decide)) (by omega) (by decide) ?_
      refine A_iload_n dX8_add_17 rfl rfl ?_
      refine A_iadd dX8_add_18 ?_
      refine A_iastCN dX8_add_19 (by decide) (fun _ => rfl) (by omega) (by decide) ?_
      exact A_vret dX8_add_20 (by rw [tcl, nI_clamp (by omega)]) ⟨by decide, by decide⟩

theorem c_addN (G : GX) {b : Nat} {c : CT} {co : Nat → Nat → Option Nat} {r : Nat → Option AE} {n : Nat} {x v : Int32} (hx : vp_in x 6) : MA G 0 yX8_add cX8_add 3 none 0 0 [.ref (b + 28), .int x, .int (-v)] (HC b c co r n) (qV fun h1 => h1 = HC b (put c 30 (tcl x) (c 30 (tcl x) - v)) co r n) := by
  have e := c_addW G (b := b) (c := c) (co := co) (r := r) (n := n) (v := -v) hx
  rw [← Int32.sub_eq_add_neg] at e
  exact e
theorem c_wasDry (G : GX) {b : Nat} {c : CT} {co : Nat → Nat → Option Nat} {r : Nat → Option AE} {n : Nat} {x : Int32} (hx : vp_in x 6) : MA G 0 yX8_wasDry cX8_wasDry 2 (some .boolean) 0 0 [.ref (b + 28), .int x] (HC b c co r n) (qI fun y h1 => y = (if c 41 (tcl x) = 0 then 0 else 1) ∧ h1 = (HC b c co r n)) := by
  refine MA.of (own := RX8) false [some (.ref (b + 28)), some (.int x)] (by decide +kernel) rfl (fun h => by cases h) (Nat.le_of_ble_eq_true rfl) rfl (fun X => ?_)
  obtain ⟨j, hj, rfl⟩ := vp_in_of hx (by decide)
  refine A_iload_n dX8_wasDry_0 rfl rfl ?_
  refine A_if_lt 23 dX8_wasDry_1 (by decide) (fun c1 => ?_) (fun c1 => ?_)
  · exact absurd c1 (nI_pos (by omega))
  · refine A_iload_n dX8_wasDry_4 rfl rfl ?_
    refine A_bipush (v := 6) dX8_wasDry_5 (by decide) ?_
    refine A_icmp_ge 23 dX8_wasDry_7 (by decide) (fun c7 => ?_) (fun c7 => ?_)
    · exact absurd c7 (nI_ge (b := 6) hj (by decide))
    · refine A_aload_n dX8_wasDry_10 rfl rfl ?_
      refine A_get dX8_wasDry_11 f_X8_48 (HC_at (by decide)) rfl ?_
      refine A_iload_n dX8_wasDry_14 rfl rfl ?_
      refine A_zaldN dX8_wasDry_15 (HC_at (by decide)) (by omega) (by decide) ?_
      refine A_if_eq 23 dX8_wasDry_16 (by decide) (fun c16 => ?_) (fun c16 => ?_)
      · refine A_iconst (v := 0) dX8_wasDry_23 (by decide) ?_
        exact A_zret dX8_wasDry_24 rfl ⟨by rw [tcl, nI_clamp (by omega), if_pos c16], rfl⟩ ⟨by decide, by decide⟩
      · refine A_iconst (v := 1) dX8_wasDry_19 (by decide) ?_
        refine A_goto 24 dX8_wasDry_20 (by decide) ?_
        exact A_zret dX8_wasDry_24 rfl ⟨by rw [tcl, nI_clamp (by omega), if_neg c16], rfl⟩ ⟨by decide, by decide⟩

theorem c_sunIn (G : GX) {b : Nat} {c : CT} {co : Nat → Nat → Option Nat} {r : Nat → Option AE} {n : Nat} {w : Nat} (hw : w < 30) : MA G 0 yX2_sunIn cX2_sunIn 2 (some .int) 0 0 [.ref (b + 6), .int (nI w)] (HC b c co r n) (qI fun y h1 => y = c 15 w ∧ h1 = (HC b c co r n)) := by
  refine MA.of (own := RX2) false [some (.ref (b + 6)), some (.int (nI w))] (by decide +kernel) rfl (fun h => by cases h) (Nat.le_of_ble_eq_true rfl) rfl (fun X => ?_)
  refine A_iload_n dX2_sunIn_0 rfl rfl ?_
  refine A_if_lt 19 dX2_sunIn_1 (by decide) (fun c1 => ?_) (fun c1 => ?_)
  · exact absurd c1 (nI_pos (by omega))
  · refine A_iload_n dX2_sunIn_4 rfl rfl ?_
    refine A_bipush (v := 30) dX2_sunIn_5 (by decide) ?_
    refine A_icmp_ge 19 dX2_sunIn_7 (by decide) (fun c7 => ?_) (fun c7 => ?_)
    · exact absurd c7 (nI_ge (b := 30) hw (by decide))
    · refine A_aload_n dX2_sunIn_10 rfl rfl ?_
      refine A_get dX2_sunIn_11 f_X2_29 (HC_at (by decide)) rfl ?_
      refine A_iload_n dX2_sunIn_14 rfl rfl ?_
      refine A_ialdN dX2_sunIn_15 (HC_at (by decide)) (by omega) (by decide) ?_
      refine A_goto 20 dX2_sunIn_16 (by decide) ?_
      exact A_iret dX2_sunIn_20 ⟨rfl, rfl⟩ ⟨by decide, by decide⟩

theorem c_roomOf (G : GX) {b : Nat} {c : CT} {co : Nat → Nat → Option Nat} {r : Nat → Option AE} {n : Nat} {nv nc nf nl wk : Nat} {x : Int32} (hI : IX c nv nc nf nl wk) (hx : vp_in x nv) : MA G 1 yX8_roomOf cX8_roomOf 2 (some .int) 0 0 [.ref (b + 28), .int x] (HC b c co r n) (qI fun y h1 => y = roomF c (tcl x) ∧ h1 = (HC b c co r n)) := by
  refine MA.of (own := RX8) false [some (.ref (b + 28)), some (.int x)] (by decide +kernel) rfl (fun h => by cases h) (Nat.le_of_ble_eq_true rfl) rfl (fun X => ?_)
  obtain ⟨hv, hv6, hc, hc8, hf, hf3, hl, hl8, hw, hw30, gC, gL⟩ := id hI
  refine A_aload_n dX8_roomOf_0 rfl rfl ?_
  refine A_get dX8_roomOf_1 f_X8_52 (HC_at (by decide)) rfl ?_
  refine A_get dX8_roomOf_4 f_X8_78 (HC_at (by decide)) rfl ?_
  refine A_iload_n dX8_roomOf_7 rfl rfl ?_
  refine A_iconst (v := 0) dX8_roomOf_8 (by decide) ?_
  refine A_callVi dX8_roomOf_9 m_X8_72 cb_X3_at (As := [_, _]) rfl (HC_at (by decide)) rfl (c_at7v G b _ co r n 0 hv hv6 hx (by decide)) rfl ⟨by decide, by decide⟩ (Nat.le_of_ble_eq_true rfl) ⟨by decide, by decide⟩ (fun x9 h9 hq => ?_)
  obtain ⟨rfl, rfl⟩ := hq
  refine A_aload_n dX8_roomOf_12 rfl rfl ?_
  refine A_iload_n dX8_roomOf_13 rfl rfl ?_
  refine A_callVi dX8_roomOf_14 m_X8_137 cb_X8_waterOf (As := [_]) rfl (HC_at (by decide)) rfl (c_waterOf G (vp_mono hx hv6)) rfl ⟨by decide, by decide⟩ (Nat.le_of_ble_eq_true rfl) ⟨by decide, by decide⟩ (fun x14 h14 hq => ?_)
  obtain ⟨rfl, rfl⟩ := hq
  refine A_isub dX8_roomOf_17 ?_
  exact A_iret dX8_roomOf_18 ⟨rfl, rfl⟩ ⟨by decide, by decide⟩

theorem c_withMore (G : GX) {b : Nat} {c : CT} {co : Nat → Nat → Option Nat} {r : Nat → Option AE} {n : Nat} {x : Int32} : MA G 0 yX8_withMore cX8_withMore 2 (some .int) 0 0 [.ref (b + 28), .int x] (HC b c co r n) (qI fun y h1 => y = moreF c x ∧ h1 = (HC b c co r n)) := by
  refine MA.of (own := RX8) false [some (.ref (b + 28)), some (.int x)] (by decide +kernel) rfl (fun h => by cases h) (Nat.le_of_ble_eq_true rfl) rfl (fun X => ?_)
  refine A_iload_n dX8_withMore_0 rfl rfl ?_
  refine A_iload_n dX8_withMore_1 rfl rfl ?_
  refine A_aload_n dX8_withMore_2 rfl rfl ?_
  refine A_get dX8_withMore_3 f_X8_62 (HC_at (by decide)) rfl ?_
  refine A_imul dX8_withMore_6 ?_
  refine A_bipush (v := 100) dX8_withMore_7 (by decide) ?_
  refine A_iadd dX8_withMore_9 ?_
  refine A_iconst (v := 1) dX8_withMore_10 (by decide) ?_
  refine A_isub dX8_withMore_11 ?_
  refine A_bipush (v := 100) dX8_withMore_12 (by decide) ?_
  refine A_idiv dX8_withMore_14 (by decide) ?_
  refine A_iadd dX8_withMore_15 ?_
  exact A_iret dX8_withMore_16 ⟨rfl, rfl⟩ ⟨by decide, by decide⟩

theorem c_noteTrouble (G : GX) {b : Nat} {c : CT} {co : Nat → Nat → Option Nat} {r : Nat → Option AE} {n : Nat} {w : Int32} : MA G 0 yX8_noteTrouble cX8_noteTrouble 2 none 0 0 [.ref (b + 28), .int w] (HC b c co r n) (qV fun h1 => h1 = HC b (noteF w c) co r n) := by
  refine MA.of (own := RX8) false [some (.ref (b + 28)), some (.int w)] (by decide +kernel) rfl (fun h => by cases h) (Nat.le_of_ble_eq_true rfl) rfl (fun X => ?_)
  refine A_aload_n dX8_noteTrouble_0 rfl rfl ?_
  refine A_get dX8_noteTrouble_1 f_X8_96 (HC_at (by decide)) rfl ?_
  refine A_iconst (v := (-1)) dX8_noteTrouble_4 (by decide) ?_
  refine A_icmp_ne 13 dX8_noteTrouble_5 (by decide) (fun c5 => ?_) (fun c5 => ?_)
  · exact A_vret dX8_noteTrouble_13 (by rw [noteF, if_neg c5]) ⟨by decide, by decide⟩
  · refine A_aload_n dX8_noteTrouble_8 rfl rfl ?_
    refine A_iload_n dX8_noteTrouble_9 rfl rfl ?_
    refine A_putC 19 dX8_noteTrouble_10 p_X8_96 (by decide) rfl (Nat.le_of_ble_eq_true rfl) rfl ?_
    exact A_vret dX8_noteTrouble_13 (by rw [noteF, if_pos c5]) ⟨by decide, by decide⟩

theorem c_takeFloods (G : GX) {b : Nat} {c : CT} {co : Nat → Nat → Option Nat} {r : Nat → Option AE} {n : Nat} {nv nc nf nl wk : Nat} {w : Int32} (hI : IX c nv nc nf nl wk) (hT9 : TX c nv nf) : MA G 2 yX8_takeFloods cX8_takeFloods 4 none 0 0 [.ref (b + 28), .int w] (HC b c co r n) (qV fun h1 => h1 = HC b (takeA w c) co r n) := by
  refine MA.of (own := RX8) false [some (.ref (b + 28)), some (.int w), none, none] (by decide +kernel) rfl (fun h => by cases h) (Nat.le_of_ble_eq_true rfl) rfl (fun X => ?_)
  obtain ⟨T, hTe⟩ : ∃ T, T = takeA w c := ⟨_, rfl⟩
  rw [← hTe]
  have loop : ∀ (k i : Nat) (c : CT), i + k = nf → (IX c nv nc nf nl wk ∧ TX c nv nf) → forR (takeS w) i k c = T → WA X G RX8 cX8_takeFloods false none (qV fun h1 => h1 = HC b T co r n) 2 0 0 (HC b c co r n) 0 0 2 [some (.ref (b + 28)), some (.int w), some (.int (nI i)), none] [] := by
    intro k
    induction k with
    | zero =>
      intro i c hk hI hT
      obtain ⟨hv, hv6, hc, hc8, hf, hf3, hl, hl8, hw, hw30, gC, gL⟩ := id hI.1
      refine A_iload_n dX8_takeFloods_2 rfl rfl ?_
      refine A_aload_n dX8_takeFloods_3 rfl rfl ?_
      refine A_get dX8_takeFloods_4 f_X8_52 (HC_at (by decide)) rfl ?_
      refine A_get dX8_takeFloods_7 f_X8_68 (HC_at (by decide)) rfl ?_
      refine A_get dX8_takeFloods_10 f_X8_141 (HC_at (by decide)) rfl ?_
      refine A_icmp_ge 103 dX8_takeFloods_13 (by decide) (fun c13 => ?_) (fun c13 => ?_)
      · exact A_vret dX8_takeFloods_103 (congrArg (fun z => HC b z co r n) hT) ⟨by decide, by decide⟩
      · exact absurd (by rw [hf]; exact nI_le (by omega) (by omega)) c13
    | succ k ih =>
      intro i c hk hI hT
      obtain ⟨hv, hv6, hc, hc8, hf, hf3, hl, hl8, hw, hw30, gC, gL⟩ := id hI.1
      have hi : i < nf := by omega
      refine A_iload_n dX8_takeFloods_2 rfl rfl ?_
      refine A_aload_n dX8_takeFloods_3 rfl rfl ?_
      refine A_get dX8_takeFloods_4 f_X8_52 (HC_at (by decide)) rfl ?_
      refine A_get dX8_takeFloods_7 f_X8_68 (HC_at (by decide)) rfl ?_
      refine A_get dX8_takeFloods_10 f_X8_141 (HC_at (by decide)) rfl ?_
      refine A_icmp_ge 103 dX8_takeFloods_13 (by decide) (fun c13 => ?_) (fun c13 => ?_)
      · exact absurd c13 (by rw [hf]; exact nI_ge (by omega) (by omega))
      · refine A_aload_n dX8_takeFloods_16 rfl rfl ?_
        refine A_get dX8_takeFloods_17 f_X8_9 (HC_at (by decide)) rfl ?_
        refine A_iload_n dX8_takeFloods_20 rfl rfl ?_
        refine A_ialdN dX8_takeFloods_21 (HC_at (by decide)) (by omega) (by decide) ?_
        refine A_istore_n (lv1 := [_, _, _, _]) dX8_takeFloods_22 rfl (Nat.le_of_ble_eq_true rfl) rfl rfl ?_
        refine A_iload_n dX8_takeFloods_23 rfl rfl ?_
        refine A_iconst (v := (-1)) dX8_takeFloods_24 (by decide) ?_
        refine A_icmp_eq 97 dX8_takeFloods_25 (by decide) (fun c25 => ?_) (fun c25 => ?_)
        · refine A_inc 1 (lv1 := [_, _, _, _]) dX8_takeFloods_97 rfl (by decide) rfl rfl ?_
          refine A_goto 2 dX8_takeFloods_100 (by decide) ?_
          refine A_fg 3 (lv1 := [_, _, _, _]) rfl ?_
          rw [nI_1]
          refine WA_h (congrArg (fun z => HC b z co r n) (Eq.symm (?_ : takeS w i c = _))) (ih (i + 1) (takeS w i c) (by omega) (⟨hI.1.P takeS_P, hI.2.P takeS_P⟩) hT)
          rw [takeS]
          exact if_pos c25
        · refine A_aload_n dX8_takeFloods_28 rfl rfl ?_
          refine A_get dX8_takeFloods_29 f_X8_52 (HC_at (by decide)) rfl ?_
          refine A_get dX8_takeFloods_32 f_X8_68 (HC_at (by decide)) rfl ?_
          refine A_iload_n dX8_takeFloods_35 rfl rfl ?_
          refine A_iconst (v := 0) dX8_takeFloods_36 (by decide) ?_
          refine A_callVi dX8_takeFloods_37 m_X8_72 cb_X3_at (As := [_, _]) rfl (HC_at (by decide)) rfl (c_at11 G b _ co r n 0 hf hf3 hi (by decide)) rfl ⟨by decide, by decide⟩ (Nat.le_of_ble_eq_true rfl) ⟨by decide, by decide⟩ (fun x37 h37 hq => ?_)
          obtain ⟨rfl, rfl⟩ := hq
          refine A_iload_n dX8_takeFloods_40 rfl rfl ?_
          refine A_icmp_ne 97 dX8_takeFloods_41 (by decide) (fun c41 => ?_) (fun c41 => ?_)
          · refine A_inc 1 (lv1 := [_, _, _, _]) dX8_takeFloods_97 rfl (by decide) rfl rfl ?_
            refine A_goto 2 dX8_takeFloods_100 (by decide) ?_
            refine A_fg 3 (lv1 := [_, _, _, _]) rfl ?_
            rw [nI_1]
            refine WA_h (congrArg (fun z => HC b z co r n) (Eq.symm (?_ : takeS w i c = _))) (ih (i + 1) (takeS w i c) (by omega) (⟨hI.1.P takeS_P, hI.2.P takeS_P⟩) hT)
            rw [takeS, if_neg c25]
            exact if_neg c41
          · refine A_aload_n dX8_takeFloods_44 rfl rfl ?_
            refine A_get dX8_takeFloods_45 f_X8_21 (HC_at (by decide)) rfl ?_
            refine A_iload_n dX8_takeFloods_48 rfl rfl ?_
            refine A_aload_n dX8_takeFloods_49 rfl rfl ?_
            refine A_get dX8_takeFloods_50 f_X8_52 (HC_at (by decide)) rfl ?_
            refine A_get dX8_takeFloods_53 f_X8_68 (HC_at (by decide)) rfl ?_
            refine A_iload_n dX8_takeFloods_56 rfl rfl ?_
            refine A_iconst (v := 1) dX8_takeFloods_57 (by decide) ?_
            refine A_callVi dX8_takeFloods_58 m_X8_72 cb_X3_at (As := [_, _]) rfl (HC_at (by decide)) rfl (c_at11 G b _ co r n 1 hf hf3 hi (by decide)) rfl ⟨by decide, by decide⟩ (Nat.le_of_ble_eq_true rfl) ⟨by decide, by decide⟩ (fun x58 h58 hq => ?_)
            obtain ⟨rfl, rfl⟩ := hq
            refine A_aload_n dX8_takeFloods_61 rfl rfl ?_
            refine A_iload_n dX8_takeFloods_62 rfl rfl ?_
            refine A_callVi dX8_takeFloods_63 m_X8_144 cb_X8_roomOf (As := [_]) rfl (HC_at (by decide)) rfl (c_roomOf G hI.1 (hI.2 i hi c25)) rfl ⟨by decide, by decide⟩ (Nat.le_of_ble_eq_true rfl) ⟨by decide, by decide⟩ (fun x63 h63 hq => ?_)
            obtain ⟨rfl, rfl⟩ := hq
            refine A_min dX8_takeFloods_66 w_652 (by decide) (Nat.le_of_ble_eq_true rfl) ⟨by decide, by decide⟩ ?_
            refine A_iastCN dX8_takeFloods_69 (by decide) (fun _ => rfl) (by omega) (by decide) ?_
            refine A_aload_n dX8_takeFloods_70 rfl rfl ?_
            refine A_get dX8_takeFloods_71 f_X8_24 (HC_at (by decide)) rfl ?_
            refine A_iload_n dX8_takeFloods_74 rfl rfl ?_
            refine A_aload_n dX8_takeFloods_75 rfl rfl ?_
            refine A_aload_n dX8_takeFloods_76 rfl rfl ?_
            refine A_get dX8_takeFloods_77 f_X8_21 (HC_at (by decide)) rfl ?_
            refine A_iload_n dX8_takeFloods_80 rfl rfl ?_
            refine A_ialdN dX8_takeFloods_81 (HC_at (by decide)) (by omega) (by decide) ?_
            refine A_callVi dX8_takeFloods_82 m_X8_152 cb_X8_withMore (As := [_]) rfl (HC_at (by decide)) rfl (c_withMore G) rfl ⟨by decide, by decide⟩ (Nat.le_of_ble_eq_true rfl) ⟨by decide, by decide⟩ (fun x82 h82 hq => ?_)
            obtain ⟨rfl, rfl⟩ := hq
            refine A_iastCN dX8_takeFloods_85 (by decide) (fun _ => rfl) (by omega) (by decide) ?_
            refine A_aload_n dX8_takeFloods_86 rfl rfl ?_
            refine A_iload_n dX8_takeFloods_87 rfl rfl ?_
            refine A_aload_n dX8_takeFloods_88 rfl rfl ?_
            refine A_get dX8_takeFloods_89 f_X8_21 (HC_at (by decide)) rfl ?_
            refine A_iload_n dX8_takeFloods_92 rfl rfl ?_
            refine A_ialdN dX8_takeFloods_93 (HC_at (by decide)) (by omega) (by decide) ?_
            refine A_callVv dX8_takeFloods_94 m_X8_155 cb_X8_add (As := [_, _]) rfl (HC_at (by decide)) rfl (c_addW G (vp_mono (hI.2 i hi c25) hv6)) rfl ⟨by decide, by decide⟩ (Nat.le_of_ble_eq_true rfl) ⟨by decide, by decide⟩ (fun h94 hq => ?_)
            obtain rfl := hq
            refine A_inc 1 (lv1 := [_, _, _, _]) dX8_takeFloods_97 rfl (by decide) rfl rfl ?_
            refine A_goto 2 dX8_takeFloods_100 (by decide) ?_
            refine A_fg 3 (lv1 := [_, _, _, _]) rfl ?_
            rw [nI_1]
            refine WA_h (congrArg (fun z => HC b z co r n) (Eq.symm (?_ : takeS w i c = _))) (ih (i + 1) (takeS w i c) (by omega) (⟨hI.1.P takeS_P, hI.2.P takeS_P⟩) hT)
            rw [takeS, if_neg c25]
            exact if_pos c41
  refine A_iconst (v := 0) dX8_takeFloods_0 (by decide) ?_
  refine A_istore_n (lv1 := [_, _, _, _]) dX8_takeFloods_1 rfl (Nat.le_of_ble_eq_true rfl) rfl rfl ?_
  have hf3 := hI.2.2.2.2.2.1
  refine loop nf 0 c (by omega) ⟨hI, hT9⟩ (by rw [hTe]; rw [takeA, hI.2.2.2.2.1, tcl, nI_clamp (by have := hI.2.2.2.2.2.1; omega)])

theorem c_lendOn (G : GX) {b : Nat} {c : CT} {co : Nat → Nat → Option Nat} {r : Nat → Option AE} {n : Nat} {nv nc nf nl wk : Nat} {w : Int32} (hI : IX c nv nc nf nl wk) : MA G 2 yX8_lendOn cX8_lendOn 6 none 0 0 [.ref (b + 28), .int w] (HC b c co r n) (qV fun h1 => h1 = HC b (lendA w c) co r n) := by
  refine MA.of (own := RX8) false [some (.ref (b + 28)), some (.int w), none, none, none, none] (by decide +kernel) rfl (fun h => by cases h) (Nat.le_of_ble_eq_true rfl) rfl (fun X => ?_)
  obtain ⟨T, hTe⟩ : ∃ T, T = lendA w c := ⟨_, rfl⟩
  rw [← hTe]
  have loop : ∀ (k i : Nat) (c : CT), i + k = nl → IX c nv nc nf nl wk → forR (lendS w) i k c = T → WA X G RX8 cX8_lendOn false none (qV fun h1 => h1 = HC b T co r n) 2 0 0 (HC b c co r n) 0 0 2 [some (.ref (b + 28)), some (.int w), some (.int (nI i)), none, none, none] [] := by
    intro k
    induction k with
    | zero =>
      intro i c hk hI hT
      obtain ⟨hv, hv6, hc, hc8, hf, hf3, hl, hl8, hw, hw30, gC, gL⟩ := id hI
      refine A_iload_n dX8_lendOn_2 rfl rfl ?_
      refine A_aload_n dX8_lendOn_3 rfl rfl ?_
      refine A_get dX8_lendOn_4 f_X8_52 (HC_at (by decide)) rfl ?_
      refine A_get dX8_lendOn_7 f_X8_159 (HC_at (by decide)) rfl ?_
      refine A_get dX8_lendOn_10 f_X8_141 (HC_at (by decide)) rfl ?_
      refine A_icmp_ge 152 dX8_lendOn_13 (by decide) (fun c13 => ?_) (fun c13 => ?_)
      · exact A_vret dX8_lendOn_152 (congrArg (fun z => HC b z co r n) hT) ⟨by decide, by decide⟩
      · exact absurd (by rw [hl]; exact nI_le (by omega) (by omega)) c13
    | succ k ih =>
      intro i c hk hI hT
      obtain ⟨hv, hv6, hc, hc8, hf, hf3, hl, hl8, hw, hw30, gC, gL⟩ := id hI
      have hi : i < nl := by omega
      refine A_iload_n dX8_lendOn_2 rfl rfl ?_
      refine A_aload_n dX8_lendOn_3 rfl rfl ?_
      refine A_get dX8_lendOn_4 f_X8_52 (HC_at (by decide)) rfl ?_
      refine A_get dX8_lendOn_7 f_X8_159 (HC_at (by decide)) rfl ?_
      refine A_get dX8_lendOn_10 f_X8_141 (HC_at (by decide)) rfl ?_
      refine A_icmp_ge 152 dX8_lendOn_13 (by decide) (fun c13 => ?_) (fun c13 => ?_)
      · exact absurd c13 (by rw [hl]; exact nI_ge (by omega) (by omega))
      · refine A_aload_n dX8_lendOn_16 rfl rfl ?_
        refine A_get dX8_lendOn_17 f_X8_52 (HC_at (by decide)) rfl ?_
        refine A_get dX8_lendOn_20 f_X8_159 (HC_at (by decide)) rfl ?_
        refine A_iload_n dX8_lendOn_23 rfl rfl ?_
        refine A_iconst (v := 0) dX8_lendOn_24 (by decide) ?_
        refine A_callVi dX8_lendOn_25 m_X8_72 cb_X3_at (As := [_, _]) rfl (HC_at (by decide)) rfl (c_at13 G b _ co r n 0 hl hl8 hi (by decide)) rfl ⟨by decide, by decide⟩ (Nat.le_of_ble_eq_true rfl) ⟨by decide, by decide⟩ (fun x25 h25 hq => ?_)
        obtain ⟨rfl, rfl⟩ := hq
        refine A_istore_n (lv1 := [_, _, _, _, _, _]) dX8_lendOn_28 rfl (Nat.le_of_ble_eq_true rfl) rfl rfl ?_
        refine A_aload_n dX8_lendOn_29 rfl rfl ?_
        refine A_get dX8_lendOn_30 f_X8_52 (HC_at (by decide)) rfl ?_
        refine A_get dX8_lendOn_33 f_X8_159 (HC_at (by decide)) rfl ?_
        refine A_iload_n dX8_lendOn_36 rfl rfl ?_
        refine A_iconst (v := 3) dX8_lendOn_37 (by decide) ?_
        refine A_callVi dX8_lendOn_38 m_X8_72 cb_X3_at (As := [_, _]) rfl (HC_at (by decide)) rfl (c_at13 G b _ co r n 3 hl hl8 hi (by decide)) rfl ⟨by decide, by decide⟩ (Nat.le_of_ble_eq_true rfl) ⟨by decide, by decide⟩ (fun x38 h38 hq => ?_)
        obtain ⟨rfl, rfl⟩ := hq
        refine A_iload_n dX8_lendOn_41 rfl rfl ?_
        refine A_icmp_ne 146 dX8_lendOn_42 (by decide) (fun c42 => ?_) (fun c42 => ?_)
        · refine A_inc 1 (lv1 := [_, _, _, _, _, _]) dX8_lendOn_146 rfl (by decide) rfl rfl ?_
          refine A_goto 2 dX8_lendOn_149 (by decide) ?_
          refine A_fg 3 (lv1 := [_, _, _, _, _, _]) rfl ?_
          refine A_fg 4 (lv1 := [_, _, _, _, _, _]) rfl ?_
          refine A_fg 5 (lv1 := [_, _, _, _, _, _]) rfl ?_
          rw [nI_1]
          refine WA_h (congrArg (fun z => HC b z co r n) (Eq.symm (?_ : lendS w i c = _))) (ih (i + 1) (lendS w i c) (by omega) (hI.P lendS_P) hT)
          rw [lendS]
          exact if_neg c42
        · refine A_iload_n dX8_lendOn_45 rfl rfl ?_
          refine A_aload_n dX8_lendOn_46 rfl rfl ?_
          refine A_get dX8_lendOn_47 f_X8_65 (HC_at (by decide)) rfl ?_
          refine A_icmp_eq 146 dX8_lendOn_50 (by decide) (fun c50 => ?_) (fun c50 => ?_)
          · refine A_inc 1 (lv1 := [_, _, _, _, _, _]) dX8_lendOn_146 rfl (by decide) rfl rfl ?_
            refine A_goto 2 dX8_lendOn_149 (by decide) ?_
            refine A_fg 3 (lv1 := [_, _, _, _, _, _]) rfl ?_
            refine A_fg 4 (lv1 := [_, _, _, _, _, _]) rfl ?_
            refine A_fg 5 (lv1 := [_, _, _, _, _, _]) rfl ?_
            rw [nI_1]
            refine WA_h (congrArg (fun z => HC b z co r n) (Eq.symm (?_ : lendS w i c = _))) (ih (i + 1) (lendS w i c) (by omega) (hI.P lendS_P) hT)
            rw [lendS, if_pos c42]
            exact if_pos c50
          · refine A_aload_n dX8_lendOn_53 rfl rfl ?_
            refine A_get dX8_lendOn_54 f_X8_52 (HC_at (by decide)) rfl ?_
            refine A_get dX8_lendOn_57 f_X8_159 (HC_at (by decide)) rfl ?_
            refine A_iload_n dX8_lendOn_60 rfl rfl ?_
            refine A_iconst (v := 1) dX8_lendOn_61 (by decide) ?_
            refine A_callVi dX8_lendOn_62 m_X8_72 cb_X3_at (As := [_, _]) rfl (HC_at (by decide)) rfl (c_at13 G b _ co r n 1 hl hl8 hi (by decide)) rfl ⟨by decide, by decide⟩ (Nat.le_of_ble_eq_true rfl) ⟨by decide, by decide⟩ (fun x62 h62 hq => ?_)
            obtain ⟨rfl, rfl⟩ := hq
            refine A_istore (lv1 := [_, _, _, _, _, _]) dX8_lendOn_65 (Nat.le_of_ble_eq_true rfl) rfl rfl ?_
            refine A_aload_n dX8_lendOn_67 rfl rfl ?_
            refine A_get dX8_lendOn_68 f_X8_52 (HC_at (by decide)) rfl ?_
            refine A_get dX8_lendOn_71 f_X8_159 (HC_at (by decide)) rfl ?_
            refine A_iload_n dX8_lendOn_74 rfl rfl ?_
            refine A_iconst (v := 2) dX8_lendOn_75 (by decide) ?_
            refine A_callVi dX8_lendOn_76 m_X8_72 cb_X3_at (As := [_, _]) rfl (HC_at (by decide)) rfl (c_at13 G b _ co r n 2 hl hl8 hi (by decide)) rfl ⟨by decide, by decide⟩ (Nat.le_of_ble_eq_true rfl) ⟨by decide, by decide⟩ (fun x76 h76 hq => ?_)
            obtain ⟨rfl, rfl⟩ := hq
            refine A_aload_n dX8_lendOn_79 rfl rfl ?_
            refine A_iload_n dX8_lendOn_80 rfl rfl ?_
            refine A_callVi dX8_lendOn_81 m_X8_137 cb_X8_waterOf (As := [_]) rfl (HC_at (by decide)) rfl (c_waterOf G (vp_mono (gL i hi).1 hv6)) rfl ⟨by decide, by decide⟩ (Nat.le_of_ble_eq_true rfl) ⟨by decide, by decide⟩ (fun x81 h81 hq => ?_)
            obtain ⟨rfl, rfl⟩ := hq
            refine A_min dX8_lendOn_84 w_652 (by decide) (Nat.le_of_ble_eq_true rfl) ⟨by decide, by decide⟩ ?_
            refine A_istore (lv1 := [_, _, _, _, _, _]) dX8_lendOn_87 (Nat.le_of_ble_eq_true rfl) rfl rfl ?_
            refine A_aload_n dX8_lendOn_89 rfl rfl ?_
            refine A_get dX8_lendOn_90 f_X8_30 (HC_at (by decide)) rfl ?_
            refine A_iload_n dX8_lendOn_93 rfl rfl ?_
            refine A_iload dX8_lendOn_94 rfl ?_
            refine A_aload_n dX8_lendOn_96 rfl rfl ?_
            refine A_iload dX8_lendOn_97 rfl ?_
            refine A_callVi dX8_lendOn_99 m_X8_144 cb_X8_roomOf (As := [_]) rfl (HC_at (by decide)) rfl (c_roomOf G hI (gL i hi).2) rfl ⟨by decide, by decide⟩ (Nat.le_of_ble_eq_true rfl) ⟨by decide, by decide⟩ (fun x99 h99 hq => ?_)
            obtain ⟨rfl, rfl⟩ := hq
            refine A_min dX8_lendOn_102 w_652 (by decide) (Nat.le_of_ble_eq_true rfl) ⟨by decide, by decide⟩ ?_
            refine A_iastCN dX8_lendOn_105 (by decide) (fun _ => rfl) (by omega) (by decide) ?_
            refine A_aload_n dX8_lendOn_106 rfl rfl ?_
            refine A_get dX8_lendOn_107 f_X8_33 (HC_at (by decide)) rfl ?_
            refine A_iload_n dX8_lendOn_110 rfl rfl ?_
            refine A_aload_n dX8_lendOn_111 rfl rfl ?_
            refine A_aload_n dX8_lendOn_112 rfl rfl ?_
            refine A_get dX8_lendOn_113 f_X8_30 (HC_at (by decide)) rfl ?_
            refine A_iload_n dX8_lendOn_116 rfl rfl ?_
            refine A_ialdN dX8_lendOn_117 (HC_at (by decide)) (by omega) (by decide) ?_
            refine A_callVi dX8_lendOn_118 m_X8_152 cb_X8_withMore (As := [_]) rfl (HC_at (by decide)) rfl (c_withMore G) rfl ⟨by decide, by decide⟩ (Nat.le_of_ble_eq_true rfl) ⟨by decide, by decide⟩ (fun x118 h118 hq => ?_)
            obtain ⟨rfl, rfl⟩ := hq
            refine A_iastCN dX8_lendOn_121 (by decide) (fun _ => rfl) (by omega) (by decide) ?_
            refine A_aload_n dX8_lendOn_122 rfl rfl ?_
            refine A_iload_n dX8_lendOn_123 rfl rfl ?_
            refine A_aload_n dX8_lendOn_124 rfl rfl ?_
            refine A_get dX8_lendOn_125 f_X8_30 (HC_at (by decide)) rfl ?_
            refine A_iload_n dX8_lendOn_128 rfl rfl ?_
            refine A_ialdN dX8_lendOn_129 (HC_at (by decide)) (by omega) (by decide) ?_
            refine A_ineg dX8_lendOn_130 ?_
            refine A_callVv dX8_lendOn_131 m_X8_155 cb_X8_add (As := [_, _]) rfl (HC_at (by decide)) rfl (c_addN G (vp_mono (gL i hi).1 hv6)) rfl ⟨by decide, by decide⟩ (Nat.le_of_ble_eq_true rfl) ⟨by decide, by decide⟩ (fun h131 hq => ?_)
            obtain rfl := hq
            refine A_aload_n dX8_lendOn_134 rfl rfl ?_
            refine A_iload dX8_lendOn_135 rfl ?_
            refine A_aload_n dX8_lendOn_137 rfl rfl ?_
            refine A_get dX8_lendOn_138 f_X8_30 (HC_at (by decide)) rfl ?_
            refine A_iload_n dX8_lendOn_141 rfl rfl ?_
            refine A_ialdN dX8_lendOn_142 (HC_at (by decide)) (by omega) (by decide) ?_
            refine A_callVv dX8_lendOn_143 m_X8_155 cb_X8_add (As := [_, _]) rfl (HC_at (by decide)) rfl (c_addW G (vp_mono (gL i hi).2 hv6)) rfl ⟨by decide, by decide⟩ (Nat.le_of_ble_eq_true rfl) ⟨by decide, by decide⟩ (fun h143 hq => ?_)
            obtain rfl := hq
            refine A_inc 1 (lv1 := [_, _, _, _, _, _]) dX8_lendOn_146 rfl (by decide) rfl rfl ?_
            refine A_goto 2 dX8_lendOn_149 (by decide) ?_
            refine A_fg 3 (lv1 := [_, _, _, _, _, _]) rfl ?_
            refine A_fg 4 (lv1 := [_, _, _, _, _, _]) rfl ?_
            refine A_fg 5 (lv1 := [_, _, _, _, _, _]) rfl ?_
            rw [nI_1]
            refine WA_h (congrArg (fun z => HC b z co r n) (Eq.symm (?_ : lendS w i c = _))) (ih (i + 1) (lendS w i c) (by omega) (hI.P lendS_P) hT)
            rw [lendS, if_pos c42]
            exact if_neg c50
  refine A_iconst (v := 0) dX8_lendOn_0 (by decide) ?_
  refine A_istore_n (lv1 := [_, _, _, _, _, _]) dX8_lendOn_1 rfl (Nat.le_of_ble_eq_true rfl) rfl rfl ?_
  obtain ⟨hv, hv6, hc, hc8, hf, hf3, hl, hl8, hw, hw30, gC, gL⟩ := id hI
  refine loop nl 0 c (by omega) hI (by rw [hTe]; rw [lendA, hI.2.2.2.2.2.2.1, tcl, nI_clamp (by omega)])

theorem c_repayTill (G : GX) {b : Nat} {c : CT} {co : Nat → Nat → Option Nat} {r : Nat → Option AE} {n : Nat} {nv nc nf nl wk : Nat} {w : Int32} (hI : IX c nv nc nf nl wk) : MA G 2 yX8_repayTill cX8_repayTill 6 none 0 0 [.ref (b + 28), .int w] (HC b c co r n) (qV fun h1 => h1 = HC b (repayA w c) co r n) := by
  refine MA.of (own := RX8) false [some (.ref (b + 28)), some (.int w), none, none, none, none] (by decide +kernel) rfl (fun h => by cases h) (Nat.le_of_ble_eq_true rfl) rfl (fun X => ?_)
  obtain ⟨T, hTe⟩ : ∃ T, T = repayA w c := ⟨_, rfl⟩
  rw [← hTe]
  have loop : ∀ (k i : Nat) (c : CT), i + k = nl → IX c nv nc nf nl wk → forR (repayS w) i k c = T → WA X G RX8 cX8_repayTill false none (qV fun h1 => h1 = HC b T co r n) 2 0 0 (HC b c co r n) 0 0 2 [some (.ref (b + 28)), some (.int w), some (.int (nI i)), none, none, none] [] := by
    intro k
    induction k with
    | zero =>
      intro i c hk hI hT
      obtain ⟨hv, hv6, hc, hc8, hf, hf3, hl, hl8, hw, hw30, gC, gL⟩ := id hI
      refine A_iload_n dX8_repayTill_2 rfl rfl ?_
      refine A_aload_n dX8_repayTill_3 rfl rfl ?_
      refine A_get dX8_repayTill_4 f_X8_52 (HC_at (by decide)) rfl ?_
      refine A_get dX8_repayTill_7 f_X8_159 (HC_at (by decide)) rfl ?_
      refine A_get dX8_repayTill_10 f_X8_141 (HC_at (by decide)) rfl ?_
      refine A_icmp_ge 142 dX8_repayTill_13 (by decide) (fun c13 => ?_) (fun c13 => ?_)
      · exact A_vret dX8_repayTill_142 (congrArg (fun z => HC b z co r n) hT) ⟨by decide, by decide⟩
      · exact absurd (by rw [hl]; exact nI_le (by omega) (by omega)) c13
    | succ k ih =>
      intro i c hk hI hT
      obtain ⟨hv, hv6, hc, hc8, hf, hf3, hl, hl8, hw, hw30, gC, gL⟩ := id hI
      have hi : i < nl := by omega
      refine A_iload_n dX8_repayTill_2 rfl rfl ?_
      refine A_aload_n dX8_repayTill_3 rfl rfl ?_
      refine A_get dX8_repayTill_4 f_X8_52 (HC_at (by decide)) rfl ?_
      refine A_get dX8_repayTill_7 f_X8_159 (HC_at (by decide)) rfl ?_
      refine A_get dX8_repayTill_10 f_X8_141 (HC_at (by decide)) rfl ?_
      refine A_icmp_ge 142 dX8_repayTill_13 (by decide) (fun c13 => ?_) (fun c13 => ?_)
      · exact absurd c13 (by rw [hl]; exact nI_ge (by omega) (by omega))
      · refine A_aload_n dX8_repayTill_16 rfl rfl ?_
        refine A_get dX8_repayTill_17 f_X8_52 (HC_at (by decide)) rfl ?_
        refine A_get dX8_repayTill_20 f_X8_159 (HC_at (by decide)) rfl ?_
        refine A_iload_n dX8_repayTill_23 rfl rfl ?_
        refine A_iconst (v := 4) dX8_repayTill_24 (by decide) ?_
        refine A_callVi dX8_repayTill_25 m_X8_72 cb_X3_at (As := [_, _]) rfl (HC_at (by decide)) rfl (c_at13 G b _ co r n 4 hl hl8 hi (by decide)) rfl ⟨by decide, by decide⟩ (Nat.le_of_ble_eq_true rfl) ⟨by decide, by decide⟩ (fun x25 h25 hq => ?_)
        obtain ⟨rfl, rfl⟩ := hq
        refine A_iload_n dX8_repayTill_28 rfl rfl ?_
        refine A_icmp_ne 136 dX8_repayTill_29 (by decide) (fun c29 => ?_) (fun c29 => ?_)
        · refine A_inc 1 (lv1 := [_, _, _, _, _, _]) dX8_repayTill_136 rfl (by decide) rfl rfl ?_
          refine A_goto 2 dX8_repayTill_139 (by decide) ?_
          refine A_fg 3 (lv1 := [_, _, _, _, _, _]) rfl ?_
          refine A_fg 4 (lv1 := [_, _, _, _, _, _]) rfl ?_
          refine A_fg 5 (lv1 := [_, _, _, _, _, _]) rfl ?_
          rw [nI_1]
          refine WA_h (congrArg (fun z => HC b z co r n) (Eq.symm (?_ : repayS w i c = _))) (ih (i + 1) (repayS w i c) (by omega) (hI.P repayS_P) hT)
          rw [repayS]
          exact if_neg c29
        · refine A_aload_n dX8_repayTill_32 rfl rfl ?_
          refine A_get dX8_repayTill_33 f_X8_52 (HC_at (by decide)) rfl ?_
          refine A_get dX8_repayTill_36 f_X8_159 (HC_at (by decide)) rfl ?_
          refine A_iload_n dX8_repayTill_39 rfl rfl ?_
          refine A_iconst (v := 0) dX8_repayTill_40 (by decide) ?_
          refine A_callVi dX8_repayTill_41 m_X8_72 cb_X3_at (As := [_, _]) rfl (HC_at (by decide)) rfl (c_at13 G b _ co r n 0 hl hl8 hi (by decide)) rfl ⟨by decide, by decide⟩ (Nat.le_of_ble_eq_true rfl) ⟨by decide, by decide⟩ (fun x41 h41 hq => ?_)
          obtain ⟨rfl, rfl⟩ := hq
          refine A_istore_n (lv1 := [_, _, _, _, _, _]) dX8_repayTill_44 rfl (Nat.le_of_ble_eq_true rfl) rfl rfl ?_
          refine A_aload_n dX8_repayTill_45 rfl rfl ?_
          refine A_get dX8_repayTill_46 f_X8_52 (HC_at (by decide)) rfl ?_
          refine A_get dX8_repayTill_49 f_X8_159 (HC_at (by decide)) rfl ?_
          refine A_iload_n dX8_repayTill_52 rfl rfl ?_
          refine A_iconst (v := 1) dX8_repayTill_53 (by decide) ?_
          refine A_callVi dX8_repayTill_54 m_X8_72 cb_X3_at (As := [_, _]) rfl (HC_at (by decide)) rfl (c_at13 G b _ co r n 1 hl hl8 hi (by decide)) rfl ⟨by decide, by decide⟩ (Nat.le_of_ble_eq_true rfl) ⟨by decide, by decide⟩ (fun x54 h54 hq => ?_)
          obtain ⟨rfl, rfl⟩ := hq
          refine A_istore (lv1 := [_, _, _, _, _, _]) dX8_repayTill_57 (Nat.le_of_ble_eq_true rfl) rfl rfl ?_
          refine A_aload_n dX8_repayTill_59 rfl rfl ?_
          refine A_get dX8_repayTill_60 f_X8_33 (HC_at (by decide)) rfl ?_
          refine A_iload_n dX8_repayTill_63 rfl rfl ?_
          refine A_ialdN dX8_repayTill_64 (HC_at (by decide)) (by omega) (by decide) ?_
          refine A_aload_n dX8_repayTill_65 rfl rfl ?_
          refine A_iload dX8_repayTill_66 rfl ?_
          refine A_callVi dX8_repayTill_68 m_X8_137 cb_X8_waterOf (As := [_]) rfl (HC_at (by decide)) rfl (c_waterOf G (vp_mono (gL i hi).2 hv6)) rfl ⟨by decide, by decide⟩ (Nat.le_of_ble_eq_true rfl) ⟨by decide, by decide⟩ (fun x68 h68 hq => ?_)
          obtain ⟨rfl, rfl⟩ := hq
          refine A_min dX8_repayTill_71 w_652 (by decide) (Nat.le_of_ble_eq_true rfl) ⟨by decide, by decide⟩ ?_
          refine A_istore (lv1 := [_, _, _, _, _, _]) dX8_repayTill_74 (Nat.le_of_ble_eq_true rfl) rfl rfl ?_
          refine A_aload_n dX8_repayTill_76 rfl rfl ?_
          refine A_get dX8_repayTill_77 f_X8_36 (HC_at (by decide)) rfl ?_
          refine A_iload_n dX8_repayTill_80 rfl rfl ?_
          refine A_iload dX8_repayTill_81 rfl ?_
          refine A_aload_n dX8_repayTill_83 rfl rfl ?_
          refine A_iload_n dX8_repayTill_84 rfl rfl ?_
          refine A_callVi dX8_repayTill_85 m_X8_144 cb_X8_roomOf (As := [_]) rfl (HC_at (by decide)) rfl (c_roomOf G hI (gL i hi).1) rfl ⟨by decide, by decide⟩ (Nat.le_of_ble_eq_true rfl) ⟨by decide, by decide⟩ (fun x85 h85 hq => ?_)
          obtain ⟨rfl, rfl⟩ := hq
          refine A_min dX8_repayTill_88 w_652 (by decide) (Nat.le_of_ble_eq_true rfl) ⟨by decide, by decide⟩ ?_
          refine A_iastCN dX8_repayTill_91 (by decide) (fun _ => rfl) (by omega) (by decide) ?_
          refine A_aload_n dX8_repayTill_92 rfl rfl ?_
          refine A_iload dX8_repayTill_93 rfl ?_
          refine A_aload_n dX8_repayTill_95 rfl rfl ?_
          refine A_get dX8_repayTill_96 f_X8_36 (HC_at (by decide)) rfl ?_
          refine A_iload_n dX8_repayTill_99 rfl rfl ?_
          refine A_ialdN dX8_repayTill_100 (HC_at (by decide)) (by omega) (by decide) ?_
          refine A_ineg dX8_repayTill_101 ?_
          refine A_callVv dX8_repayTill_102 m_X8_155 cb_X8_add (As := [_, _]) rfl (HC_at (by decide)) rfl (c_addN G (vp_mono (gL i hi).2 hv6)) rfl ⟨by decide, by decide⟩ (Nat.le_of_ble_eq_true rfl) ⟨by decide, by decide⟩ (fun h102 hq => ?_)
          obtain rfl := hq
          refine A_aload_n dX8_repayTill_105 rfl rfl ?_
          refine A_iload_n dX8_repayTill_106 rfl rfl ?_
          refine A_aload_n dX8_repayTill_107 rfl rfl ?_
          refine A_get dX8_repayTill_108 f_X8_36 (HC_at (by decide)) rfl ?_
          refine A_iload_n dX8_repayTill_111 rfl rfl ?_
          refine A_ialdN dX8_repayTill_112 (HC_at (by decide)) (by omega) (by decide) ?_
          refine A_callVv dX8_repayTill_113 m_X8_155 cb_X8_add (As := [_, _]) rfl (HC_at (by decide)) rfl (c_addW G (vp_mono (gL i hi).1 hv6)) rfl ⟨by decide, by decide⟩ (Nat.le_of_ble_eq_true rfl) ⟨by decide, by decide⟩ (fun h113 hq => ?_)
          obtain rfl := hq
          refine A_aload_n dX8_repayTill_116 rfl rfl ?_
          refine A_get dX8_repayTill_117 f_X8_36 (HC_at (by decide)) rfl ?_
          refine A_iload_n dX8_repayTill_120 rfl rfl ?_
          refine A_ialdN dX8_repayTill_121 (HC_at (by decide)) (by omega) (by decide) ?_
          refine A_aload_n dX8_repayTill_122 rfl rfl ?_
          refine A_get dX8_repayTill_123 f_X8_33 (HC_at (by decide)) rfl ?_
          refine A_iload_n dX8_repayTill_126 rfl rfl ?_
          refine A_ialdN dX8_repayTill_127 (HC_at (by decide)) (by omega) (by decide) ?_
          refine A_icmp_ge 136 dX8_repayTill_128 (by decide) (fun c128 => ?_) (fun c128 => ?_)
          · refine A_inc 1 (lv1 := [_, _, _, _, _, _]) dX8_repayTill_136 rfl (by decide) rfl rfl ?_
            refine A_goto 2 dX8_repayTill_139 (by decide) ?_
            refine A_fg 3 (lv1 := [_, _, _, _, _, _]) rfl ?_
            refine A_fg 4 (lv1 := [_, _, _, _, _, _]) rfl ?_
            refine A_fg 5 (lv1 := [_, _, _, _, _, _]) rfl ?_
            rw [nI_1]
            refine WA_h (congrArg (fun z => HC b z co r n) (Eq.symm (?_ : repayS w i c = _))) (ih (i + 1) (repayS w i c) (by omega) (hI.P repayS_P) hT)
            rw [repayS, if_pos c29]
            exact if_pos c128
          · refine A_aload_n dX8_repayTill_131 rfl rfl ?_
            refine A_iload_n dX8_repayTill_132 rfl rfl ?_
            refine A_callVv dX8_repayTill_133 m_X8_162 cb_X8_noteTrouble (As := [_]) rfl (HC_at (by decide)) rfl (c_noteTrouble G) rfl ⟨by decide, by decide⟩ (Nat.le_of_ble_eq_true rfl) ⟨by decide, by decide⟩ (fun h133 hq => ?_)
            obtain rfl := hq
            refine A_inc 1 (lv1 := [_, _, _, _, _, _]) dX8_repayTill_136 rfl (by decide) rfl rfl ?_
            refine A_goto 2 dX8_repayTill_139 (by decide) ?_
            refine A_fg 3 (lv1 := [_, _, _, _, _, _]) rfl ?_
            refine A_fg 4 (lv1 := [_, _, _, _, _, _]) rfl ?_
            refine A_fg 5 (lv1 := [_, _, _, _, _, _]) rfl ?_
            rw [nI_1]
            refine WA_h (congrArg (fun z => HC b z co r n) (Eq.symm (?_ : repayS w i c = _))) (ih (i + 1) (repayS w i c) (by omega) (hI.P repayS_P) hT)
            rw [repayS, if_pos c29]
            exact if_neg c128
  refine A_iconst (v := 0) dX8_repayTill_0 (by decide) ?_
  refine A_istore_n (lv1 := [_, _, _, _, _, _]) dX8_repayTill_1 rfl (Nat.le_of_ble_eq_true rfl) rfl rfl ?_
  obtain ⟨hv, hv6, hc, hc8, hf, hf3, hl, hl8, hw, hw30, gC, gL⟩ := id hI
  refine loop nl 0 c (by omega) hI (by rw [hTe]; rw [repayA, hI.2.2.2.2.2.2.1, tcl, nI_clamp (by omega)])

theorem c_giveBack (G : GX) {b : Nat} {c : CT} {co : Nat → Nat → Option Nat} {r : Nat → Option AE} {n : Nat} {nv nc nf nl wk : Nat} {w : Int32} (hI : IX c nv nc nf nl wk) (hT9 : TX c nv nf) : MA G 1 yX8_giveBack cX8_giveBack 4 none 0 0 [.ref (b + 28), .int w] (HC b c co r n) (qV fun h1 => h1 = HC b (giveA w c) co r n) := by
  refine MA.of (own := RX8) false [some (.ref (b + 28)), some (.int w), none, none] (by decide +kernel) rfl (fun h => by cases h) (Nat.le_of_ble_eq_true rfl) rfl (fun X => ?_)
  obtain ⟨T, hTe⟩ : ∃ T, T = giveA w c := ⟨_, rfl⟩
  rw [← hTe]
  have loop : ∀ (k i : Nat) (c : CT), i + k = nf → (IX c nv nc nf nl wk ∧ TX c nv nf) → forR (giveS w) i k c = T → WA X G RX8 cX8_giveBack false none (qV fun h1 => h1 = HC b T co r n) 1 0 0 (HC b c co r n) 0 0 2 [some (.ref (b + 28)), some (.int w), some (.int (nI i)), none] [] := by
    intro k
    induction k with
    | zero =>
      intro i c hk hI hT
      obtain ⟨hv, hv6, hc, hc8, hf, hf3, hl, hl8, hw, hw30, gC, gL⟩ := id hI.1
      refine A_iload_n dX8_giveBack_2 rfl rfl ?_
      refine A_aload_n dX8_giveBack_3 rfl rfl ?_
      refine A_get dX8_giveBack_4 f_X8_52 (HC_at (by decide)) rfl ?_
      refine A_get dX8_giveBack_7 f_X8_68 (HC_at (by decide)) rfl ?_
      refine A_get dX8_giveBack_10 f_X8_141 (HC_at (by decide)) rfl ?_
      refine A_icmp_ge 86 dX8_giveBack_13 (by decide) (fun c13 => ?_) (fun c13 => ?_)
      · exact A_vret dX8_giveBack_86 (congrArg (fun z => HC b z co r n) hT) ⟨by decide, by decide⟩
      · exact absurd (by rw [hf]; exact nI_le (by omega) (by omega)) c13
    | succ k ih =>
      intro i c hk hI hT
      obtain ⟨hv, hv6, hc, hc8, hf, hf3, hl, hl8, hw, hw30, gC, gL⟩ := id hI.1
      have hi : i < nf := by omega
      refine A_iload_n dX8_giveBack_2 rfl rfl ?_
      refine A_aload_n dX8_giveBack_3 rfl rfl ?_
      refine A_get dX8_giveBack_4 f_X8_52 (HC_at (by decide)) rfl ?_
      refine A_get dX8_giveBack_7 f_X8_68 (HC_at (by decide)) rfl ?_
      refine A_get dX8_giveBack_10 f_X8_141 (HC_at (by decide)) rfl ?_
      refine A_icmp_ge 86 dX8_giveBack_13 (by decide) (fun c13 => ?_) (fun c13 => ?_)
      · exact absurd c13 (by rw [hf]; exact nI_ge (by omega) (by omega))
      · refine A_aload_n dX8_giveBack_16 rfl rfl ?_
        refine A_get dX8_giveBack_17 f_X8_9 (HC_at (by decide)) rfl ?_
        refine A_iload_n dX8_giveBack_20 rfl rfl ?_
        refine A_ialdN dX8_giveBack_21 (HC_at (by decide)) (by omega) (by decide) ?_
        refine A_istore_n (lv1 := [_, _, _, _]) dX8_giveBack_22 rfl (Nat.le_of_ble_eq_true rfl) rfl rfl ?_
        refine A_iload_n dX8_giveBack_23 rfl rfl ?_
        refine A_iconst (v := (-1)) dX8_giveBack_24 (by decide) ?_
        refine A_icmp_eq 80 dX8_giveBack_25 (by decide) (fun c25 => ?_) (fun c25 => ?_)
        · refine A_inc 1 (lv1 := [_, _, _, _]) dX8_giveBack_80 rfl (by decide) rfl rfl ?_
          refine A_goto 2 dX8_giveBack_83 (by decide) ?_
          refine A_fg 3 (lv1 := [_, _, _, _]) rfl ?_
          rw [nI_1]
          refine WA_h (congrArg (fun z => HC b z co r n) (Eq.symm (?_ : giveS w i c = _))) (ih (i + 1) (giveS w i c) (by omega) (⟨hI.1.P giveS_P, hI.2.P giveS_P⟩) hT)
          rw [giveS]
          exact if_pos c25
        · refine A_aload_n dX8_giveBack_28 rfl rfl ?_
          refine A_get dX8_giveBack_29 f_X8_27 (HC_at (by decide)) rfl ?_
          refine A_iload_n dX8_giveBack_32 rfl rfl ?_
          refine A_aload_n dX8_giveBack_33 rfl rfl ?_
          refine A_get dX8_giveBack_34 f_X8_24 (HC_at (by decide)) rfl ?_
          refine A_iload_n dX8_giveBack_37 rfl rfl ?_
          refine A_ialdN dX8_giveBack_38 (HC_at (by decide)) (by omega) (by decide) ?_
          refine A_aload_n dX8_giveBack_39 rfl rfl ?_
          refine A_iload_n dX8_giveBack_40 rfl rfl ?_
          refine A_callVi dX8_giveBack_41 m_X8_137 cb_X8_waterOf (As := [_]) rfl (HC_at (by decide)) rfl (c_waterOf G (vp_mono (hI.2 i hi c25) hv6)) rfl ⟨by decide, by decide⟩ (Nat.le_of_ble_eq_true rfl) ⟨by decide, by decide⟩ (fun x41 h41 hq => ?_)
          obtain ⟨rfl, rfl⟩ := hq
          refine A_min dX8_giveBack_44 w_652 (by decide) (Nat.le_of_ble_eq_true rfl) ⟨by decide, by decide⟩ ?_
          refine A_iastCN dX8_giveBack_47 (by decide) (fun _ => rfl) (by omega) (by decide) ?_
          refine A_aload_n dX8_giveBack_48 rfl rfl ?_
          refine A_iload_n dX8_giveBack_49 rfl rfl ?_
          refine A_aload_n dX8_giveBack_50 rfl rfl ?_
          refine A_get dX8_giveBack_51 f_X8_27 (HC_at (by decide)) rfl ?_
          refine A_iload_n dX8_giveBack_54 rfl rfl ?_
          refine A_ialdN dX8_giveBack_55 (HC_at (by decide)) (by omega) (by decide) ?_
          refine A_ineg dX8_giveBack_56 ?_
          refine A_callVv dX8_giveBack_57 m_X8_155 cb_X8_add (As := [_, _]) rfl (HC_at (by decide)) rfl (c_addN G (vp_mono (hI.2 i hi c25) hv6)) rfl ⟨by decide, by decide⟩ (Nat.le_of_ble_eq_true rfl) ⟨by decide, by decide⟩ (fun h57 hq => ?_)
          obtain rfl := hq
          refine A_aload_n dX8_giveBack_60 rfl rfl ?_
          refine A_get dX8_giveBack_61 f_X8_27 (HC_at (by decide)) rfl ?_
          refine A_iload_n dX8_giveBack_64 rfl rfl ?_
          refine A_ialdN dX8_giveBack_65 (HC_at (by decide)) (by omega) (by decide) ?_
          refine A_aload_n dX8_giveBack_66 rfl rfl ?_
          refine A_get dX8_giveBack_67 f_X8_24 (HC_at (by decide)) rfl ?_
          refine A_iload_n dX8_giveBack_70 rfl rfl ?_
          refine A_ialdN dX8_giveBack_71 (HC_at (by decide)) (by omega) (by decide) ?_
          refine A_icmp_ge 80 dX8_giveBack_72 (by decide) (fun c72 => ?_) (fun c72 => ?_)
          · refine A_inc 1 (lv1 := [_, _, _, _]) dX8_giveBack_80 rfl (by decide) rfl rfl ?_
            refine A_goto 2 dX8_giveBack_83 (by decide) ?_
            refine A_fg 3 (lv1 := [_, _, _, _]) rfl ?_
            rw [nI_1]
            refine WA_h (congrArg (fun z => HC b z co r n) (Eq.symm (?_ : giveS w i c = _))) (ih (i + 1) (giveS w i c) (by omega) (⟨hI.1.P giveS_P, hI.2.P giveS_P⟩) hT)
            rw [giveS, if_neg c25]
            exact if_pos c72
          · refine A_aload_n dX8_giveBack_75 rfl rfl ?_
            refine A_iload_n dX8_giveBack_76 rfl rfl ?_
            refine A_callVv dX8_giveBack_77 m_X8_162 cb_X8_noteTrouble (As := [_]) rfl (HC_at (by decide)) rfl (c_noteTrouble G) rfl ⟨by decide, by decide⟩ (Nat.le_of_ble_eq_true rfl) ⟨by decide, by decide⟩ (fun h77 hq => ?_)
            obtain rfl := hq
            refine A_inc 1 (lv1 := [_, _, _, _]) dX8_giveBack_80 rfl (by decide) rfl rfl ?_
            refine A_goto 2 dX8_giveBack_83 (by decide) ?_
            refine A_fg 3 (lv1 := [_, _, _, _]) rfl ?_
            rw [nI_1]
            refine WA_h (congrArg (fun z => HC b z co r n) (Eq.symm (?_ : giveS w i c = _))) (ih (i + 1) (giveS w i c) (by omega) (⟨hI.1.P giveS_P, hI.2.P giveS_P⟩) hT)
            rw [giveS, if_neg c25]
            exact if_neg c72
  refine A_iconst (v := 0) dX8_giveBack_0 (by decide) ?_
  refine A_istore_n (lv1 := [_, _, _, _]) dX8_giveBack_1 rfl (Nat.le_of_ble_eq_true rfl) rfl rfl ?_
  have hf3 := hI.2.2.2.2.2.1
  refine loop nf 0 c (by omega) ⟨hI, hT9⟩ (by rw [hTe]; rw [giveA, hI.2.2.2.2.1, tcl, nI_clamp (by have := hI.2.2.2.2.2.1; omega)])

theorem c_staysDry (G : GX) {b : Nat} {c : CT} {co : Nat → Nat → Option Nat} {r : Nat → Option AE} {n : Nat} {i : Nat} {v w : Int32} (hi : i < 8) (hx : vp_in v 6) : MA G 1 yX8_staysDry cX8_staysDry 4 none 0 0 [.ref (b + 28), .int (nI i), .int v, .int w] (HC b c co r n) (qV fun h1 => h1 = HC b (dryF w i (tcl v) c) co r n) := by
  refine MA.of (own := RX8) false [some (.ref (b + 28)), some (.int (nI i)), some (.int v), some (.int w)] (by decide +kernel) rfl (fun h => by cases h) (Nat.le_of_ble_eq_true rfl) rfl (fun X => ?_)
  obtain ⟨j, hj, rfl⟩ := vp_in_of hx (by decide)
  refine A_iload_n dX8_staysDry_0 rfl rfl ?_
  refine A_if_lt 45 dX8_staysDry_1 (by decide) (fun c1 => ?_) (fun c1 => ?_)
  · exact absurd c1 (nI_pos (by omega))
  · refine A_iload_n dX8_staysDry_4 rfl rfl ?_
    refine A_bipush (v := 8) dX8_staysDry_5 (by decide) ?_
    refine A_icmp_ge 45 dX8_staysDry_7 (by decide) (fun c7 => ?_) (fun c7 => ?_)
    · exact absurd c7 (nI_ge (b := 8) hi (by decide))
    · refine A_aload_n dX8_staysDry_10 rfl rfl ?_
      refine A_get dX8_staysDry_11 f_X8_45 (HC_at (by decide)) rfl ?_
      refine A_iload_n dX8_staysDry_14 rfl rfl ?_
      refine A_aload_n dX8_staysDry_15 rfl rfl ?_
      refine A_get dX8_staysDry_16 f_X8_42 (HC_at (by decide)) rfl ?_
      refine A_iload_n dX8_staysDry_19 rfl rfl ?_
      refine A_ialdN dX8_staysDry_20 (HC_at (by decide)) (by omega) (by decide) ?_
      refine A_if_ne 28 dX8_staysDry_21 (by decide) (fun c21 => ?_) (fun c21 => ?_)
      · refine A_aload_n dX8_staysDry_28 rfl rfl ?_
        refine A_get dX8_staysDry_29 f_X8_45 (HC_at (by decide)) rfl ?_
        refine A_iload_n dX8_staysDry_32 rfl rfl ?_
        refine A_ialdN dX8_staysDry_33 (HC_at (by decide)) (by omega) (by decide) ?_
        refine A_iastCN dX8_staysDry_34 (by decide) (fun _ => rfl) (by omega) (by decide) ?_
        refine WA_h (congrArg (fun z => HC b z co r n) (put_self c 40 i)) ?_
        refine A_aload_n dX8_staysDry_35 rfl rfl ?_
        refine A_get dX8_staysDry_36 f_X8_42 (HC_at (by decide)) rfl ?_
        refine A_iload_n dX8_staysDry_39 rfl rfl ?_
        refine A_dup2 dX8_staysDry_40 rfl rfl ?_
        refine A_ialdN dX8_staysDry_41 (HC_at (by decide)) (by omega) (by decide) ?_
        refine A_iconst (v := 1) dX8_staysDry_42 (by decide) ?_
        refine A_iadd dX8_staysDry_43 ?_
        refine A_iastCN dX8_staysDry_44 (by decide) (fun _ => rfl) (by omega) (by decide) ?_
        refine A_iload_n dX8_staysDry_45 rfl rfl ?_
        refine A_if_lt 62 dX8_staysDry_46 (by decide) (fun c46 => ?_) (fun c46 => ?_)
        · exact absurd c46 (nI_pos (by omega))
        · refine A_iload_n dX8_staysDry_49 rfl rfl ?_
          refine A_bipush (v := 6) dX8_staysDry_50 (by decide) ?_
          refine A_icmp_ge 62 dX8_staysDry_52 (by decide) (fun c52 => ?_) (fun c52 => ?_)
          · exact absurd c52 (nI_ge (b := 6) hj (by decide))
          · refine A_aload_n dX8_staysDry_55 rfl rfl ?_
            refine A_get dX8_staysDry_56 f_X8_48 (HC_at (by decide)) rfl ?_
            refine A_iload_n dX8_staysDry_59 rfl rfl ?_
            refine A_iconst (v := 1) dX8_staysDry_60 (by decide) ?_
            refine A_zastCN dX8_staysDry_61 (by decide) (fun _ => rfl) (by omega) (by decide) ?_
            rw [show vp_nar .boolean 1 = 1 from rfl]
            refine A_aload_n dX8_staysDry_62 rfl rfl ?_
            refine A_iload_n dX8_staysDry_63 rfl rfl ?_
            refine A_callVv dX8_staysDry_64 m_X8_162 cb_X8_noteTrouble (As := [_]) rfl (HC_at (by decide)) rfl (c_noteTrouble G) rfl ⟨by decide, by decide⟩ (Nat.le_of_ble_eq_true rfl) ⟨by decide, by decide⟩ (fun h64 hq => ?_)
            obtain rfl := hq
            exact A_vret dX8_staysDry_67 (by rw [tcl, nI_clamp (by omega), dryF, if_neg c21]) ⟨by decide, by decide⟩
      · refine A_iload_n dX8_staysDry_24 rfl rfl ?_
        refine A_goto 34 dX8_staysDry_25 (by decide) ?_
        refine A_iastCN dX8_staysDry_34 (by decide) (fun _ => rfl) (by omega) (by decide) ?_
        refine A_aload_n dX8_staysDry_35 rfl rfl ?_
        refine A_get dX8_staysDry_36 f_X8_42 (HC_at (by decide)) rfl ?_
        refine A_iload_n dX8_staysDry_39 rfl rfl ?_
        refine A_dup2 dX8_staysDry_40 rfl rfl ?_
        refine A_ialdN dX8_staysDry_41 (HC_at (by decide)) (by omega) (by decide) ?_
        refine A_iconst (v := 1) dX8_staysDry_42 (by decide) ?_
        refine A_iadd dX8_staysDry_43 ?_
        refine A_iastCN dX8_staysDry_44 (by decide) (fun _ => rfl) (by omega) (by decide) ?_
        refine A_iload_n dX8_staysDry_45 rfl rfl ?_
        refine A_if_lt 62 dX8_staysDry_46 (by decide) (fun c46 => ?_) (fun c46 => ?_)
        · exact absurd c46 (nI_pos (by omega))
        · refine A_iload_n dX8_staysDry_49 rfl rfl ?_
          refine A_bipush (v := 6) dX8_staysDry_50 (by decide) ?_
          refine A_icmp_ge 62 dX8_staysDry_52 (by decide) (fun c52 => ?_) (fun c52 => ?_)
          · exact absurd c52 (nI_ge (b := 6) hj (by decide))
          · refine A_aload_n dX8_staysDry_55 rfl rfl ?_
            refine A_get dX8_staysDry_56 f_X8_48 (HC_at (by decide)) rfl ?_
            refine A_iload_n dX8_staysDry_59 rfl rfl ?_
            refine A_iconst (v := 1) dX8_staysDry_60 (by decide) ?_
            refine A_zastCN dX8_staysDry_61 (by decide) (fun _ => rfl) (by omega) (by decide) ?_
            rw [show vp_nar .boolean 1 = 1 from rfl]
            refine A_aload_n dX8_staysDry_62 rfl rfl ?_
            refine A_iload_n dX8_staysDry_63 rfl rfl ?_
            refine A_callVv dX8_staysDry_64 m_X8_162 cb_X8_noteTrouble (As := [_]) rfl (HC_at (by decide)) rfl (c_noteTrouble G) rfl ⟨by decide, by decide⟩ (Nat.le_of_ble_eq_true rfl) ⟨by decide, by decide⟩ (fun h64 hq => ?_)
            obtain rfl := hq
            exact A_vret dX8_staysDry_67 (by rw [tcl, nI_clamp (by omega), dryF, if_pos c21]) ⟨by decide, by decide⟩

theorem c_drinkCrops (G : GX) {b : Nat} {c : CT} {co : Nat → Nat → Option Nat} {r : Nat → Option AE} {n : Nat} {nv nc nf nl wk : Nat} {w : Int32} (hI : IX c nv nc nf nl wk) : MA G 2 yX8_drinkCrops cX8_drinkCrops 5 none 0 0 [.ref (b + 28), .int w] (HC b c co r n) (qV fun h1 => h1 = HC b (drinkA w c) co r n) := by
  refine MA.of (own := RX8) false [some (.ref (b + 28)), some (.int w), none, none, none] (by decide +kernel) rfl (fun h => by cases h) (Nat.le_of_ble_eq_true rfl) rfl (fun X => ?_)
  obtain ⟨T, hTe⟩ : ∃ T, T = drinkA w c := ⟨_, rfl⟩
  rw [← hTe]
  have loop : ∀ (k i : Nat) (c : CT), i + k = nc → IX c nv nc nf nl wk → forR (drinkS w) i k c = T → WA X G RX8 cX8_drinkCrops false none (qV fun h1 => h1 = HC b T co r n) 2 0 0 (HC b c co r n) 0 0 2 [some (.ref (b + 28)), some (.int w), some (.int (nI i)), none, none] [] := by
    intro k
    induction k with
    | zero =>
      intro i c hk hI hT
      obtain ⟨hv, hv6, hc, hc8, hf, hf3, hl, hl8, hw, hw30, gC, gL⟩ := id hI
      refine A_iload_n dX8_drinkCrops_2 rfl rfl ?_
      refine A_aload_n dX8_drinkCrops_3 rfl rfl ?_
      refine A_get dX8_drinkCrops_4 f_X8_52 (HC_at (by decide)) rfl ?_
      refine A_get dX8_drinkCrops_7 f_X8_165 (HC_at (by decide)) rfl ?_
      refine A_get dX8_drinkCrops_10 f_X8_141 (HC_at (by decide)) rfl ?_
      refine A_icmp_ge 141 dX8_drinkCrops_13 (by decide) (fun c13 => ?_) (fun c13 => ?_)
      · exact A_vret dX8_drinkCrops_141 (congrArg (fun z => HC b z co r n) hT) ⟨by decide, by decide⟩
      · exact absurd (by rw [hc]; exact nI_le (by omega) (by omega)) c13
    | succ k ih =>
      intro i c hk hI hT
      obtain ⟨hv, hv6, hc, hc8, hf, hf3, hl, hl8, hw, hw30, gC, gL⟩ := id hI
      have hi : i < nc := by omega
      refine A_iload_n dX8_drinkCrops_2 rfl rfl ?_
      refine A_aload_n dX8_drinkCrops_3 rfl rfl ?_
      refine A_get dX8_drinkCrops_4 f_X8_52 (HC_at (by decide)) rfl ?_
      refine A_get dX8_drinkCrops_7 f_X8_165 (HC_at (by decide)) rfl ?_
      refine A_get dX8_drinkCrops_10 f_X8_141 (HC_at (by decide)) rfl ?_
      refine A_icmp_ge 141 dX8_drinkCrops_13 (by decide) (fun c13 => ?_) (fun c13 => ?_)
      · exact absurd c13 (by rw [hc]; exact nI_ge (by omega) (by omega))
      · refine A_aload_n dX8_drinkCrops_16 rfl rfl ?_
        refine A_get dX8_drinkCrops_17 f_X8_52 (HC_at (by decide)) rfl ?_
        refine A_get dX8_drinkCrops_20 f_X8_165 (HC_at (by decide)) rfl ?_
        refine A_iload_n dX8_drinkCrops_23 rfl rfl ?_
        refine A_iconst (v := 3) dX8_drinkCrops_24 (by decide) ?_
        refine A_callVi dX8_drinkCrops_25 m_X8_72 cb_X3_at (As := [_, _]) rfl (HC_at (by decide)) rfl (c_at9 G b _ co r n 3 hc hc8 hi (by decide)) rfl ⟨by decide, by decide⟩ (Nat.le_of_ble_eq_true rfl) ⟨by decide, by decide⟩ (fun x25 h25 hq => ?_)
        obtain ⟨rfl, rfl⟩ := hq
        refine A_iload_n dX8_drinkCrops_28 rfl rfl ?_
        refine A_icmp_gt 135 dX8_drinkCrops_29 (by decide) (fun c29 => ?_) (fun c29 => ?_)
        · refine A_inc 1 (lv1 := [_, _, _, _, _]) dX8_drinkCrops_135 rfl (by decide) rfl rfl ?_
          refine A_goto 2 dX8_drinkCrops_138 (by decide) ?_
          refine A_fg 3 (lv1 := [_, _, _, _, _]) rfl ?_
          refine A_fg 4 (lv1 := [_, _, _, _, _]) rfl ?_
          rw [nI_1]
          refine WA_h (congrArg (fun z => HC b z co r n) (Eq.symm (?_ : drinkS w i c = _))) (ih (i + 1) (drinkS w i c) (by omega) (hI.P drinkS_P) hT)
          rw [drinkS]
          exact if_pos c29
        · refine A_iload_n dX8_drinkCrops_32 rfl rfl ?_
          refine A_aload_n dX8_drinkCrops_33 rfl rfl ?_
          refine A_get dX8_drinkCrops_34 f_X8_52 (HC_at (by decide)) rfl ?_
          refine A_get dX8_drinkCrops_37 f_X8_165 (HC_at (by decide)) rfl ?_
          refine A_iload_n dX8_drinkCrops_40 rfl rfl ?_
          refine A_iconst (v := 4) dX8_drinkCrops_41 (by decide) ?_
          refine A_callVi dX8_drinkCrops_42 m_X8_72 cb_X3_at (As := [_, _]) rfl (HC_at (by decide)) rfl (c_at9 G b _ co r n 4 hc hc8 hi (by decide)) rfl ⟨by decide, by decide⟩ (Nat.le_of_ble_eq_true rfl) ⟨by decide, by decide⟩ (fun x42 h42 hq => ?_)
          obtain ⟨rfl, rfl⟩ := hq
          refine A_icmp_gt 135 dX8_drinkCrops_45 (by decide) (fun c45 => ?_) (fun c45 => ?_)
          · refine A_inc 1 (lv1 := [_, _, _, _, _]) dX8_drinkCrops_135 rfl (by decide) rfl rfl ?_
            refine A_goto 2 dX8_drinkCrops_138 (by decide) ?_
            refine A_fg 3 (lv1 := [_, _, _, _, _]) rfl ?_
            refine A_fg 4 (lv1 := [_, _, _, _, _]) rfl ?_
            rw [nI_1]
            refine WA_h (congrArg (fun z => HC b z co r n) (Eq.symm (?_ : drinkS w i c = _))) (ih (i + 1) (drinkS w i c) (by omega) (hI.P drinkS_P) hT)
            rw [drinkS, if_neg c29]
            exact if_pos c45
          · refine A_aload_n dX8_drinkCrops_48 rfl rfl ?_
            refine A_get dX8_drinkCrops_49 f_X8_52 (HC_at (by decide)) rfl ?_
            refine A_get dX8_drinkCrops_52 f_X8_165 (HC_at (by decide)) rfl ?_
            refine A_iload_n dX8_drinkCrops_55 rfl rfl ?_
            refine A_iconst (v := 0) dX8_drinkCrops_56 (by decide) ?_
            refine A_callVi dX8_drinkCrops_57 m_X8_72 cb_X3_at (As := [_, _]) rfl (HC_at (by decide)) rfl (c_at9 G b _ co r n 0 hc hc8 hi (by decide)) rfl ⟨by decide, by decide⟩ (Nat.le_of_ble_eq_true rfl) ⟨by decide, by decide⟩ (fun x57 h57 hq => ?_)
            obtain ⟨rfl, rfl⟩ := hq
            refine A_istore_n (lv1 := [_, _, _, _, _]) dX8_drinkCrops_60 rfl (Nat.le_of_ble_eq_true rfl) rfl rfl ?_
            refine A_aload_n dX8_drinkCrops_61 rfl rfl ?_
            refine A_get dX8_drinkCrops_62 f_X8_52 (HC_at (by decide)) rfl ?_
            refine A_get dX8_drinkCrops_65 f_X8_165 (HC_at (by decide)) rfl ?_
            refine A_iload_n dX8_drinkCrops_68 rfl rfl ?_
            refine A_iconst (v := 1) dX8_drinkCrops_69 (by decide) ?_
            refine A_callVi dX8_drinkCrops_70 m_X8_72 cb_X3_at (As := [_, _]) rfl (HC_at (by decide)) rfl (c_at9 G b _ co r n 1 hc hc8 hi (by decide)) rfl ⟨by decide, by decide⟩ (Nat.le_of_ble_eq_true rfl) ⟨by decide, by decide⟩ (fun x70 h70 hq => ?_)
            obtain ⟨rfl, rfl⟩ := hq
            refine A_istore (lv1 := [_, _, _, _, _]) dX8_drinkCrops_73 (Nat.le_of_ble_eq_true rfl) rfl rfl ?_
            refine A_aload_n dX8_drinkCrops_75 rfl rfl ?_
            refine A_iload_n dX8_drinkCrops_76 rfl rfl ?_
            refine A_callVi dX8_drinkCrops_77 m_X8_137 cb_X8_waterOf (As := [_]) rfl (HC_at (by decide)) rfl (c_waterOf G (vp_mono (gC i hi) hv6)) rfl ⟨by decide, by decide⟩ (Nat.le_of_ble_eq_true rfl) ⟨by decide, by decide⟩ (fun x77 h77 hq => ?_)
            obtain ⟨rfl, rfl⟩ := hq
            refine A_iload dX8_drinkCrops_80 rfl ?_
            refine A_icmp_lt 128 dX8_drinkCrops_82 (by decide) (fun c82 => ?_) (fun c82 => ?_)
            · refine A_aload_n dX8_drinkCrops_128 rfl rfl ?_
              refine A_iload_n dX8_drinkCrops_129 rfl rfl ?_
              refine A_iload_n dX8_drinkCrops_130 rfl rfl ?_
              refine A_iload_n dX8_drinkCrops_131 rfl rfl ?_
              refine A_callVv dX8_drinkCrops_132 m_X8_168 cb_X8_staysDry (As := [_, _, _]) rfl (HC_at (by decide)) rfl (c_staysDry G (by omega) (vp_mono (gC i hi) hv6)) rfl ⟨by decide, by decide⟩ (Nat.le_of_ble_eq_true rfl) ⟨by decide, by decide⟩ (fun h132 hq => ?_)
              obtain rfl := hq
              refine A_inc 1 (lv1 := [_, _, _, _, _]) dX8_drinkCrops_135 rfl (by decide) rfl rfl ?_
              refine A_goto 2 dX8_drinkCrops_138 (by decide) ?_
              refine A_fg 3 (lv1 := [_, _, _, _, _]) rfl ?_
              refine A_fg 4 (lv1 := [_, _, _, _, _]) rfl ?_
              rw [nI_1]
              refine WA_h (congrArg (fun z => HC b z co r n) (Eq.symm (?_ : drinkS w i c = _))) (ih (i + 1) (drinkS w i c) (by omega) (hI.P drinkS_P) hT)
              rw [drinkS, if_neg c29, if_neg c45]
              exact if_pos c82
            · refine A_aload_n dX8_drinkCrops_85 rfl rfl ?_
              refine A_iload_n dX8_drinkCrops_86 rfl rfl ?_
              refine A_iload dX8_drinkCrops_87 rfl ?_
              refine A_ineg dX8_drinkCrops_89 ?_
              refine A_callVv dX8_drinkCrops_90 m_X8_155 cb_X8_add (As := [_, _]) rfl (HC_at (by decide)) rfl (c_addN G (vp_mono (gC i hi) hv6)) rfl ⟨by decide, by decide⟩ (Nat.le_of_ble_eq_true rfl) ⟨by decide, by decide⟩ (fun h90 hq => ?_)
              obtain rfl := hq
              refine A_aload_n dX8_drinkCrops_93 rfl rfl ?_
              refine A_dup dX8_drinkCrops_94 rfl ?_
              refine A_get dX8_drinkCrops_95 f_X8_93 (HC_at (by decide)) rfl ?_
              refine A_iload dX8_drinkCrops_98 rfl ?_
              refine A_iadd dX8_drinkCrops_100 ?_
              refine A_putC 18 dX8_drinkCrops_101 p_X8_93 (by decide) rfl (Nat.le_of_ble_eq_true rfl) rfl ?_
              refine A_aload_n dX8_drinkCrops_104 rfl rfl ?_
              refine A_get dX8_drinkCrops_105 f_X8_39 (HC_at (by decide)) rfl ?_
              refine A_iload_n dX8_drinkCrops_108 rfl rfl ?_
              refine A_dup2 dX8_drinkCrops_109 rfl rfl ?_
              refine A_ialdN dX8_drinkCrops_110 (HC_at (by decide)) (by omega) (by decide) ?_
              refine A_aload_n dX8_drinkCrops_111 rfl rfl ?_
              refine A_get dX8_drinkCrops_112 f_X8_52 (HC_at (by decide)) rfl ?_
              refine A_get dX8_drinkCrops_115 f_X8_165 (HC_at (by decide)) rfl ?_
              refine A_iload_n dX8_drinkCrops_118 rfl rfl ?_
              refine A_iconst (v := 2) dX8_drinkCrops_119 (by decide) ?_
              refine A_callVi dX8_drinkCrops_120 m_X8_72 cb_X3_at (As := [_, _]) rfl (HC_at (by decide)) rfl (c_at9 G b _ co r n 2 hc hc8 hi (by decide)) rfl ⟨by decide, by decide⟩ (Nat.le_of_ble_eq_true rfl) ⟨by decide, by decide⟩ (fun x120 h120 hq => ?_)
              obtain ⟨rfl, rfl⟩ := hq
              refine A_iadd dX8_drinkCrops_123 ?_
              refine A_iastCN dX8_drinkCrops_124 (by decide) (fun _ => rfl) (by omega) (by decide) ?_
              refine A_goto 135 dX8_drinkCrops_125 (by decide) ?_
              refine A_inc 1 (lv1 := [_, _, _, _, _]) dX8_drinkCrops_135 rfl (by decide) rfl rfl ?_
              refine A_goto 2 dX8_drinkCrops_138 (by decide) ?_
              refine A_fg 3 (lv1 := [_, _, _, _, _]) rfl ?_
              refine A_fg 4 (lv1 := [_, _, _, _, _]) rfl ?_
              rw [nI_1]
              refine WA_h (congrArg (fun z => HC b z co r n) (Eq.symm (?_ : drinkS w i c = _))) (ih (i + 1) (drinkS w i c) (by omega) (hI.P drinkS_P) hT)
              rw [drinkS, if_neg c29, if_neg c45]
              exact if_neg c82
  refine A_iconst (v := 0) dX8_drinkCrops_0 (by decide) ?_
  refine A_istore_n (lv1 := [_, _, _, _, _]) dX8_drinkCrops_1 rfl (Nat.le_of_ble_eq_true rfl) rfl rfl ?_
  obtain ⟨hv, hv6, hc, hc8, hf, hf3, hl, hl8, hw, hw30, gC, gL⟩ := id hI
  refine loop nc 0 c (by omega) hI (by rw [hTe]; rw [drinkA, hI.2.2.1, tcl, nI_clamp (by omega)])

theorem c_drinkSky (G : GX) {b : Nat} {c : CT} {co : Nat → Nat → Option Nat} {r : Nat → Option AE} {n : Nat} {nv nc nf nl wk : Nat} {w : Nat} (hI : IX c nv nc nf nl wk) (hw9 : w < 30) : MA G 1 yX8_drinkSky cX8_drinkSky 5 none 0 0 [.ref (b + 28), .int (nI w)] (HC b c co r n) (qV fun h1 => h1 = HC b (skyA w c) co r n) := by
  refine MA.of (own := RX8) false [some (.ref (b + 28)), some (.int (nI w)), none, none, none] (by decide +kernel) rfl (fun h => by cases h) (Nat.le_of_ble_eq_true rfl) rfl (fun X => ?_)
  obtain ⟨T, hTe⟩ : ∃ T, T = skyA w c := ⟨_, rfl⟩
  rw [← hTe]
  obtain ⟨s, hs⟩ : ∃ s, s = c 15 w := ⟨_, rfl⟩
  have loop : ∀ (k i : Nat) (c : CT), i + k = nv → IX c nv nc nf nl wk → forR (skyS s) i k c = T → WA X G RX8 cX8_drinkSky false none (qV fun h1 => h1 = HC b T co r n) 1 0 0 (HC b c co r n) 0 0 11 [some (.ref (b + 28)), some (.int (nI w)), some (.int s), some (.int (nI i)), none] [] := by
    intro k
    induction k with
    | zero =>
      intro i c hk hI hT
      obtain ⟨hv, hv6, hc, hc8, hf, hf3, hl, hl8, hw, hw30, gC, gL⟩ := id hI
      refine A_iload_n dX8_drinkSky_11 rfl rfl ?_
      refine A_aload_n dX8_drinkSky_12 rfl rfl ?_
      refine A_get dX8_drinkSky_13 f_X8_52 (HC_at (by decide)) rfl ?_
      refine A_get dX8_drinkSky_16 f_X8_78 (HC_at (by decide)) rfl ?_
      refine A_get dX8_drinkSky_19 f_X8_141 (HC_at (by decide)) rfl ?_
      refine A_icmp_ge 81 dX8_drinkSky_22 (by decide) (fun c22 => ?_) (fun c22 => ?_)
      · exact A_vret dX8_drinkSky_81 (congrArg (fun z => HC b z co r n) hT) ⟨by decide, by decide⟩
      · exact absurd (by rw [hv]; exact nI_le (by omega) (by omega)) c22
    | succ k ih =>
      intro i c hk hI hT
      obtain ⟨hv, hv6, hc, hc8, hf, hf3, hl, hl8, hw, hw30, gC, gL⟩ := id hI
      have hi : i < nv := by omega
      refine A_iload_n dX8_drinkSky_11 rfl rfl ?_
      refine A_aload_n dX8_drinkSky_12 rfl rfl ?_
      refine A_get dX8_drinkSky_13 f_X8_52 (HC_at (by decide)) rfl ?_
      refine A_get dX8_drinkSky_16 f_X8_78 (HC_at (by decide)) rfl ?_
      refine A_get dX8_drinkSky_19 f_X8_141 (HC_at (by decide)) rfl ?_
      refine A_icmp_ge 81 dX8_drinkSky_22 (by decide) (fun c22 => ?_) (fun c22 => ?_)
      · exact absurd c22 (by rw [hv]; exact nI_ge (by omega) (by omega))
      · refine A_aload_n dX8_drinkSky_25 rfl rfl ?_
        refine A_get dX8_drinkSky_26 f_X8_15 (HC_at (by decide)) rfl ?_
        refine A_iload_n dX8_drinkSky_29 rfl rfl ?_
        refine A_ialdN dX8_drinkSky_30 (HC_at (by decide)) (by omega) (by decide) ?_
        refine A_aload_n dX8_drinkSky_31 rfl rfl ?_
        refine A_get dX8_drinkSky_32 f_X8_52 (HC_at (by decide)) rfl ?_
        refine A_get dX8_drinkSky_35 f_X8_78 (HC_at (by decide)) rfl ?_
        refine A_iload_n dX8_drinkSky_38 rfl rfl ?_
        refine A_iconst (v := 2) dX8_drinkSky_39 (by decide) ?_
        refine A_callVi dX8_drinkSky_40 m_X8_72 cb_X3_at (As := [_, _]) rfl (HC_at (by decide)) rfl (c_at7 G b _ co r n 2 hv hv6 hi (by decide)) rfl ⟨by decide, by decide⟩ (Nat.le_of_ble_eq_true rfl) ⟨by decide, by decide⟩ (fun x40 h40 hq => ?_)
        obtain ⟨rfl, rfl⟩ := hq
        refine A_iload_n dX8_drinkSky_43 rfl rfl ?_
        refine A_imul dX8_drinkSky_44 ?_
        refine A_bipush (v := 100) dX8_drinkSky_45 (by decide) ?_
        refine A_idiv dX8_drinkSky_47 (by decide) ?_
        refine A_min dX8_drinkSky_48 w_652 (by decide) (Nat.le_of_ble_eq_true rfl) ⟨by decide, by decide⟩ ?_
        refine A_istore (lv1 := [_, _, _, _, _]) dX8_drinkSky_51 (Nat.le_of_ble_eq_true rfl) rfl rfl ?_
        refine A_aload_n dX8_drinkSky_53 rfl rfl ?_
        refine A_get dX8_drinkSky_54 f_X8_15 (HC_at (by decide)) rfl ?_
        refine A_iload_n dX8_drinkSky_57 rfl rfl ?_
        refine A_dup2 dX8_drinkSky_58 rfl rfl ?_
        refine A_ialdN dX8_drinkSky_59 (HC_at (by decide)) (by omega) (by decide) ?_
        refine A_iload dX8_drinkSky_60 rfl ?_
        refine A_isub dX8_drinkSky_62 ?_
        refine A_iastCN dX8_drinkSky_63 (by decide) (fun _ => rfl) (by omega) (by decide) ?_
        refine A_aload_n dX8_drinkSky_64 rfl rfl ?_
        refine A_dup dX8_drinkSky_65 rfl ?_
        refine A_get dX8_drinkSky_66 f_X8_87 (HC_at (by decide)) rfl ?_
        refine A_iload dX8_drinkSky_69 rfl ?_
        refine A_iadd dX8_drinkSky_71 ?_
        refine A_putC 16 dX8_drinkSky_72 p_X8_87 (by decide) rfl (Nat.le_of_ble_eq_true rfl) rfl ?_
        refine A_inc 1 (lv1 := [_, _, _, _, _]) dX8_drinkSky_75 rfl (by decide) rfl rfl ?_
        refine A_goto 11 dX8_drinkSky_78 (by decide) ?_
        refine A_fg 4 (lv1 := [_, _, _, _, _]) rfl ?_
        rw [nI_1]
        refine WA_h (congrArg (fun z => HC b z co r n) (Eq.symm (?_ : skyS s i c = _))) (ih (i + 1) (skyS s i c) (by omega) (hI.P skyS_P) hT)
        rfl
  refine A_aload_n dX8_drinkSky_0 rfl rfl ?_
  refine A_get dX8_drinkSky_1 f_X8_52 (HC_at (by decide)) rfl ?_
  refine A_iload_n dX8_drinkSky_4 rfl rfl ?_
  refine A_callVi dX8_drinkSky_5 m_X8_172 cb_X2_sunIn (As := [_]) rfl (HC_at (by decide)) rfl (c_sunIn G hw9) rfl ⟨by decide, by decide⟩ (Nat.le_of_ble_eq_true rfl) ⟨by decide, by decide⟩ (fun x5 h5 hq => ?_)
  obtain ⟨e5, rfl⟩ := hq
  rw [← hs] at e5
  rw [e5]
  refine A_istore_n (lv1 := [_, _, _, _, _]) dX8_drinkSky_8 rfl (Nat.le_of_ble_eq_true rfl) rfl rfl ?_
  refine A_iconst (v := 0) dX8_drinkSky_9 (by decide) ?_
  refine A_istore_n (lv1 := [_, _, _, _, _]) dX8_drinkSky_10 rfl (Nat.le_of_ble_eq_true rfl) rfl rfl ?_
  obtain ⟨hv, hv6, hc, hc8, hf, hf3, hl, hl8, hw, hw30, gC, gL⟩ := id hI
  refine loop nv 0 c (by omega) hI (by rw [hTe]; rw [skyA, ← hs, hI.1, tcl, nI_clamp (by omega)])

theorem c_noteWater (G : GX) {b : Nat} {c : CT} {co : Nat → Nat → Option Nat} {r : Nat → Option AE} {n : Nat} {nv nc nf nl wk : Nat} {w : Nat} (hI : IX c nv nc nf nl wk) (hw9 : w < 30) : MA G 0 yX8_noteWater cX8_noteWater 3 none 0 0 [.ref (b + 28), .int (nI w)] (HC b c co r n) (qV fun h1 => h1 = HC b (wbA w c) co r n) := by
  refine MA.of (own := RX8) false [some (.ref (b + 28)), some (.int (nI w)), none] (by decide +kernel) rfl (fun h => by cases h) (Nat.le_of_ble_eq_true rfl) rfl (fun X => ?_)
  obtain ⟨T, hTe⟩ : ∃ T, T = wbA w c := ⟨_, rfl⟩
  rw [← hTe]
  have loop : ∀ (k i : Nat) (c : CT), i + k = nv → IX c nv nc nf nl wk → forR (wbS w) i k c = T → WA X G RX8 cX8_noteWater false none (qV fun h1 => h1 = HC b T co r n) 0 0 0 (HC b c co r n) 0 0 12 [some (.ref (b + 28)), some (.int (nI w)), some (.int (nI i))] [] := by
    intro k
    induction k with
    | zero =>
      intro i c hk hI hT
      obtain ⟨hv, hv6, hc, hc8, hf, hf3, hl, hl8, hw, hw30, gC, gL⟩ := id hI
      refine A_iload_n dX8_noteWater_12 rfl rfl ?_
      refine A_aload_n dX8_noteWater_13 rfl rfl ?_
      refine A_get dX8_noteWater_14 f_X8_52 (HC_at (by decide)) rfl ?_
      refine A_get dX8_noteWater_17 f_X8_78 (HC_at (by decide)) rfl ?_
      refine A_get dX8_noteWater_20 f_X8_141 (HC_at (by decide)) rfl ?_
      refine A_icmp_ge 49 dX8_noteWater_23 (by decide) (fun c23 => ?_) (fun c23 => ?_)
      · exact A_vret dX8_noteWater_49 (congrArg (fun z => HC b z co r n) hT) ⟨by decide, by decide⟩
      · exact absurd (by rw [hv]; exact nI_le (by omega) (by omega)) c23
    | succ k ih =>
      intro i c hk hI hT
      obtain ⟨hv, hv6, hc, hc8, hf, hf3, hl, hl8, hw, hw30, gC, gL⟩ := id hI
      have hi : i < nv := by omega
      refine A_iload_n dX8_noteWater_12 rfl rfl ?_
      refine A_aload_n dX8_noteWater_13 rfl rfl ?_
      refine A_get dX8_noteWater_14 f_X8_52 (HC_at (by decide)) rfl ?_
      refine A_get dX8_noteWater_17 f_X8_78 (HC_at (by decide)) rfl ?_
      refine A_get dX8_noteWater_20 f_X8_141 (HC_at (by decide)) rfl ?_
      refine A_icmp_ge 49 dX8_noteWater_23 (by decide) (fun c23 => ?_) (fun c23 => ?_)
      · exact absurd c23 (by rw [hv]; exact nI_ge (by omega) (by omega))
      · refine A_aload_n dX8_noteWater_26 rfl rfl ?_
        refine A_get dX8_noteWater_27 f_X8_18 (HC_at (by decide)) rfl ?_
        refine A_iload_n dX8_noteWater_30 rfl rfl ?_
        refine A_bipush (v := 30) dX8_noteWater_31 (by decide) ?_
        refine A_imul dX8_noteWater_33 ?_
        refine A_iload_n dX8_noteWater_34 rfl rfl ?_
        refine A_iadd dX8_noteWater_35 ?_
        rw [show (30 : Int32) = nI 30 from rfl, pk_mul, nI_add]
        refine A_aload_n dX8_noteWater_36 rfl rfl ?_
        refine A_get dX8_noteWater_37 f_X8_15 (HC_at (by decide)) rfl ?_
        refine A_iload_n dX8_noteWater_40 rfl rfl ?_
        refine A_ialdN dX8_noteWater_41 (HC_at (by decide)) (by omega) (by decide) ?_
        refine A_iastCN dX8_noteWater_42 (by decide) (fun _ => rfl) (by omega) (by decide) ?_
        refine A_inc 1 (lv1 := [_, _, _]) dX8_noteWater_43 rfl (by decide) rfl rfl ?_
        refine A_goto 12 dX8_noteWater_46 (by decide) ?_
        rw [nI_1]
        refine WA_h (congrArg (fun z => HC b z co r n) (Eq.symm (?_ : wbS w i c = _))) (ih (i + 1) (wbS w i c) (by omega) (hI.P wbS_P) hT)
        rfl
  refine A_iload_n dX8_noteWater_0 rfl rfl ?_
  refine A_if_lt 49 dX8_noteWater_1 (by decide) (fun c1 => ?_) (fun c1 => ?_)
  · exact absurd c1 (nI_pos (by omega))
  · refine A_iload_n dX8_noteWater_4 rfl rfl ?_
    refine A_bipush (v := 30) dX8_noteWater_5 (by decide) ?_
    refine A_icmp_ge 49 dX8_noteWater_7 (by decide) (fun c7 => ?_) (fun c7 => ?_)
    · exact absurd c7 (nI_ge (b := 30) hw9 (by decide))
    · refine A_iconst (v := 0) dX8_noteWater_10 (by decide) ?_
      refine A_istore_n (lv1 := [_, _, _]) dX8_noteWater_11 rfl (Nat.le_of_ble_eq_true rfl) rfl rfl ?_
      obtain ⟨hv, hv6, hc, hc8, hf, hf3, hl, hl8, hw, hw30, gC, gL⟩ := id hI
      refine loop nv 0 c (by omega) hI (by rw [hTe]; rw [wbA, hI.1, tcl, nI_clamp (by omega)])

theorem c_roomOfN (G : GX) {b : Nat} {c : CT} {co : Nat → Nat → Option Nat} {r : Nat → Option AE} {n : Nat} {nv nc nf nl wk : Nat} {i : Nat} (hI : IX c nv nc nf nl wk) (hi : i < nv) : MA G 1 yX8_roomOf cX8_roomOf 2 (some .int) 0 0 [.ref (b + 28), .int (nI i)] (HC b c co r n) (qI fun y h1 => y = roomF c i ∧ h1 = HC b c co r n) := by
  have h6 := hI.2.1
  have e := c_roomOf G (b := b) (co := co) (r := r) (n := n) hI (vp_in_nI hi (by omega))
  rw [tcl, nI_clamp (by omega)] at e
  exact e
theorem c_seepAway (G : GX) {b : Nat} {c : CT} {co : Nat → Nat → Option Nat} {r : Nat → Option AE} {n : Nat} {nv nc nf nl wk : Nat} (hI : IX c nv nc nf nl wk) : MA G 2 yX8_seepAway cX8_seepAway 5 none 0 0 [.ref (b + 28)] (HC b c co r n) (qV fun h1 => h1 = HC b (seepA c) co r n) := by
  refine MA.of (own := RX8) false [some (.ref (b + 28)), none, none, none, none] (by decide +kernel) rfl (fun h => by cases h) (Nat.le_of_ble_eq_true rfl) rfl (fun X => ?_)
  obtain ⟨T, hTe⟩ : ∃ T, T = seepA c := ⟨_, rfl⟩
  rw [← hTe]
  have loop : ∀ (k : Nat) (c : CT) (x : Int32), k ≤ nv → IX c nv nc nf nl wk → seepR nv k c = T → x = nI k + (-1) → WA X G RX8 cX8_seepAway false none (qV fun h1 => h1 = HC b T co r n) 2 0 0 (HC b c co r n) 0 0 15 [some (.ref (b + 28)), some (.int (nI nv + (-1))), some (.int x), none, none] [] := by
    intro k
    induction k with
    | zero =>
      intro c x hk hI hT hx
      subst hx
      refine A_iload_n dX8_seepAway_15 rfl rfl ?_
      refine A_if_lt 110 dX8_seepAway_16 (by decide) (fun c16 => ?_) (fun c16 => ?_)
      · exact A_vret dX8_seepAway_110 (congrArg (fun z => HC b z co r n) hT) ⟨by decide, by decide⟩
      · exact absurd (by decide) c16
    | succ k ih =>
      intro c x hk hI hT hx
      obtain ⟨hv, hv6, -⟩ := id hI
      obtain ⟨m, rfl⟩ : ∃ m, nv = m + 1 := ⟨nv - 1, by omega⟩
      rw [pk_m1] at hx ih ⊢
      subst hx
      refine A_iload_n dX8_seepAway_15 rfl rfl ?_
      refine A_if_lt 110 dX8_seepAway_16 (by decide) (fun c16 => ?_) (fun c16 => ?_)
      · exact absurd c16 (nI_pos (by omega))
      · refine A_aload_n dX8_seepAway_19 rfl rfl ?_
        refine A_get dX8_seepAway_20 f_X8_15 (HC_at (by decide)) rfl ?_
        refine A_iload_n dX8_seepAway_23 rfl rfl ?_
        refine A_ialdN dX8_seepAway_24 (HC_at (by decide)) (by omega) (by decide) ?_
        refine A_aload_n dX8_seepAway_25 rfl rfl ?_
        refine A_get dX8_seepAway_26 f_X8_52 (HC_at (by decide)) rfl ?_
        refine A_get dX8_seepAway_29 f_X8_78 (HC_at (by decide)) rfl ?_
        refine A_iload_n dX8_seepAway_32 rfl rfl ?_
        refine A_iconst (v := 3) dX8_seepAway_33 (by decide) ?_
        refine A_callVi dX8_seepAway_34 m_X8_72 cb_X3_at (As := [_, _]) rfl (HC_at (by decide)) rfl (c_at7 G b _ co r n 3 hv hv6 (by omega) (by decide)) rfl ⟨by decide, by decide⟩ (Nat.le_of_ble_eq_true rfl) ⟨by decide, by decide⟩ (fun x34 h34 hq => ?_)
        obtain ⟨rfl, rfl⟩ := hq
        refine A_min dX8_seepAway_37 w_652 (by decide) (Nat.le_of_ble_eq_true rfl) ⟨by decide, by decide⟩ ?_
        refine A_istore_n (lv1 := [_, _, _, _, _]) dX8_seepAway_40 rfl (Nat.le_of_ble_eq_true rfl) rfl rfl ?_
        refine A_iload_n dX8_seepAway_41 rfl rfl ?_
        refine A_iload_n dX8_seepAway_42 rfl rfl ?_
        refine A_icmp_ge 60 dX8_seepAway_43 (by decide) (fun c43 => ?_) (fun c43 => ?_)
        · have hk9 : ¬ k < m := fun z => nI_ge z (by omega) c43
          refine A_iconst (v := 0) dX8_seepAway_60 (by decide) ?_
          refine A_istore (lv1 := [_, _, _, _, _]) dX8_seepAway_61 (Nat.le_of_ble_eq_true rfl) rfl rfl ?_
          refine A_aload_n dX8_seepAway_63 rfl rfl ?_
          refine A_get dX8_seepAway_64 f_X8_15 (HC_at (by decide)) rfl ?_
          refine A_iload_n dX8_seepAway_67 rfl rfl ?_
          refine A_dup2 dX8_seepAway_68 rfl rfl ?_
          refine A_ialdN dX8_seepAway_69 (HC_at (by decide)) (by omega) (by decide) ?_
          refine A_iload_n dX8_seepAway_70 rfl rfl ?_
          refine A_isub dX8_seepAway_71 ?_
          refine A_iastCN dX8_seepAway_72 (by decide) (fun _ => rfl) (by omega) (by decide) ?_
          refine A_iload_n dX8_seepAway_73 rfl rfl ?_
          refine A_iload_n dX8_seepAway_74 rfl rfl ?_
          refine A_icmp_ge 91 dX8_seepAway_75 (by decide) (fun c75 => ?_) (fun c75 => ?_)
          · refine A_aload_n dX8_seepAway_91 rfl rfl ?_
            refine A_dup dX8_seepAway_92 rfl ?_
            refine A_get dX8_seepAway_93 f_X8_90 (HC_at (by decide)) rfl ?_
            refine A_iload_n dX8_seepAway_96 rfl rfl ?_
            refine A_iload dX8_seepAway_97 rfl ?_
            refine A_isub dX8_seepAway_99 ?_
            refine A_iadd dX8_seepAway_100 ?_
            refine A_putC 17 dX8_seepAway_101 p_X8_90 (by decide) rfl (Nat.le_of_ble_eq_true rfl) rfl ?_
            refine A_inc (-1) (lv1 := [_, _, _, _, _]) dX8_seepAway_104 rfl (by decide) rfl rfl ?_
            refine A_goto 15 dX8_seepAway_107 (by decide) ?_
            refine A_fg 3 (lv1 := [_, _, _, _, _]) rfl ?_
            refine A_fg 4 (lv1 := [_, _, _, _, _]) rfl ?_
            refine WA_h (congrArg (fun z => HC b z co r n) (Eq.symm (?_ : seepS (m + 1) k c = _))) (ih (seepS (m + 1) k c) _ (by omega) (hI.P seepS_P) hT rfl)
            exact if_neg (by omega)
          · exact absurd (nI_le (Nat.not_lt.mp hk9) (by omega)) c75
        · have hk9 : k < m := by rcases Nat.lt_or_ge k m with z | z; exact z; exact absurd (nI_le z (by omega)) c43
          refine A_iload_n dX8_seepAway_46 rfl rfl ?_
          refine A_aload_n dX8_seepAway_47 rfl rfl ?_
          refine A_iload_n dX8_seepAway_48 rfl rfl ?_
          refine A_iconst (v := 1) dX8_seepAway_49 (by decide) ?_
          refine A_iadd dX8_seepAway_50 ?_
          rw [nI_1]
          refine A_callVi dX8_seepAway_51 m_X8_144 cb_X8_roomOf (As := [_]) rfl (HC_at (by decide)) rfl (c_roomOfN G hI (by omega)) rfl ⟨by decide, by decide⟩ (Nat.le_of_ble_eq_true rfl) ⟨by decide, by decide⟩ (fun x51 h51 hq => ?_)
          obtain ⟨rfl, rfl⟩ := hq
          refine A_min dX8_seepAway_54 w_652 (by decide) (Nat.le_of_ble_eq_true rfl) ⟨by decide, by decide⟩ ?_
          refine A_goto 61 dX8_seepAway_57 (by decide) ?_
          refine A_istore (lv1 := [_, _, _, _, _]) dX8_seepAway_61 (Nat.le_of_ble_eq_true rfl) rfl rfl ?_
          refine A_aload_n dX8_seepAway_63 rfl rfl ?_
          refine A_get dX8_seepAway_64 f_X8_15 (HC_at (by decide)) rfl ?_
          refine A_iload_n dX8_seepAway_67 rfl rfl ?_
          refine A_dup2 dX8_seepAway_68 rfl rfl ?_
          refine A_ialdN dX8_seepAway_69 (HC_at (by decide)) (by omega) (by decide) ?_
          refine A_iload_n dX8_seepAway_70 rfl rfl ?_
          refine A_isub dX8_seepAway_71 ?_
          refine A_iastCN dX8_seepAway_72 (by decide) (fun _ => rfl) (by omega) (by decide) ?_
          refine A_iload_n dX8_seepAway_73 rfl rfl ?_
          refine A_iload_n dX8_seepAway_74 rfl rfl ?_
          refine A_icmp_ge 91 dX8_seepAway_75 (by decide) (fun c75 => ?_) (fun c75 => ?_)
          · exact absurd c75 (nI_ge hk9 (by omega))
          · refine A_aload_n dX8_seepAway_78 rfl rfl ?_
            refine A_get dX8_seepAway_79 f_X8_15 (HC_at (by decide)) rfl ?_
            refine A_iload_n dX8_seepAway_82 rfl rfl ?_
            refine A_iconst (v := 1) dX8_seepAway_83 (by decide) ?_
            refine A_iadd dX8_seepAway_84 ?_
            rw [nI_1]
            refine A_dup2 dX8_seepAway_85 rfl rfl ?_
            refine A_ialdN dX8_seepAway_86 (HC_at (by decide)) (by omega) (by decide) ?_
            refine A_iload dX8_seepAway_87 rfl ?_
            refine A_iadd dX8_seepAway_89 ?_
            refine A_iastCN dX8_seepAway_90 (by decide) (fun _ => rfl) (by omega) (by decide) ?_
            refine A_aload_n dX8_seepAway_91 rfl rfl ?_
            refine A_dup dX8_seepAway_92 rfl ?_
            refine A_get dX8_seepAway_93 f_X8_90 (HC_at (by decide)) rfl ?_
            refine A_iload_n dX8_seepAway_96 rfl rfl ?_
            refine A_iload dX8_seepAway_97 rfl ?_
            refine A_isub dX8_seepAway_99 ?_
            refine A_iadd dX8_seepAway_100 ?_
            refine A_putC 17 dX8_seepAway_101 p_X8_90 (by decide) rfl (Nat.le_of_ble_eq_true rfl) rfl ?_
            refine A_inc (-1) (lv1 := [_, _, _, _, _]) dX8_seepAway_104 rfl (by decide) rfl rfl ?_
            refine A_goto 15 dX8_seepAway_107 (by decide) ?_
            refine A_fg 3 (lv1 := [_, _, _, _, _]) rfl ?_
            refine A_fg 4 (lv1 := [_, _, _, _, _]) rfl ?_
            refine WA_h (congrArg (fun z => HC b z co r n) (Eq.symm (?_ : seepS (m + 1) k c = _))) (ih (seepS (m + 1) k c) _ (by omega) (hI.P seepS_P) hT rfl)
            exact if_pos (by omega)
  refine A_aload_n dX8_seepAway_0 rfl rfl ?_
  refine A_get dX8_seepAway_1 f_X8_52 (HC_at (by decide)) rfl ?_
  refine A_get dX8_seepAway_4 f_X8_78 (HC_at (by decide)) rfl ?_
  refine A_get dX8_seepAway_7 f_X8_141 (HC_at (by decide)) rfl ?_
  refine A_iconst (v := 1) dX8_seepAway_10 (by decide) ?_
  refine A_isub dX8_seepAway_11 ?_
  rw [hI.1, Int32.sub_eq_add_neg]
  refine A_istore_n (lv1 := [_, _, _, _, _]) dX8_seepAway_12 rfl (Nat.le_of_ble_eq_true rfl) rfl rfl ?_
  refine A_iload_n dX8_seepAway_13 rfl rfl ?_
  refine A_istore_n (lv1 := [_, _, _, _, _]) dX8_seepAway_14 rfl (Nat.le_of_ble_eq_true rfl) rfl rfl ?_
  exact loop nv c _ (Nat.le_refl _) hI (by have := hI.2.1; rw [hTe, seepA, hI.1, tcl, nI_clamp (by omega)]) rfl

theorem c_pass (G : GX) {b : Nat} {c : CT} {co : Nat → Nat → Option Nat} {r : Nat → Option AE} {n : Nat} {nv nc nf nl wk : Nat} {w : Nat} (hI : IX c nv nc nf nl wk) (hT : TX c nv nf) (hw9 : w < 30) : MA G 3 yX8_pass cX8_pass 2 none 0 0 [.ref (b + 28), .int (nI w)] (HC b c co r n) (qV fun h1 => h1 = HC b (passF w c) co r n) := by
  refine MA.of (own := RX8) false [some (.ref (b + 28)), some (.int (nI w))] (by decide +kernel) rfl (fun h => by cases h) (Nat.le_of_ble_eq_true rfl) rfl (fun X => ?_)
  obtain ⟨hv, hv6, hc, hc8, hf, hf3, hl, hl8, hw, hw30, gC, gL⟩ := id hI
  have hI1 := hI.P (takeA_P (w := nI w))
  have hI2 := hI1.P (lendA_P (w := nI w))
  have hI3 := hI2.P (repayA_P (w := nI w))
  have hT3 := ((hT.P (takeA_P (w := nI w))).P (lendA_P (w := nI w))).P (repayA_P (w := nI w))
  refine A_aload_n dX8_pass_0 rfl rfl ?_
  refine A_iload_n dX8_pass_1 rfl rfl ?_
  refine A_callVv dX8_pass_2 m_X8_106 cb_X8_takeFloods (As := [_]) rfl (HC_at (by decide)) rfl (c_takeFloods G hI hT) rfl ⟨by decide, by decide⟩ (Nat.le_of_ble_eq_true rfl) ⟨by decide, by decide⟩ (fun h2 hq => ?_)
  obtain ⟨rfl, rfl⟩ := hq
  refine A_aload_n dX8_pass_5 rfl rfl ?_
  refine A_iload_n dX8_pass_6 rfl rfl ?_
  refine A_callVv dX8_pass_7 m_X8_109 cb_X8_lendOn (As := [_]) rfl (HC_at (by decide)) rfl (c_lendOn G hI1) rfl ⟨by decide, by decide⟩ (Nat.le_of_ble_eq_true rfl) ⟨by decide, by decide⟩ (fun h7 hq => ?_)
  obtain ⟨rfl, rfl⟩ := hq
  refine A_aload_n dX8_pass_10 rfl rfl ?_
  refine A_iload_n dX8_pass_11 rfl rfl ?_
  refine A_callVv dX8_pass_12 m_X8_112 cb_X8_repayTill (As := [_]) rfl (HC_at (by decide)) rfl (c_repayTill G hI2) rfl ⟨by decide, by decide⟩ (Nat.le_of_ble_eq_true rfl) ⟨by decide, by decide⟩ (fun h12 hq => ?_)
  obtain ⟨rfl, rfl⟩ := hq
  refine A_iload_n dX8_pass_15 rfl rfl ?_
  refine A_aload_n dX8_pass_16 rfl rfl ?_
  refine A_get dX8_pass_17 f_X8_52 (HC_at (by decide)) rfl ?_
  refine A_get dX8_pass_20 f_X8_115 (HC_at (by decide)) rfl ?_
  refine A_icmp_ne 31 dX8_pass_23 (by decide) (fun c23 => ?_) (fun c23 => ?_)
  · have hI4 := hI3
    have hI5 := hI4.P (drinkA_P (w := nI w))
    have hI6 := hI5.P (skyA_P (w := w))
    have hI7 := hI6.P seepA_P
    refine A_aload_n dX8_pass_31 rfl rfl ?_
    refine A_iload_n dX8_pass_32 rfl rfl ?_
    refine A_callVv dX8_pass_33 m_X8_121 cb_X8_drinkCrops (As := [_]) rfl (HC_at (by decide)) rfl (c_drinkCrops G hI4) rfl ⟨by decide, by decide⟩ (Nat.le_of_ble_eq_true rfl) ⟨by decide, by decide⟩ (fun h33 hq => ?_)
    obtain ⟨rfl, rfl⟩ := hq
    refine A_aload_n dX8_pass_36 rfl rfl ?_
    refine A_iload_n dX8_pass_37 rfl rfl ?_
    refine A_callVv dX8_pass_38 m_X8_124 cb_X8_drinkSky (As := [_]) rfl (HC_at (by decide)) rfl (c_drinkSky G hI5 hw9) rfl ⟨by decide, by decide⟩ (Nat.le_of_ble_eq_true rfl) ⟨by decide, by decide⟩ (fun h38 hq => ?_)
    obtain ⟨rfl, rfl⟩ := hq
    refine A_aload_n dX8_pass_41 rfl rfl ?_
    refine A_callVv dX8_pass_42 m_X8_127 cb_X8_seepAway (As := []) rfl (HC_at (by decide)) rfl (c_seepAway G hI6) rfl ⟨by decide, by decide⟩ (Nat.le_of_ble_eq_true rfl) ⟨by decide, by decide⟩ (fun h42 hq => ?_)
    obtain ⟨rfl, rfl⟩ := hq
    refine A_aload_n dX8_pass_45 rfl rfl ?_
    refine A_iload_n dX8_pass_46 rfl rfl ?_
    refine A_callVv dX8_pass_47 m_X8_130 cb_X8_noteWater (As := [_]) rfl (HC_at (by decide)) rfl (c_noteWater G hI7 hw9) rfl ⟨by decide, by decide⟩ (Nat.le_of_ble_eq_true rfl) ⟨by decide, by decide⟩ (fun h47 hq => ?_)
    obtain ⟨rfl, rfl⟩ := hq
    exact A_vret dX8_pass_50 (by rw [passF]; exact congrArg (fun z => HC b (wbA w (seepA (skyA w (drinkA (nI w) z)))) co r n) (if_neg c23).symm) ⟨by decide, by decide⟩
  · refine A_aload_n dX8_pass_26 rfl rfl ?_
    refine A_iload_n dX8_pass_27 rfl rfl ?_
    refine A_callVv dX8_pass_28 m_X8_118 cb_X8_giveBack (As := [_]) rfl (HC_at (by decide)) rfl (c_giveBack G hI3 hT3) rfl ⟨by decide, by decide⟩ (Nat.le_of_ble_eq_true rfl) ⟨by decide, by decide⟩ (fun h28 hq => ?_)
    obtain ⟨rfl, rfl⟩ := hq
    have hI4 := hI3.P (giveA_P (w := nI w))
    have hI5 := hI4.P (drinkA_P (w := nI w))
    have hI6 := hI5.P (skyA_P (w := w))
    have hI7 := hI6.P seepA_P
    refine A_aload_n dX8_pass_31 rfl rfl ?_
    refine A_iload_n dX8_pass_32 rfl rfl ?_
    refine A_callVv dX8_pass_33 m_X8_121 cb_X8_drinkCrops (As := [_]) rfl (HC_at (by decide)) rfl (c_drinkCrops G hI4) rfl ⟨by decide, by decide⟩ (Nat.le_of_ble_eq_true rfl) ⟨by decide, by decide⟩ (fun h33 hq => ?_)
    obtain ⟨rfl, rfl⟩ := hq
    refine A_aload_n dX8_pass_36 rfl rfl ?_
    refine A_iload_n dX8_pass_37 rfl rfl ?_
    refine A_callVv dX8_pass_38 m_X8_124 cb_X8_drinkSky (As := [_]) rfl (HC_at (by decide)) rfl (c_drinkSky G hI5 hw9) rfl ⟨by decide, by decide⟩ (Nat.le_of_ble_eq_true rfl) ⟨by decide, by decide⟩ (fun h38 hq => ?_)
    obtain ⟨rfl, rfl⟩ := hq
    refine A_aload_n dX8_pass_41 rfl rfl ?_
    refine A_callVv dX8_pass_42 m_X8_127 cb_X8_seepAway (As := []) rfl (HC_at (by decide)) rfl (c_seepAway G hI6) rfl ⟨by decide, by decide⟩ (Nat.le_of_ble_eq_true rfl) ⟨by decide, by decide⟩ (fun h42 hq => ?_)
    obtain ⟨rfl, rfl⟩ := hq
    refine A_aload_n dX8_pass_45 rfl rfl ?_
    refine A_iload_n dX8_pass_46 rfl rfl ?_
    refine A_callVv dX8_pass_47 m_X8_130 cb_X8_noteWater (As := [_]) rfl (HC_at (by decide)) rfl (c_noteWater G hI7 hw9) rfl ⟨by decide, by decide⟩ (Nat.le_of_ble_eq_true rfl) ⟨by decide, by decide⟩ (fun h47 hq => ?_)
    obtain ⟨rfl, rfl⟩ := hq
    exact A_vret dX8_pass_50 (by rw [passF]; exact congrArg (fun z => HC b (wbA w (seepA (skyA w (drinkA (nI w) z)))) co r n) (if_pos c23).symm) ⟨by decide, by decide⟩

theorem c_run (G : GX) {b : Nat} {c : CT} {co : Nat → Nat → Option Nat} {r : Nat → Option AE} {n : Nat} {nv nc nf nl wk : Nat} (hI : IX c nv nc nf nl wk) (hT9 : TX c nv nf) : MA G 4 yX8_run cX8_run 2 none 0 0 [.ref (b + 28)] (HC b c co r n) (qV fun h1 => h1 = HC b (runF c) co r n) := by
  refine MA.of (own := RX8) false [some (.ref (b + 28)), none] (by decide +kernel) rfl (fun h => by cases h) (Nat.le_of_ble_eq_true rfl) rfl (fun X => ?_)
  obtain ⟨T, hTe⟩ : ∃ T, T = runF c := ⟨_, rfl⟩
  rw [← hTe]
  have loop : ∀ (k i : Nat) (c : CT), i + k = wk → (IX c nv nc nf nl wk ∧ TX c nv nf) → forR (passF) i k c = T → WA X G RX8 cX8_run false none (qV fun h1 => h1 = HC b T co r n) 4 0 0 (HC b c co r n) 0 0 2 [some (.ref (b + 28)), some (.int (nI i))] [] := by
    intro k
    induction k with
    | zero =>
      intro i c hk hI hT
      obtain ⟨hv, hv6, hc, hc8, hf, hf3, hl, hl8, hw, hw30, gC, gL⟩ := id hI.1
      refine A_iload_n dX8_run_2 rfl rfl ?_
      refine A_aload_n dX8_run_3 rfl rfl ?_
      refine A_get dX8_run_4 f_X8_52 (HC_at (by decide)) rfl ?_
      refine A_get dX8_run_7 f_X8_99 (HC_at (by decide)) rfl ?_
      refine A_icmp_ge 24 dX8_run_10 (by decide) (fun c10 => ?_) (fun c10 => ?_)
      · exact A_vret dX8_run_24 (congrArg (fun z => HC b z co r n) hT) ⟨by decide, by decide⟩
      · exact absurd (by rw [hw]; exact nI_le (by omega) (by omega)) c10
    | succ k ih =>
      intro i c hk hI hT
      obtain ⟨hv, hv6, hc, hc8, hf, hf3, hl, hl8, hw, hw30, gC, gL⟩ := id hI.1
      have hi : i < wk := by omega
      refine A_iload_n dX8_run_2 rfl rfl ?_
      refine A_aload_n dX8_run_3 rfl rfl ?_
      refine A_get dX8_run_4 f_X8_52 (HC_at (by decide)) rfl ?_
      refine A_get dX8_run_7 f_X8_99 (HC_at (by decide)) rfl ?_
      refine A_icmp_ge 24 dX8_run_10 (by decide) (fun c10 => ?_) (fun c10 => ?_)
      · exact absurd c10 (by rw [hw]; exact nI_ge (by omega) (by omega))
      · refine A_aload_n dX8_run_13 rfl rfl ?_
        refine A_iload_n dX8_run_14 rfl rfl ?_
        refine A_callVv dX8_run_15 m_X8_102 cb_X8_pass (As := [_]) rfl (HC_at (by decide)) rfl (c_pass G hI.1 hI.2 (by omega)) rfl ⟨by decide, by decide⟩ (Nat.le_of_ble_eq_true rfl) ⟨by decide, by decide⟩ (fun h15 hq => ?_)
        obtain ⟨rfl, rfl⟩ := hq
        refine A_inc 1 (lv1 := [_, _]) dX8_run_18 rfl (by decide) rfl rfl ?_
        refine A_goto 2 dX8_run_21 (by decide) ?_
        rw [nI_1]
        refine WA_h (congrArg (fun z => HC b z co r n) (Eq.symm (?_ : passF i c = _))) (ih (i + 1) (passF i c) (by omega) (⟨hI.1.P passF_P, hI.2.P passF_P⟩) hT)
        rfl
  refine A_iconst (v := 0) dX8_run_0 (by decide) ?_
  refine A_istore_n (lv1 := [_, _]) dX8_run_1 rfl (Nat.le_of_ble_eq_true rfl) rfl rfl ?_
  have hw30 := hI.2.2.2.2.2.2.2.2.2.1
  refine loop wk 0 c (by omega) ⟨hI, hT9⟩ (by rw [hTe]; rw [runF, hI.2.2.2.2.2.2.2.2.1, tcl, nI_clamp (by omega)])
