/-! SLOTS in the class' world -/
theorem A_astore_nN {X : XC} {G : GX} {own : String} {cc : ByteArray} {ini : Bool} {ret : Option FieldType} {Qp : Option Value → AH → Prop} {d mc ms : Nat} {h : AH} {uc us pc : Nat} {lv : List (Option Value)} {st : List Value} {q : Fin 4} {i : Nat} {lv1 : List (Option Value)} (hd : decode cc pc = .ok (.astore_n q, 1)) (hi : (q : Nat) = i) (hn : i < lv.length) (ho : lvOk lv i = true) (h1 : lv.set i (some .null) = lv1) (k : WA X G own cc ini ret Qp d mc ms h uc us (pc + 1) lv1 st) : WA X G own cc ini ret Qp d mc ms h uc us pc lv (.null :: st) := by
  obtain ⟨p, e, s, m, args, below, meth, c, h0⟩ := X
  intro H locs ls hX hR hS hdm hL
  subst h1
  exact lv_astore_nN hX.1 hX.2.1 hd hi hL.has hn rfl (fun ls1 h9 => k H locs ls1 (by simpa using hX) hR hS hdm (LV.st1 h9 ho))
theorem A_astoreN {X : XC} {G : GX} {own : String} {cc : ByteArray} {ini : Bool} {ret : Option FieldType} {Qp : Option Value → AH → Prop} {d mc ms : Nat} {h : AH} {uc us pc : Nat} {lv : List (Option Value)} {st : List Value} {i : Nat} {lv1 : List (Option Value)} (hd : decode cc pc = .ok (.astore i, 2)) (hn : i < lv.length) (ho : lvOk lv i = true) (h1 : lv.set i (some .null) = lv1) (k : WA X G own cc ini ret Qp d mc ms h uc us (pc + 2) lv1 st) : WA X G own cc ini ret Qp d mc ms h uc us pc lv (.null :: st) := by
  obtain ⟨p, e, s, m, args, below, meth, c, h0⟩ := X
  intro H locs ls hX hR hS hdm hL
  subst h1
  exact lv_astoreN hX.1 hX.2.1 hd hL.has hn rfl (fun ls1 h9 => k H locs ls1 (by simpa using hX) hR hS hdm (LV.st1 h9 ho))
theorem A_aloadN {X : XC} {G : GX} {own : String} {cc : ByteArray} {ini : Bool} {ret : Option FieldType} {Qp : Option Value → AH → Prop} {d mc ms : Nat} {h : AH} {uc us pc : Nat} {lv : List (Option Value)} {st : List Value} {i : Nat} (hd : decode cc pc = .ok (.aload i, 2)) (hl : lv[i]? = some (some .null)) (k : WA X G own cc ini ret Qp d mc ms h uc us (pc + 2) lv (.null :: st)) : WA X G own cc ini ret Qp d mc ms h uc us pc lv st := by
  obtain ⟨p, e, s, m, args, below, meth, c, h0⟩ := X
  intro H locs ls hX hR hS hdm hL
  exact lv_aloadN hX.1 hX.2.1 hd (hL.2.2 _ _ hl) (k H locs ls hX hR hS hdm hL)
/-- one SLOT's row: where its object and its numbers lie, its width, how many, which -/
abbrev ST : Type := Nat × Nat × Int32 × Nat × (Nat → Int64)
def SOk (b : Nat) (co : Nat → Nat → Option Nat) (r : Nat → Option AE) (S : Nat → Option ST) : Prop := ∀ j, j < 4 →
  (S j = none → co 27 j = none) ∧ ∀ a q w m f, S j = some (a, q, w, m, f) → co 27 j = some a ∧ r a = some (ob 5 [.ref q, .int w, .int (nI m)]) ∧ r q = some (aJ 60 f) ∧ m ≤ 60 ∧ ¬ (b ≤ a ∧ a < b + 55) ∧ ¬ (b ≤ q ∧ q < b + 55)
def writeP (S : Nat → Option ST) (s i : Int32) (v : Int64) (x : Int32) (r r1 : Nat → Option AE) : Prop :=
  if inI s 4 = 0 then x = -2 ∧ r1 = r else match S (tcl s) with
  | none => x = -6 ∧ r1 = r
  | some (_, q, w, m, f) => if inI i (nI m) = 0 then x = -7 ∧ r1 = r else x = 0 ∧ r1 = fun z => if z = q then some (aJ 60 (vp_updL f (tcl i) (cutF w v))) else r z
theorem lgc_lt (x y : Int64) : lg_cmp x y < 0 ↔ x < y := by rw [← Int32.not_le, lgc_ge, Decidable.not_not]
theorem mod3 : ∀ m, m < 61 → nI m - nI m / 3 * 3 = nI (m % 3) := by decide
theorem nI_3 (i : Nat) : nI (3 * i) + 3 = nI (3 * (i + 1)) := by rw [show (3 : Int32) = nI 3 from rfl, nI_add, Nat.mul_add]
theorem numF_in {m i : Nat} {f : Nat → Int64} (h : i < m) (hm : m ≤ 60) : numF (nI m) f (nI i) = f i := by
  rw [numF, if_neg, tcl_nI (by omega)]
  rw [inI, if_neg (fun z => z.elim (nI_pos (by omega)) (fun q => absurd q (nI_ge h (by omega))))]
  decide
def mkOk (f : Nat → Int64) (nv wk k : Nat) : Bool := decide (¬ f (3 * k) < 0 ∧ f (3 * k) < (nI nv).toInt64 ∧ ¬ f (3 * k + 1) < 0 ∧ f (3 * k + 1) < (nI wk).toInt64)
def mwR (f : Nat → Int64) (nv wk : Nat) : Nat → Nat → Int32
  | _, 0 => 0
  | i, k + 1 => if mkOk f nv wk i = true then mwR f nv wk (i + 1) k else -2
/-- 0 if the SLOT has MARKS -/
def mwA (c : CT) (S : Nat → Option ST) (nv wk : Nat) (s : Int32) (rest : Prop) [Decidable rest] : Int32 :=
  if 0 < c 6 5 ∧ ¬ inI s 4 = 0 ∧ rest then match S (tcl s) with
  | none => -6
  | some (_, _, _, m, f) => if m % 3 = 0 then mwR f nv wk 0 (m / 3) else -2
  else -2
theorem c_write (G : GX) {b : Nat} {c : CT} {co : Nat → Nat → Option Nat} {r : Nat → Option AE} {n : Nat} {S : Nat → Option ST} {s i : Int32} {v : Int64} (hS : SOk b co r S) : MA G 2 yX9_write cX9_write 6 (some .int) 0 0 [.ref b, .int s, .int i, .long v] (HC b c co r n) (qI fun x h1 => ∃ r1, h1 = HC b c co r1 n ∧ writeP S s i v x r r1) := by
  refine MA.of (own := RX9) false [some (.ref b), some (.int s), some (.int i), some (.long v), none, none] (by decide +kernel) rfl (fun h => by cases h) (Nat.le_of_ble_eq_true rfl) rfl (fun X => ?_)
  refine A_iload_n dX9_write_0 rfl rfl ?_
  refine A_callSi dX9_write_1 m_X9_287 cb_X9_isSlot (As := [_]) rfl (c_isSlot G) rfl ⟨by decide, by decide⟩ (Nat.le_of_ble_eq_true rfl) ⟨by decide, by decide⟩ (fun x1 h1 hq => ?_)
  obtain ⟨rfl, rfl⟩ := hq
  refine A_if_ne 10 dX9_write_4 (by decide) (fun c4 => ?_) (fun c4 => ?_)
  · obtain ⟨j, hj, rfl⟩ := inI_of (k := 4) rfl c4 (by decide)
    refine A_aload_n dX9_write_10 rfl rfl ?_
    refine A_iload_n dX9_write_11 rfl rfl ?_
    refine A_callVo dX9_write_12 m_X9_290 cb_X9_slotAt (As := [_]) rfl HC_at0 rfl (c_slotAt G hj) rfl ⟨by decide, by decide⟩ (Nat.le_of_ble_eq_true rfl) ⟨by decide, by decide⟩ (fun x12 h12 hq => ?_)
    obtain ⟨rfl, rfl⟩ := hq
    have hsj := hS j hj
    rcases hs : S j with _ | ⟨a, q, w, m, f⟩
    · rw [hsj.1 hs]
      refine A_astoreN (lv1 := [_, _, _, _, _, _]) dX9_write_15 (Nat.le_of_ble_eq_true rfl) rfl rfl ?_
      refine A_aloadN dX9_write_17 rfl ?_
      refine A_ifnonnullN dX9_write_19 ?_
      refine A_bipush (v := (-6)) dX9_write_22 (by decide) ?_
      exact A_iret dX9_write_24 ⟨r, rfl, by rw [writeP, if_neg c4, tcl_nI (by omega), hs]; exact ⟨rfl, rfl⟩⟩ ⟨by decide, by decide⟩
    · obtain ⟨hco, ha, hq, hm, oa, oq⟩ := hsj.2 a q w m f hs
      rw [hco]
      refine A_astore (lv1 := [_, _, _, _, _, _]) dX9_write_15 (Nat.le_of_ble_eq_true rfl) rfl rfl ?_
      refine A_aload dX9_write_17 rfl ?_
      refine A_ifnonnull 25 dX9_write_19 (by decide) ?_
      refine A_aload dX9_write_25 rfl ?_
      refine A_iload_n dX9_write_27 rfl rfl ?_
      refine A_callVi dX9_write_28 m_X9_416 cb_X5_has (As := [_]) rfl ((HC_out oa).trans ha) rfl (c_hasS1 G ((HC_out oa).trans ha)) rfl ⟨by decide, by decide⟩ (Nat.le_of_ble_eq_true rfl) ⟨by decide, by decide⟩ (fun x28 h28 hq => ?_)
      obtain ⟨rfl, rfl⟩ := hq
      refine A_if_ne 37 dX9_write_31 (by decide) (fun c31 => ?_) (fun c31 => ?_)
      · have ci : ¬ inI i (nI m) = 0 := c31
        refine A_aload dX9_write_37 rfl ?_
        refine A_iload_n dX9_write_39 rfl rfl ?_
        refine A_lload_n dX9_write_40 rfl rfl ?_
        refine A_callVv dX9_write_41 m_X9_417 cb_X5_put (As := [_, _]) rfl ((HC_out oa).trans ha) rfl (c_putS G ((HC_out oa).trans ha) ((HC_out oq).trans hq) rfl hm) rfl ⟨by decide, by decide⟩ (Nat.le_of_ble_eq_true rfl) ⟨by decide, by decide⟩ (fun h41 hq => ?_)
        rw [if_neg ci, HC_upR oq] at hq
        obtain rfl := hq
        refine A_iconst (v := 0) dX9_write_44 (by decide) ?_
        exact A_iret dX9_write_45 ⟨_, rfl, by rw [writeP, if_neg c4, tcl_nI (by omega), hs]; show (if inI i (nI m) = 0 then _ else _); rw [if_neg ci]; exact ⟨rfl, rfl⟩⟩ ⟨by decide, by decide⟩
      · refine A_bipush (v := (-7)) dX9_write_34 (by decide) ?_
        exact A_iret dX9_write_36 ⟨r, rfl, by rw [writeP, if_neg c4, tcl_nI (by omega), hs]; show (if inI i (nI m) = 0 then _ else _); rw [if_pos (show inI i (nI m) = 0 by assumption)]; exact ⟨rfl, rfl⟩⟩ ⟨by decide, by decide⟩
  · refine A_bipush (v := (-2)) dX9_write_7 (by decide) ?_
    exact A_iret dX9_write_9 ⟨r, rfl, by rw [writeP, if_pos (by assumption)]; exact ⟨rfl, rfl⟩⟩ ⟨by decide, by decide⟩

theorem marks_w (G : GX) (X : XC) {b : Nat} {c : CT} {co : Nat → Nat → Option Nat} {r : Nat → Option AE} {n : Nat} {S : Nat → Option ST} {nv nc nf nl wk : Nat} {s rs : Int32} {T : Int32} {a q m K : Nat} {w : Int32} {f : Nat → Int64} (hI : IX c nv nc nf nl wk) (ha : r a = some (ob 5 [.ref q, .int w, .int (nI m)])) (hq : r q = some (aJ 60 f)) (hm : m ≤ 60) (oa : ¬ (b ≤ a ∧ a < b + 55)) (oq : ¬ (b ≤ q ∧ q < b + 55)) (hK : m = 3 * K) (hT0 : mwR f nv wk 0 K = T) : WA X G RX9 cX9_marksWrong false (some .int) (qI fun x h1 => x = T ∧ h1 = HC b c co r n) 2 0 0 (HC b c co r n) 0 0 49 [some (.ref b), some (.int s), some (.int rs), some (.ref a), some (.int 0), none, none, none, none] [] := by
  obtain ⟨hv, hv6, hc, hc8, hf, hf3, hl, hl8, hw, hw30, gC, gL⟩ := id hI
  have loop : ∀ (k i : Nat) , i + k = K → (mwR f nv wk i k = T) → WA X G RX9 cX9_marksWrong false (some .int) (qI fun x h1 => x = T ∧ h1 = HC b c co r n) 2 0 0 (HC b c co r n) 0 0 49 [some (.ref b), some (.int s), some (.int rs), some (.ref a), some (.int (nI (3 * i))), none, none, none, none] [] := by
    intro k
    induction k with
    | zero =>
      intro i  hk hT
      refine A_iload dX9_marksWrong_49 rfl ?_
      refine A_aload_n dX9_marksWrong_51 rfl rfl ?_
      refine A_get dX9_marksWrong_52 f_X9_294 ((HC_out oa).trans ha) rfl ?_
      refine A_icmp_ge 130 dX9_marksWrong_55 (by decide) (fun c55 => ?_) (fun c55 => ?_)
      · refine A_iconst (v := 0) dX9_marksWrong_130 (by decide) ?_
        exact A_iret dX9_marksWrong_131 ⟨by rw [← hT]; rfl, rfl⟩ ⟨by decide, by decide⟩
      · exact absurd (nI_le (by omega) (by omega)) c55
    | succ k ih =>
      intro i  hk hT
      have hi : i < K := by omega
      refine A_iload dX9_marksWrong_49 rfl ?_
      refine A_aload_n dX9_marksWrong_51 rfl rfl ?_
      refine A_get dX9_marksWrong_52 f_X9_294 ((HC_out oa).trans ha) rfl ?_
      refine A_icmp_ge 130 dX9_marksWrong_55 (by decide) (fun c55 => ?_) (fun c55 => ?_)
      · exact absurd c55 (nI_ge (by omega) (by omega))
      · refine A_aload_n dX9_marksWrong_58 rfl rfl ?_
        refine A_iload dX9_marksWrong_59 rfl ?_
        refine A_callVl dX9_marksWrong_61 m_X9_295 cb_X5_number (As := [_]) rfl ((HC_out oa).trans ha) rfl (c_number G ((HC_out oa).trans ha) ((HC_out oq).trans hq) rfl hm) rfl ⟨by decide, by decide⟩ (Nat.le_of_ble_eq_true rfl) ⟨by decide, by decide⟩ (fun x61 h61 hq => ?_)
        obtain ⟨rfl, rfl⟩ := hq
        refine A_eqL (numF_in (by omega) hm) ?_
        refine A_lstore (lv1 := [_, _, _, _, _, _, _, _, _]) dX9_marksWrong_64 (Nat.le_of_ble_eq_true rfl) rfl rfl ?_
        refine A_aload_n dX9_marksWrong_66 rfl rfl ?_
        refine A_iload dX9_marksWrong_67 rfl ?_
        refine A_iconst (v := 1) dX9_marksWrong_69 (by decide) ?_
        refine A_iadd dX9_marksWrong_70 ?_
        rw [nI_1]
        refine A_callVl dX9_marksWrong_71 m_X9_295 cb_X5_number (As := [_]) rfl ((HC_out oa).trans ha) rfl (c_number G ((HC_out oa).trans ha) ((HC_out oq).trans hq) rfl hm) rfl ⟨by decide, by decide⟩ (Nat.le_of_ble_eq_true rfl) ⟨by decide, by decide⟩ (fun x71 h71 hq => ?_)
        obtain ⟨rfl, rfl⟩ := hq
        refine A_eqL (numF_in (by omega) hm) ?_
        refine A_lstore (lv1 := [_, _, _, _, _, _, _, _, _]) dX9_marksWrong_74 (Nat.le_of_ble_eq_true rfl) rfl rfl ?_
        refine A_lload dX9_marksWrong_76 rfl ?_
        refine A_lconst (v := 0) dX9_marksWrong_78 (by decide) ?_
        refine A_lcmp dX9_marksWrong_79 ?_
        refine A_if_lt 121 dX9_marksWrong_80 (by decide) (fun c80 => ?_) (fun c80 => ?_)
        · refine A_bipush (v := (-2)) dX9_marksWrong_121 (by decide) ?_
          exact A_iret dX9_marksWrong_123 ⟨by rw [← hT, mwR, if_neg (fun z : mkOk f nv wk i = true => by have z := of_decide_eq_true z; first | exact z.1 ((lgc_lt _ _).mp (by assumption)) | exact (lgc_ge _ _).mp (by assumption) z.2.1 | exact z.2.2.1 ((lgc_lt _ _).mp (by assumption)) | exact c118 ((lgc_lt _ _).mpr z.2.2.2))], rfl⟩ ⟨by decide, by decide⟩
        · refine A_lload dX9_marksWrong_83 rfl ?_
          refine A_aload_n dX9_marksWrong_85 rfl rfl ?_
          refine A_get dX9_marksWrong_86 f_X9_28 HC_at0 rfl ?_
          refine A_get dX9_marksWrong_89 f_X9_104 (HC_at (by decide)) rfl ?_
          refine A_get dX9_marksWrong_92 f_X9_134 (HC_at (by decide)) rfl ?_
          refine A_eqI hv ?_
          refine A_i2l dX9_marksWrong_95 ?_
          refine A_lcmp dX9_marksWrong_96 ?_
          refine A_if_ge 121 dX9_marksWrong_97 (by decide) (fun c97 => ?_) (fun c97 => ?_)
          · refine A_bipush (v := (-2)) dX9_marksWrong_121 (by decide) ?_
            exact A_iret dX9_marksWrong_123 ⟨by rw [← hT, mwR, if_neg (fun z : mkOk f nv wk i = true => by have z := of_decide_eq_true z; first | exact z.1 ((lgc_lt _ _).mp (by assumption)) | exact (lgc_ge _ _).mp (by assumption) z.2.1 | exact z.2.2.1 ((lgc_lt _ _).mp (by assumption)) | exact c118 ((lgc_lt _ _).mpr z.2.2.2))], rfl⟩ ⟨by decide, by decide⟩
          · refine A_lload dX9_marksWrong_100 rfl ?_
            refine A_lconst (v := 0) dX9_marksWrong_102 (by decide) ?_
            refine A_lcmp dX9_marksWrong_103 ?_
            refine A_if_lt 121 dX9_marksWrong_104 (by decide) (fun c104 => ?_) (fun c104 => ?_)
            · refine A_bipush (v := (-2)) dX9_marksWrong_121 (by decide) ?_
              exact A_iret dX9_marksWrong_123 ⟨by rw [← hT, mwR, if_neg (fun z : mkOk f nv wk i = true => by have z := of_decide_eq_true z; first | exact z.1 ((lgc_lt _ _).mp (by assumption)) | exact (lgc_ge _ _).mp (by assumption) z.2.1 | exact z.2.2.1 ((lgc_lt _ _).mp (by assumption)) | exact c118 ((lgc_lt _ _).mpr z.2.2.2))], rfl⟩ ⟨by decide, by decide⟩
            · refine A_lload dX9_marksWrong_107 rfl ?_
              refine A_aload_n dX9_marksWrong_109 rfl rfl ?_
              refine A_get dX9_marksWrong_110 f_X9_28 HC_at0 rfl ?_
              refine A_get dX9_marksWrong_113 f_X9_131 (HC_at (by decide)) rfl ?_
              refine A_eqI hw ?_
              refine A_i2l dX9_marksWrong_116 ?_
              refine A_lcmp dX9_marksWrong_117 ?_
              refine A_if_lt 124 dX9_marksWrong_118 (by decide) (fun c118 => ?_) (fun c118 => ?_)
              · refine A_inc 3 (lv1 := [_, _, _, _, _, _, _, _, _]) dX9_marksWrong_124 rfl (by decide) rfl rfl ?_
                refine A_goto 49 dX9_marksWrong_127 (by decide) ?_
                refine A_fg 5 (lv1 := [_, _, _, _, _, _, _, _, _]) rfl ?_
                refine A_fg 7 (lv1 := [_, _, _, _, _, _, _, _, _]) rfl ?_
                rw [nI_3]
                exact ih (i + 1) (by omega) (by rw [← hT, mwR, if_pos (show mkOk f nv wk i = true from decide_eq_true ⟨fun z => c80 ((lgc_lt _ _).mpr z), Decidable.of_not_not (fun z => c97 ((lgc_ge _ _).mpr z)), fun z => c104 ((lgc_lt _ _).mpr z), (lgc_lt _ _).mp c118⟩)])
              · refine A_bipush (v := (-2)) dX9_marksWrong_121 (by decide) ?_
                exact A_iret dX9_marksWrong_123 ⟨by rw [← hT, mwR, if_neg (fun z : mkOk f nv wk i = true => by have z := of_decide_eq_true z; first | exact z.1 ((lgc_lt _ _).mp (by assumption)) | exact (lgc_ge _ _).mp (by assumption) z.2.1 | exact z.2.2.1 ((lgc_lt _ _).mp (by assumption)) | exact c118 ((lgc_lt _ _).mpr z.2.2.2))], rfl⟩ ⟨by decide, by decide⟩
  exact loop K 0 (by omega) hT0
theorem c_marksWrong (G : GX) {b : Nat} {c : CT} {co : Nat → Nat → Option Nat} {r : Nat → Option AE} {n : Nat} {S : Nat → Option ST} {nv nc nf nl wk : Nat} {s rs : Int32} (hI : IX c nv nc nf nl wk) (hS : SOk b co r S) : MA G 2 yX9_marksWrong cX9_marksWrong 9 (some .int) 0 0 [.ref b, .int s, .int rs] (HC b c co r n) (qI fun x h1 => x = mwA c S nv wk s (¬ rs = 0) ∧ h1 = HC b c co r n) := by
  refine MA.of (own := RX9) false [some (.ref b), some (.int s), some (.int rs), none, none, none, none, none, none] (by decide +kernel) rfl (fun h => by cases h) (Nat.le_of_ble_eq_true rfl) rfl (fun X => ?_)
  refine A_aload_n dX9_marksWrong_0 rfl rfl ?_
  refine A_callVi dX9_marksWrong_1 m_X9_124 cb_X9_hasPlain (As := []) rfl HC_at0 rfl (c_hasPlain G) rfl ⟨by decide, by decide⟩ (Nat.le_of_ble_eq_true rfl) ⟨by decide, by decide⟩ (fun x1 h1 hq => ?_)
  obtain ⟨rfl, rfl⟩ := hq
  refine A_if_eq 18 dX9_marksWrong_4 (by decide) (fun c4 => ?_) (fun c4 => ?_)
  · refine A_bipush (v := (-2)) dX9_marksWrong_18 (by decide) ?_
    exact A_iret dX9_marksWrong_20 ⟨by rw [mwA, if_neg (by rintro ⟨hp, h1, h2⟩; first | (rw [if_pos hp] at c4; exact absurd c4 (by decide)) | exact h1 (by assumption) | exact h2 (by assumption))], rfl⟩ ⟨by decide, by decide⟩
  · refine A_iload_n dX9_marksWrong_7 rfl rfl ?_
    refine A_callSi dX9_marksWrong_8 m_X9_287 cb_X9_isSlot (As := [_]) rfl (c_isSlot G) rfl ⟨by decide, by decide⟩ (Nat.le_of_ble_eq_true rfl) ⟨by decide, by decide⟩ (fun x8 h8 hq => ?_)
    obtain ⟨rfl, rfl⟩ := hq
    refine A_if_eq 18 dX9_marksWrong_11 (by decide) (fun c11 => ?_) (fun c11 => ?_)
    · refine A_bipush (v := (-2)) dX9_marksWrong_18 (by decide) ?_
      exact A_iret dX9_marksWrong_20 ⟨by rw [mwA, if_neg (by rintro ⟨hp, h1, h2⟩; first | (rw [if_pos hp] at c4; exact absurd c4 (by decide)) | exact h1 (by assumption) | exact h2 (by assumption))], rfl⟩ ⟨by decide, by decide⟩
    · refine A_iload_n dX9_marksWrong_14 rfl rfl ?_
      refine A_if_ne 21 dX9_marksWrong_15 (by decide) (fun c15 => ?_) (fun c15 => ?_)
      · have h4 : ¬ inI s 4 = 0 := c11
        have hp : 0 < c 6 5 ∧ ¬ inI s 4 = 0 ∧ ¬ rs = 0 := ⟨by by_cases z : 0 < c 6 5; exact z; exact absurd (if_neg z) c4, h4, c15⟩
        obtain ⟨j, hj, rfl⟩ := inI_of (k := 4) rfl h4 (by decide)
        refine A_aload_n dX9_marksWrong_21 rfl rfl ?_
        refine A_iload_n dX9_marksWrong_22 rfl rfl ?_
        refine A_callVo dX9_marksWrong_23 m_X9_290 cb_X9_slotAt (As := [_]) rfl HC_at0 rfl (c_slotAt G hj) rfl ⟨by decide, by decide⟩ (Nat.le_of_ble_eq_true rfl) ⟨by decide, by decide⟩ (fun x23 h23 hq => ?_)
        obtain ⟨rfl, rfl⟩ := hq
        have hsj := hS j hj
        rcases hs : S j with _ | ⟨a, q, w, m, f⟩
        · rw [hsj.1 hs]
          refine A_astore_nN (lv1 := [_, _, _, _, _, _, _, _, _]) dX9_marksWrong_26 rfl (Nat.le_of_ble_eq_true rfl) rfl rfl ?_
          refine A_aload_nN dX9_marksWrong_27 rfl rfl ?_
          refine A_ifnonnullN dX9_marksWrong_28 ?_
          refine A_bipush (v := (-6)) dX9_marksWrong_31 (by decide) ?_
          exact A_iret dX9_marksWrong_33 ⟨by rw [mwA, if_pos hp, tcl_nI (by omega), hs], rfl⟩ ⟨by decide, by decide⟩
        · obtain ⟨hco, ha, hq, hm, oa, oq⟩ := hsj.2 a q w m f hs
          rw [hco]
          refine A_astore_n (lv1 := [_, _, _, _, _, _, _, _, _]) dX9_marksWrong_26 rfl (Nat.le_of_ble_eq_true rfl) rfl rfl ?_
          refine A_aload_n dX9_marksWrong_27 rfl rfl ?_
          refine A_ifnonnull 34 dX9_marksWrong_28 (by decide) ?_
          refine A_aload_n dX9_marksWrong_34 rfl rfl ?_
          refine A_get dX9_marksWrong_35 f_X9_294 ((HC_out oa).trans ha) rfl ?_
          refine A_iconst (v := 3) dX9_marksWrong_38 (by decide) ?_
          refine A_irem dX9_marksWrong_39 (by decide) ?_
          rw [mod3 m (by omega)]
          refine A_if_eq 46 dX9_marksWrong_40 (by decide) (fun c40 => ?_) (fun c40 => ?_)
          · have h3 : m % 3 = 0 := Decidable.by_contra (fun z => absurd c40 (nI_neN (by omega) (by omega)))
            refine A_iconst (v := 0) dX9_marksWrong_46 (by decide) ?_
            refine A_istore (lv1 := [_, _, _, _, _, _, _, _, _]) dX9_marksWrong_47 (Nat.le_of_ble_eq_true rfl) rfl rfl ?_
            exact marks_w (S := S) G X hI ha hq hm oa oq (K := m / 3) (by omega) (by rw [mwA, if_pos hp, tcl_nI (by omega), hs]; exact (if_pos h3).symm)
          · have h3 : ¬ m % 3 = 0 := fun z => c40 (by rw [z]; rfl)
            refine A_bipush (v := (-2)) dX9_marksWrong_43 (by decide) ?_
            exact A_iret dX9_marksWrong_45 ⟨by rw [mwA, if_pos hp, tcl_nI (by omega), hs]; exact (if_neg h3).symm, rfl⟩ ⟨by decide, by decide⟩
      · refine A_bipush (v := (-2)) dX9_marksWrong_18 (by decide) ?_
        exact A_iret dX9_marksWrong_20 ⟨by rw [mwA, if_neg (by rintro ⟨hp, h1, h2⟩; first | (rw [if_pos hp] at c4; exact absurd c4 (by decide)) | exact h1 (by assumption) | exact h2 (by assumption))], rfl⟩ ⟨by decide, by decide⟩
