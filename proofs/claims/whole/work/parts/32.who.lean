/-! MARKS asked: who, sure -/
def sdW (nv nf fl i : Nat) : Int32 := if nI (tkc nv nf i fl) - 1 = -1 then 9 else nI (tkc nv nf i fl) - 1
def sdS (c : CT) (v w i : Nat) : Int32 := runF (leadF c i) 31 (v * 30 + w)
def whoA (c : CT) (S : Nat → Option ST) (nv nf wk : Nat) (s fl : Int32) : Int32 := if mwA c S nv wk s (¬ inI fl (c 11 2) = 0) = 0 then whM (PM c (SF S s)) (sdW nv nf (tcl fl)) 0 (tot nv nf) (-1) else mwA c S nv wk s (¬ inI fl (c 11 2) = 0)
def rI (c : CT) (v w : Int32) : Int32 := if inI v (c 7 2) = 0 then 0 else if inI w (c 6 6) = 0 then 0 else 1
def sureA (c : CT) (S : Nat → Option ST) (nv nf wk : Nat) (s v w : Int32) : Int32 := if mwA c S nv wk s (¬ rI c v w = 0) = 0 then whM (PM c (SF S s)) (sdS c (tcl v) (tcl w)) 0 (tot nv nf) (-1) else mwA c S nv wk s (¬ rI c v w = 0)
theorem rI_of {c : CT} {v w : Int32} (h : ¬ rI c v w = 0) : ¬ inI v (c 7 2) = 0 ∧ ¬ inI w (c 6 6) = 0 := by
  refine ⟨fun z => h (if_pos z), fun z => h ?_⟩
  rw [rI, if_pos z]
  split <;> rfl
theorem who_w (G : GX) (X : XC) {b : Nat} {c : CT} {co : Nat → Nat → Option Nat} {r : Nat → Option AE} {n : Nat} {S : Nat → Option ST} {nv nc nf nl wk : Nat} {s a q m K : Nat} {w : Int32} {f : Nat → Int64} {fl : Nat} {T : Int32} (hI : IX c nv nc nf nl wk) (hK : KX c nv nf) (hCa : CacheOk c (tot nv nf)) (hS : SOk b co r S) (hs4 : s < 4) (hco : co 27 s = some a) (ha : r a = some (ob 5 [.ref q, .int w, .int (nI m)])) (hq : r q = some (aJ 60 f)) (hm : m ≤ 60) (oa : ¬ (b ≤ a ∧ a < b + 55)) (oq : ¬ (b ≤ q ∧ q < b + 55)) (hmK : m = 3 * K) (hok : ∀ j, j < K → mkOk f nv wk j = true) (hfl : fl < nf) (hT0 : whM (PM c (K, f)) (sdW nv nf fl) 0 (tot nv nf) (-1) = T) : WA X G RX9 cX9_who false (some .int) (qI fun x h1 => x = T ∧ ∃ c1, h1 = HC b c1 co r n ∧ keepC c c1 (tot nv nf)) 6 0 0 (HC b c co r n) 0 0 32 [some (.ref b), some (.int (nI s)), some (.int (nI fl)), some (.int 0), some (.int (-1)), some (.int (nI (tot nv nf))), some (.int (0)), none, none] [] := by
  obtain ⟨hv, hv6, hc, hc8, hf, hf3, hl, hl8, hw, hw30, gC, gL⟩ := id hI
  have h343 := tot_343 hv6 hf3
  have hq0 := hq
  have loop : ∀ (k i : Nat) (y : CT) (x : Int32), i + k = tot nv nf → (sameQ c y) → (whM (PM c (K, f)) (sdW nv nf fl) i k x = T) → WA X G RX9 cX9_who false (some .int) (qI fun x h1 => x = T ∧ ∃ c1, h1 = HC b c1 co r n ∧ keepC c c1 (tot nv nf)) 6 0 0 (HC b y co r n) 0 0 32 [some (.ref b), some (.int (nI s)), some (.int (nI fl)), some (.int 0), some (.int (x)), some (.int (nI (tot nv nf))), some (.int (nI i)), none, none] [] := by
    intro k
    induction k with
    | zero =>
      intro i y x hk hy hT
      refine A_iload dX9_who_32 rfl ?_
      refine A_iload dX9_who_34 rfl ?_
      refine A_icmp_ge 106 dX9_who_36 (by decide) (fun c36 => ?_) (fun c36 => ?_)
      · refine A_iload dX9_who_106 rfl ?_
        exact A_iret dX9_who_108 ⟨by rw [← hT]; rfl, y, rfl, keepC.Q hCa hy⟩ ⟨by decide, by decide⟩
      · exact absurd (by exact nI_le (by omega) (by omega)) c36
    | succ k ih =>
      intro i y x hk hy hT
      have hi : i < tot nv nf := by omega
      have eW : whM (PM c (K, f)) (sdW nv nf fl) i (k + 1) x = if (PM c (K, f)) i = -1 then if x = -1 then whM (PM c (K, f)) (sdW nv nf fl) (i + 1) k ((sdW nv nf fl) i) else if x = (sdW nv nf fl) i then whM (PM c (K, f)) (sdW nv nf fl) (i + 1) k ((sdW nv nf fl) i) else -1 else whM (PM c (K, f)) (sdW nv nf fl) (i + 1) k x := rfl
      refine A_iload dX9_who_32 rfl ?_
      refine A_iload dX9_who_34 rfl ?_
      refine A_icmp_ge 106 dX9_who_36 (by decide) (fun c36 => ?_) (fun c36 => ?_)
      · exact absurd c36 (by exact nI_ge (by omega) (by omega))
      · refine A_aload_n dX9_who_39 rfl rfl ?_
        refine A_iload dX9_who_40 rfl ?_
        refine A_callVv dX9_who_42 m_X9_278 cb_X9_goThroughYearBy (As := [_]) rfl HC_at0 rfl (c_goBy G (hI.Q hy) (by omega)) rfl ⟨by decide, by decide⟩ (Nat.le_of_ble_eq_true rfl) ⟨by decide, by decide⟩ (fun h42 hq => ?_)
        obtain rfl := hq
        have hy2 := hy.tr (sameQ.run (c := y) (k := i))
        have e31 : ∀ v w, v < nv → w < wk → runF (leadF y i) 31 (v * 30 + w) = runF (leadF c i) 31 (v * 30 + w) := fun v w h1 h2 => runF_31 (hI.ld i) (lead_Q hy i) h1 h2
        obtain ⟨z, ez⟩ : ∃ z, runF (leadF y i) = z := ⟨_, rfl⟩
        rw [ez] at hy2 e31 ⊢
        refine A_aload_n dX9_who_45 rfl rfl ?_
        refine A_iload_n dX9_who_46 rfl rfl ?_
        refine A_callVi dX9_who_47 m_X9_281 cb_X9_missed (As := [_]) rfl HC_at0 rfl (c_missed G hs4 hco ha hq0 hm oa oq hmK hok hv6 hw30) rfl ⟨by decide, by decide⟩ (Nat.le_of_ble_eq_true rfl) ⟨by decide, by decide⟩ (fun x47 h47 hq => ?_)
        obtain ⟨rfl, rfl⟩ := hq
        refine A_eqI (y := PM c (K, f) i) (miR_c hv6 hw30 e31 K 0 _ (fun j _ h => hok j (by omega))) ?_
        refine A_iconst (v := (-1)) dX9_who_50 (by decide) ?_
        refine A_icmp_ne 100 dX9_who_51 (by decide) (fun c51 => ?_) (fun c51 => ?_)
        · refine A_inc 1 (lv1 := [_, _, _, _, _, _, _, _, _]) dX9_who_100 rfl (by decide) rfl rfl ?_
          refine A_goto 32 dX9_who_103 (by decide) ?_
          refine A_fg 7 (lv1 := [_, _, _, _, _, _, _, _, _]) rfl ?_
          refine A_fg 8 (lv1 := [_, _, _, _, _, _, _, _, _]) rfl ?_
          rw [nI_1]
          exact ih (i + 1) z _ (by omega) hy2 (by rw [← hT, eW, if_neg c51])
        · refine A_aload_n dX9_who_54 rfl rfl ?_
          refine A_get dX9_who_55 f_X9_59 HC_at0 rfl ?_
          refine A_iload dX9_who_58 rfl ?_
          refine A_iload_n dX9_who_60 rfl rfl ?_
          refine A_callVi dX9_who_61 m_X9_229 cb_X1_takerIn (As := [_, _]) rfl (HC_at (by decide)) rfl (c_takerIn G (hI.Q hy2) (by omega) hfl) rfl ⟨by decide, by decide⟩ (Nat.le_of_ble_eq_true rfl) ⟨by decide, by decide⟩ (fun x61 h61 hq => ?_)
          obtain ⟨rfl, rfl⟩ := hq
          refine A_istore (lv1 := [_, _, _, _, _, _, _, _, _]) dX9_who_64 (Nat.le_of_ble_eq_true rfl) rfl rfl ?_
          refine A_iload dX9_who_66 rfl ?_
          refine A_iconst (v := (-1)) dX9_who_68 (by decide) ?_
          refine A_icmp_ne 77 dX9_who_69 (by decide) (fun c69 => ?_) (fun c69 => ?_)
          · refine A_iload dX9_who_77 rfl ?_
            refine A_eqI (y := sdW nv nf fl i) (by rw [sdW, if_neg c69]) ?_
            refine A_istore (lv1 := [_, _, _, _, _, _, _, _, _]) dX9_who_79 (Nat.le_of_ble_eq_true rfl) rfl rfl ?_
            refine A_iload dX9_who_81 rfl ?_
            refine A_iconst (v := (-1)) dX9_who_83 (by decide) ?_
            refine A_icmp_eq 96 dX9_who_84 (by decide) (fun c84 => ?_) (fun c84 => ?_)
            · refine A_iload dX9_who_96 rfl ?_
              refine A_istore (lv1 := [_, _, _, _, _, _, _, _, _]) dX9_who_98 (Nat.le_of_ble_eq_true rfl) rfl rfl ?_
              refine A_inc 1 (lv1 := [_, _, _, _, _, _, _, _, _]) dX9_who_100 rfl (by decide) rfl rfl ?_
              refine A_goto 32 dX9_who_103 (by decide) ?_
              refine A_fg 7 (lv1 := [_, _, _, _, _, _, _, _, _]) rfl ?_
              refine A_fg 8 (lv1 := [_, _, _, _, _, _, _, _, _]) rfl ?_
              rw [nI_1]
              exact ih (i + 1) z _ (by omega) hy2 (by rw [← hT, eW, if_pos c51, if_pos c84])
            · refine A_iload dX9_who_87 rfl ?_
              refine A_iload dX9_who_89 rfl ?_
              refine A_icmp_eq 96 dX9_who_91 (by decide) (fun c91 => ?_) (fun c91 => ?_)
              · refine A_iload dX9_who_96 rfl ?_
                refine A_istore (lv1 := [_, _, _, _, _, _, _, _, _]) dX9_who_98 (Nat.le_of_ble_eq_true rfl) rfl rfl ?_
                refine A_inc 1 (lv1 := [_, _, _, _, _, _, _, _, _]) dX9_who_100 rfl (by decide) rfl rfl ?_
                refine A_goto 32 dX9_who_103 (by decide) ?_
                refine A_fg 7 (lv1 := [_, _, _, _, _, _, _, _, _]) rfl ?_
                refine A_fg 8 (lv1 := [_, _, _, _, _, _, _, _, _]) rfl ?_
                rw [nI_1]
                exact ih (i + 1) z _ (by omega) hy2 (by rw [← hT, eW, if_pos c51, if_neg c84, if_pos c91])
              · refine A_iconst (v := (-1)) dX9_who_94 (by decide) ?_
                exact A_iret dX9_who_95 ⟨by rw [← hT, eW, if_pos c51, if_neg c84, if_neg c91], z, rfl, keepC.Q hCa hy2⟩ ⟨by decide, by decide⟩
          · refine A_bipush (v := 9) dX9_who_72 (by decide) ?_
            refine A_goto 79 dX9_who_74 (by decide) ?_
            refine A_eqI (y := sdW nv nf fl i) (by rw [sdW, if_pos c69]) ?_
            refine A_istore (lv1 := [_, _, _, _, _, _, _, _, _]) dX9_who_79 (Nat.le_of_ble_eq_true rfl) rfl rfl ?_
            refine A_iload dX9_who_81 rfl ?_
            refine A_iconst (v := (-1)) dX9_who_83 (by decide) ?_
            refine A_icmp_eq 96 dX9_who_84 (by decide) (fun c84 => ?_) (fun c84 => ?_)
            · refine A_iload dX9_who_96 rfl ?_
              refine A_istore (lv1 := [_, _, _, _, _, _, _, _, _]) dX9_who_98 (Nat.le_of_ble_eq_true rfl) rfl rfl ?_
              refine A_inc 1 (lv1 := [_, _, _, _, _, _, _, _, _]) dX9_who_100 rfl (by decide) rfl rfl ?_
              refine A_goto 32 dX9_who_103 (by decide) ?_
              refine A_fg 7 (lv1 := [_, _, _, _, _, _, _, _, _]) rfl ?_
              refine A_fg 8 (lv1 := [_, _, _, _, _, _, _, _, _]) rfl ?_
              rw [nI_1]
              exact ih (i + 1) z _ (by omega) hy2 (by rw [← hT, eW, if_pos c51, if_pos c84])
            · refine A_iload dX9_who_87 rfl ?_
              refine A_iload dX9_who_89 rfl ?_
              refine A_icmp_eq 96 dX9_who_91 (by decide) (fun c91 => ?_) (fun c91 => ?_)
              · refine A_iload dX9_who_96 rfl ?_
                refine A_istore (lv1 := [_, _, _, _, _, _, _, _, _]) dX9_who_98 (Nat.le_of_ble_eq_true rfl) rfl rfl ?_
                refine A_inc 1 (lv1 := [_, _, _, _, _, _, _, _, _]) dX9_who_100 rfl (by decide) rfl rfl ?_
                refine A_goto 32 dX9_who_103 (by decide) ?_
                refine A_fg 7 (lv1 := [_, _, _, _, _, _, _, _, _]) rfl ?_
                refine A_fg 8 (lv1 := [_, _, _, _, _, _, _, _, _]) rfl ?_
                rw [nI_1]
                exact ih (i + 1) z _ (by omega) hy2 (by rw [← hT, eW, if_pos c51, if_neg c84, if_pos c91])
              · refine A_iconst (v := (-1)) dX9_who_94 (by decide) ?_
                exact A_iret dX9_who_95 ⟨by rw [← hT, eW, if_pos c51, if_neg c84, if_neg c91], z, rfl, keepC.Q hCa hy2⟩ ⟨by decide, by decide⟩
  exact loop (tot nv nf) 0 c (-1) (by omega) sameQ.rf hT0
theorem c_who (G : GX) {b : Nat} {c : CT} {co : Nat → Nat → Option Nat} {r : Nat → Option AE} {n : Nat} {S : Nat → Option ST} {nv nc nf nl wk : Nat} {s fl : Int32} (hI : IX c nv nc nf nl wk) (hK : KX c nv nf) (hCa : CacheOk c (tot nv nf)) (hS : SOk b co r S) : MA G 6 yX9_who cX9_who 9 (some .int) 0 0 [.ref b, .int s, .int fl] (HC b c co r n) (qI fun x h1 => x = whoA c S nv nf wk s fl ∧ ∃ c1, h1 = HC b c1 co r n ∧ keepC c c1 (tot nv nf)) := by
  refine MA.of (own := RX9) false [some (.ref b), some (.int s), some (.int fl), none, none, none, none, none, none] (by decide +kernel) rfl (fun h => by cases h) (Nat.le_of_ble_eq_true rfl) rfl (fun X => ?_)
  obtain ⟨hv, hv6, hc, hc8, hf, hf3, hl, hl8, hw, hw30, gC, gL⟩ := id hI
  have h343 := tot_343 hv6 hf3
  refine A_aload_n dX9_who_0 rfl rfl ?_
  refine A_iload_n dX9_who_1 rfl rfl ?_
  refine A_aload_n dX9_who_2 rfl rfl ?_
  refine A_iload_n dX9_who_3 rfl rfl ?_
  refine A_callVi dX9_who_4 m_X9_114 cb_X9_hasFlood (As := [_]) rfl HC_at0 rfl (c_hasFlood G) rfl ⟨by decide, by decide⟩ (Nat.le_of_ble_eq_true rfl) ⟨by decide, by decide⟩ (fun x4 h4 hq => ?_)
  obtain ⟨rfl, rfl⟩ := hq
  refine A_callVi dX9_who_7 m_X9_271 cb_X9_marksWrong (As := [_, _]) rfl HC_at0 rfl (c_marksWrong G (S := S) hI hS) rfl ⟨by decide, by decide⟩ (Nat.le_of_ble_eq_true rfl) ⟨by decide, by decide⟩ (fun x7 h7 hq => ?_)
  obtain ⟨rfl, rfl⟩ := hq
  refine A_istore_n (lv1 := [_, _, _, _, _, _, _, _, _]) dX9_who_10 rfl (Nat.le_of_ble_eq_true rfl) rfl rfl ?_
  refine A_iload_n dX9_who_11 rfl rfl ?_
  refine A_if_eq 17 dX9_who_12 (by decide) (fun c12 => ?_) (fun c12 => ?_)
  · have eA : whoA c S nv nf wk s fl = whM (PM c (SF S s)) (sdW nv nf (tcl fl)) 0 (tot nv nf) (-1) := if_pos c12
    rw [eA]
    refine A_iconst (v := (-1)) dX9_who_17 (by decide) ?_
    refine A_istore (lv1 := [_, _, _, _, _, _, _, _, _]) dX9_who_18 (Nat.le_of_ble_eq_true rfl) rfl rfl ?_
    refine A_aload_n dX9_who_20 rfl rfl ?_
    refine A_get dX9_who_21 f_X9_59 HC_at0 rfl ?_
    refine A_callVi dX9_who_24 m_X9_275 cb_X1_total (As := []) rfl (HC_at (by decide)) rfl (c_total G hI) rfl ⟨by decide, by decide⟩ (Nat.le_of_ble_eq_true rfl) ⟨by decide, by decide⟩ (fun x24 h24 hq => ?_)
    obtain ⟨rfl, rfl⟩ := hq
    refine A_istore (lv1 := [_, _, _, _, _, _, _, _, _]) dX9_who_27 (Nat.le_of_ble_eq_true rfl) rfl rfl ?_
    refine A_iconst (v := 0) dX9_who_29 (by decide) ?_
    refine A_istore (lv1 := [_, _, _, _, _, _, _, _, _]) dX9_who_30 (Nat.le_of_ble_eq_true rfl) rfl rfl ?_
    rw [c12]
    obtain ⟨j, a, q, w, m, f, hj, rfl, hsj, h3, hok, hr, eF⟩ := mwA_0 c12
    obtain ⟨hco, ha, hq, hm, oa, oq⟩ := (hS j hj).2 a q w m f hsj
    obtain ⟨jf, hjf, rfl⟩ := inI_of hf hr (by omega)
    rw [eF, tcl_nI (by omega)]
    exact who_w G X hI hK hCa hS hj hco ha hq hm oa oq h3 hok hjf rfl
  · refine A_iload_n dX9_who_15 rfl rfl ?_
    exact A_iret dX9_who_16 ⟨by rw [whoA, if_neg c12], ⟨c, rfl, keepC.rf hCa⟩⟩ ⟨by decide, by decide⟩

theorem sure_w (G : GX) (X : XC) {b : Nat} {c : CT} {co : Nat → Nat → Option Nat} {r : Nat → Option AE} {n : Nat} {S : Nat → Option ST} {nv nc nf nl wk : Nat} {s a q m K : Nat} {w : Int32} {f : Nat → Int64} {v w2 : Nat} {T : Int32} (hI : IX c nv nc nf nl wk) (hK : KX c nv nf) (hCa : CacheOk c (tot nv nf)) (hS : SOk b co r S) (hs4 : s < 4) (hco : co 27 s = some a) (ha : r a = some (ob 5 [.ref q, .int w, .int (nI m)])) (hq : r q = some (aJ 60 f)) (hm : m ≤ 60) (oa : ¬ (b ≤ a ∧ a < b + 55)) (oq : ¬ (b ≤ q ∧ q < b + 55)) (hmK : m = 3 * K) (hok : ∀ j, j < K → mkOk f nv wk j = true) (hv2 : v < nv) (hw2 : w2 < wk) (hT0 : whM (PM c (K, f)) (sdS c v w2) 0 (tot nv nf) (-1) = T) : WA X G RX9 cX9_sure false (some .int) (qI fun x h1 => x = T ∧ ∃ c1, h1 = HC b c1 co r n ∧ keepC c c1 (tot nv nf)) 6 0 0 (HC b c co r n) 0 0 51 [some (.ref b), some (.int (nI s)), some (.int (nI v)), some (.int (nI w2)), some (.int 0), some (.int (-1)), some (.int (nI (tot nv nf))), some (.int (0)), none] [] := by
  obtain ⟨hv, hv6, hc, hc8, hf, hf3, hl, hl8, hw, hw30, gC, gL⟩ := id hI
  have h343 := tot_343 hv6 hf3
  have hq0 := hq
  have loop : ∀ (k i : Nat) (y : CT) (x : Int32), i + k = tot nv nf → (sameQ c y) → (whM (PM c (K, f)) (sdS c v w2) i k x = T) → WA X G RX9 cX9_sure false (some .int) (qI fun x h1 => x = T ∧ ∃ c1, h1 = HC b c1 co r n ∧ keepC c c1 (tot nv nf)) 6 0 0 (HC b y co r n) 0 0 51 [some (.ref b), some (.int (nI s)), some (.int (nI v)), some (.int (nI w2)), some (.int 0), some (.int (x)), some (.int (nI (tot nv nf))), some (.int (nI i)), none] [] := by
    intro k
    induction k with
    | zero =>
      intro i y x hk hy hT
      refine A_iload dX9_sure_51 rfl ?_
      refine A_iload dX9_sure_53 rfl ?_
      refine A_icmp_ge 109 dX9_sure_55 (by decide) (fun c55 => ?_) (fun c55 => ?_)
      · refine A_iload dX9_sure_109 rfl ?_
        exact A_iret dX9_sure_111 ⟨by rw [← hT]; rfl, y, rfl, keepC.Q hCa hy⟩ ⟨by decide, by decide⟩
      · exact absurd (by exact nI_le (by omega) (by omega)) c55
    | succ k ih =>
      intro i y x hk hy hT
      have hi : i < tot nv nf := by omega
      have eW : whM (PM c (K, f)) (sdS c v w2) i (k + 1) x = if (PM c (K, f)) i = -1 then if x = -1 then whM (PM c (K, f)) (sdS c v w2) (i + 1) k ((sdS c v w2) i) else if x = (sdS c v w2) i then whM (PM c (K, f)) (sdS c v w2) (i + 1) k ((sdS c v w2) i) else -1 else whM (PM c (K, f)) (sdS c v w2) (i + 1) k x := rfl
      refine A_iload dX9_sure_51 rfl ?_
      refine A_iload dX9_sure_53 rfl ?_
      refine A_icmp_ge 109 dX9_sure_55 (by decide) (fun c55 => ?_) (fun c55 => ?_)
      · exact absurd c55 (by exact nI_ge (by omega) (by omega))
      · refine A_aload_n dX9_sure_58 rfl rfl ?_
        refine A_iload dX9_sure_59 rfl ?_
        refine A_callVv dX9_sure_61 m_X9_278 cb_X9_goThroughYearBy (As := [_]) rfl HC_at0 rfl (c_goBy G (hI.Q hy) (by omega)) rfl ⟨by decide, by decide⟩ (Nat.le_of_ble_eq_true rfl) ⟨by decide, by decide⟩ (fun h61 hq => ?_)
        obtain rfl := hq
        have hy2 := hy.tr (sameQ.run (c := y) (k := i))
        have e31 : ∀ v w, v < nv → w < wk → runF (leadF y i) 31 (v * 30 + w) = runF (leadF c i) 31 (v * 30 + w) := fun v w h1 h2 => runF_31 (hI.ld i) (lead_Q hy i) h1 h2
        obtain ⟨z, ez⟩ : ∃ z, runF (leadF y i) = z := ⟨_, rfl⟩
        rw [ez] at hy2 e31 ⊢
        refine A_aload_n dX9_sure_64 rfl rfl ?_
        refine A_iload_n dX9_sure_65 rfl rfl ?_
        refine A_callVi dX9_sure_66 m_X9_281 cb_X9_missed (As := [_]) rfl HC_at0 rfl (c_missed G hs4 hco ha hq0 hm oa oq hmK hok hv6 hw30) rfl ⟨by decide, by decide⟩ (Nat.le_of_ble_eq_true rfl) ⟨by decide, by decide⟩ (fun x66 h66 hq => ?_)
        obtain ⟨rfl, rfl⟩ := hq
        refine A_eqI (y := PM c (K, f) i) (miR_c hv6 hw30 e31 K 0 _ (fun j _ h => hok j (by omega))) ?_
        refine A_iconst (v := (-1)) dX9_sure_69 (by decide) ?_
        refine A_icmp_ne 103 dX9_sure_70 (by decide) (fun c70 => ?_) (fun c70 => ?_)
        · refine A_inc 1 (lv1 := [_, _, _, _, _, _, _, _, _]) dX9_sure_103 rfl (by decide) rfl rfl ?_
          refine A_goto 51 dX9_sure_106 (by decide) ?_
          refine A_fg 8 (lv1 := [_, _, _, _, _, _, _, _, _]) rfl ?_
          rw [nI_1]
          exact ih (i + 1) z _ (by omega) hy2 (by rw [← hT, eW, if_neg c70])
        · refine A_aload_n dX9_sure_73 rfl rfl ?_
          refine A_get dX9_sure_74 f_X9_50 HC_at0 rfl ?_
          refine A_iload_n dX9_sure_77 rfl rfl ?_
          refine A_iload_n dX9_sure_78 rfl rfl ?_
          refine A_callVi dX9_sure_79 m_X9_165 cb_X8_waterBehind (As := [_, _]) rfl (HC_at (by decide)) rfl (c_waterBehind G (by omega) (by omega)) rfl ⟨by decide, by decide⟩ (Nat.le_of_ble_eq_true rfl) ⟨by decide, by decide⟩ (fun x79 h79 hq => ?_)
          obtain ⟨rfl, rfl⟩ := hq
          refine A_eqI (y := sdS c v w2 i) (e31 v w2 hv2 hw2) ?_
          refine A_istore (lv1 := [_, _, _, _, _, _, _, _, _]) dX9_sure_82 (Nat.le_of_ble_eq_true rfl) rfl rfl ?_
          refine A_iload dX9_sure_84 rfl ?_
          refine A_iconst (v := (-1)) dX9_sure_86 (by decide) ?_
          refine A_icmp_eq 99 dX9_sure_87 (by decide) (fun c87 => ?_) (fun c87 => ?_)
          · refine A_iload dX9_sure_99 rfl ?_
            refine A_istore (lv1 := [_, _, _, _, _, _, _, _, _]) dX9_sure_101 (Nat.le_of_ble_eq_true rfl) rfl rfl ?_
            refine A_inc 1 (lv1 := [_, _, _, _, _, _, _, _, _]) dX9_sure_103 rfl (by decide) rfl rfl ?_
            refine A_goto 51 dX9_sure_106 (by decide) ?_
            refine A_fg 8 (lv1 := [_, _, _, _, _, _, _, _, _]) rfl ?_
            rw [nI_1]
            exact ih (i + 1) z _ (by omega) hy2 (by rw [← hT, eW, if_pos c70, if_pos c87])
          · refine A_iload dX9_sure_90 rfl ?_
            refine A_iload dX9_sure_92 rfl ?_
            refine A_icmp_eq 99 dX9_sure_94 (by decide) (fun c94 => ?_) (fun c94 => ?_)
            · refine A_iload dX9_sure_99 rfl ?_
              refine A_istore (lv1 := [_, _, _, _, _, _, _, _, _]) dX9_sure_101 (Nat.le_of_ble_eq_true rfl) rfl rfl ?_
              refine A_inc 1 (lv1 := [_, _, _, _, _, _, _, _, _]) dX9_sure_103 rfl (by decide) rfl rfl ?_
              refine A_goto 51 dX9_sure_106 (by decide) ?_
              refine A_fg 8 (lv1 := [_, _, _, _, _, _, _, _, _]) rfl ?_
              rw [nI_1]
              exact ih (i + 1) z _ (by omega) hy2 (by rw [← hT, eW, if_pos c70, if_neg c87, if_pos c94])
            · refine A_iconst (v := (-1)) dX9_sure_97 (by decide) ?_
              exact A_iret dX9_sure_98 ⟨by rw [← hT, eW, if_pos c70, if_neg c87, if_neg c94], z, rfl, keepC.Q hCa hy2⟩ ⟨by decide, by decide⟩
  exact loop (tot nv nf) 0 c (-1) (by omega) sameQ.rf hT0
theorem c_sure (G : GX) {b : Nat} {c : CT} {co : Nat → Nat → Option Nat} {r : Nat → Option AE} {n : Nat} {S : Nat → Option ST} {nv nc nf nl wk : Nat} {s v w : Int32} (hI : IX c nv nc nf nl wk) (hK : KX c nv nf) (hCa : CacheOk c (tot nv nf)) (hS : SOk b co r S) : MA G 6 yX9_sure cX9_sure 9 (some .int) 0 0 [.ref b, .int s, .int v, .int w] (HC b c co r n) (qI fun x h1 => x = sureA c S nv nf wk s v w ∧ ∃ c1, h1 = HC b c1 co r n ∧ keepC c c1 (tot nv nf)) := by
  refine MA.of (own := RX9) false [some (.ref b), some (.int s), some (.int v), some (.int w), none, none, none, none, none] (by decide +kernel) rfl (fun h => by cases h) (Nat.le_of_ble_eq_true rfl) rfl (fun X => ?_)
  obtain ⟨hv, hv6, hc, hc8, hf, hf3, hl, hl8, hw, hw30, gC, gL⟩ := id hI
  have h343 := tot_343 hv6 hf3
  refine A_aload_n dX9_sure_0 rfl rfl ?_
  refine A_iload_n dX9_sure_1 rfl rfl ?_
  refine A_aload_n dX9_sure_2 rfl rfl ?_
  refine A_iload_n dX9_sure_3 rfl rfl ?_
  refine A_callVi dX9_sure_4 m_X9_101 cb_X9_hasVillage (As := [_]) rfl HC_at0 rfl (c_hasVillage G) rfl ⟨by decide, by decide⟩ (Nat.le_of_ble_eq_true rfl) ⟨by decide, by decide⟩ (fun x4 h4 hq => ?_)
  obtain ⟨rfl, rfl⟩ := hq
  refine A_if_eq 22 dX9_sure_7 (by decide) (fun c7 => ?_) (fun c7 => ?_)
  · refine A_iconst (v := 0) dX9_sure_22 (by decide) ?_
    refine A_eqI (y := rI c v w) (by rw [rI, if_pos c7]) ?_
    refine A_callVi dX9_sure_23 m_X9_271 cb_X9_marksWrong (As := [_, _]) rfl HC_at0 rfl (c_marksWrong G (S := S) hI hS) rfl ⟨by decide, by decide⟩ (Nat.le_of_ble_eq_true rfl) ⟨by decide, by decide⟩ (fun x23 h23 hq => ?_)
    obtain ⟨rfl, rfl⟩ := hq
    refine A_istore (lv1 := [_, _, _, _, _, _, _, _, _]) dX9_sure_26 (Nat.le_of_ble_eq_true rfl) rfl rfl ?_
    refine A_iload dX9_sure_28 rfl ?_
    refine A_if_eq 36 dX9_sure_30 (by decide) (fun c30 => ?_) (fun c30 => ?_)
    · have eA : sureA c S nv nf wk s v w = whM (PM c (SF S s)) (sdS c (tcl v) (tcl w)) 0 (tot nv nf) (-1) := if_pos c30
      rw [eA]
      refine A_iconst (v := (-1)) dX9_sure_36 (by decide) ?_
      refine A_istore (lv1 := [_, _, _, _, _, _, _, _, _]) dX9_sure_37 (Nat.le_of_ble_eq_true rfl) rfl rfl ?_
      refine A_aload_n dX9_sure_39 rfl rfl ?_
      refine A_get dX9_sure_40 f_X9_59 HC_at0 rfl ?_
      refine A_callVi dX9_sure_43 m_X9_275 cb_X1_total (As := []) rfl (HC_at (by decide)) rfl (c_total G hI) rfl ⟨by decide, by decide⟩ (Nat.le_of_ble_eq_true rfl) ⟨by decide, by decide⟩ (fun x43 h43 hq => ?_)
      obtain ⟨rfl, rfl⟩ := hq
      refine A_istore (lv1 := [_, _, _, _, _, _, _, _, _]) dX9_sure_46 (Nat.le_of_ble_eq_true rfl) rfl rfl ?_
      refine A_iconst (v := 0) dX9_sure_48 (by decide) ?_
      refine A_istore (lv1 := [_, _, _, _, _, _, _, _, _]) dX9_sure_49 (Nat.le_of_ble_eq_true rfl) rfl rfl ?_
      rw [c30]
      obtain ⟨j, a, q, ww, m, f, hj, rfl, hsj, h3, hok, hr, eF⟩ := mwA_0 c30
      obtain ⟨hco, ha, hq, hm, oa, oq⟩ := (hS j hj).2 a q ww m f hsj
      obtain ⟨jv, hjv, rfl⟩ := inI_of hv (rI_of hr).1 (by omega)
      obtain ⟨jw, hjw, rfl⟩ := inI_of hw (rI_of hr).2 (by omega)
      rw [eF, tcl_nI (by omega), tcl_nI (by omega)]
      exact sure_w G X hI hK hCa hS hj hco ha hq hm oa oq h3 hok hjv hjw rfl
    · refine A_iload dX9_sure_33 rfl ?_
      exact A_iret dX9_sure_35 ⟨by rw [sureA, if_neg c30], ⟨c, rfl, keepC.rf hCa⟩⟩ ⟨by decide, by decide⟩
  · refine A_aload_n dX9_sure_10 rfl rfl ?_
    refine A_iload_n dX9_sure_11 rfl rfl ?_
    refine A_callVi dX9_sure_12 m_X9_159 cb_X9_hasWeek (As := [_]) rfl HC_at0 rfl (c_hasWeek G) rfl ⟨by decide, by decide⟩ (Nat.le_of_ble_eq_true rfl) ⟨by decide, by decide⟩ (fun x12 h12 hq => ?_)
    obtain ⟨rfl, rfl⟩ := hq
    refine A_if_eq 22 dX9_sure_15 (by decide) (fun c15 => ?_) (fun c15 => ?_)
    · refine A_iconst (v := 0) dX9_sure_22 (by decide) ?_
      refine A_eqI (y := rI c v w) (by rw [rI, if_neg c7, if_pos c15]) ?_
      refine A_callVi dX9_sure_23 m_X9_271 cb_X9_marksWrong (As := [_, _]) rfl HC_at0 rfl (c_marksWrong G (S := S) hI hS) rfl ⟨by decide, by decide⟩ (Nat.le_of_ble_eq_true rfl) ⟨by decide, by decide⟩ (fun x23 h23 hq => ?_)
      obtain ⟨rfl, rfl⟩ := hq
      refine A_istore (lv1 := [_, _, _, _, _, _, _, _, _]) dX9_sure_26 (Nat.le_of_ble_eq_true rfl) rfl rfl ?_
      refine A_iload dX9_sure_28 rfl ?_
      refine A_if_eq 36 dX9_sure_30 (by decide) (fun c30 => ?_) (fun c30 => ?_)
      · have eA : sureA c S nv nf wk s v w = whM (PM c (SF S s)) (sdS c (tcl v) (tcl w)) 0 (tot nv nf) (-1) := if_pos c30
        rw [eA]
        refine A_iconst (v := (-1)) dX9_sure_36 (by decide) ?_
        refine A_istore (lv1 := [_, _, _, _, _, _, _, _, _]) dX9_sure_37 (Nat.le_of_ble_eq_true rfl) rfl rfl ?_
        refine A_aload_n dX9_sure_39 rfl rfl ?_
        refine A_get dX9_sure_40 f_X9_59 HC_at0 rfl ?_
        refine A_callVi dX9_sure_43 m_X9_275 cb_X1_total (As := []) rfl (HC_at (by decide)) rfl (c_total G hI) rfl ⟨by decide, by decide⟩ (Nat.le_of_ble_eq_true rfl) ⟨by decide, by decide⟩ (fun x43 h43 hq => ?_)
        obtain ⟨rfl, rfl⟩ := hq
        refine A_istore (lv1 := [_, _, _, _, _, _, _, _, _]) dX9_sure_46 (Nat.le_of_ble_eq_true rfl) rfl rfl ?_
        refine A_iconst (v := 0) dX9_sure_48 (by decide) ?_
        refine A_istore (lv1 := [_, _, _, _, _, _, _, _, _]) dX9_sure_49 (Nat.le_of_ble_eq_true rfl) rfl rfl ?_
        rw [c30]
        obtain ⟨j, a, q, ww, m, f, hj, rfl, hsj, h3, hok, hr, eF⟩ := mwA_0 c30
        obtain ⟨hco, ha, hq, hm, oa, oq⟩ := (hS j hj).2 a q ww m f hsj
        obtain ⟨jv, hjv, rfl⟩ := inI_of hv (rI_of hr).1 (by omega)
        obtain ⟨jw, hjw, rfl⟩ := inI_of hw (rI_of hr).2 (by omega)
        rw [eF, tcl_nI (by omega), tcl_nI (by omega)]
        exact sure_w G X hI hK hCa hS hj hco ha hq hm oa oq h3 hok hjv hjw rfl
      · refine A_iload dX9_sure_33 rfl ?_
        exact A_iret dX9_sure_35 ⟨by rw [sureA, if_neg c30], ⟨c, rfl, keepC.rf hCa⟩⟩ ⟨by decide, by decide⟩
    · refine A_iconst (v := 1) dX9_sure_18 (by decide) ?_
      refine A_goto 23 dX9_sure_19 (by decide) ?_
      refine A_eqI (y := rI c v w) (by rw [rI, if_neg c7, if_neg c15]) ?_
      refine A_callVi dX9_sure_23 m_X9_271 cb_X9_marksWrong (As := [_, _]) rfl HC_at0 rfl (c_marksWrong G (S := S) hI hS) rfl ⟨by decide, by decide⟩ (Nat.le_of_ble_eq_true rfl) ⟨by decide, by decide⟩ (fun x23 h23 hq => ?_)
      obtain ⟨rfl, rfl⟩ := hq
      refine A_istore (lv1 := [_, _, _, _, _, _, _, _, _]) dX9_sure_26 (Nat.le_of_ble_eq_true rfl) rfl rfl ?_
      refine A_iload dX9_sure_28 rfl ?_
      refine A_if_eq 36 dX9_sure_30 (by decide) (fun c30 => ?_) (fun c30 => ?_)
      · have eA : sureA c S nv nf wk s v w = whM (PM c (SF S s)) (sdS c (tcl v) (tcl w)) 0 (tot nv nf) (-1) := if_pos c30
        rw [eA]
        refine A_iconst (v := (-1)) dX9_sure_36 (by decide) ?_
        refine A_istore (lv1 := [_, _, _, _, _, _, _, _, _]) dX9_sure_37 (Nat.le_of_ble_eq_true rfl) rfl rfl ?_
        refine A_aload_n dX9_sure_39 rfl rfl ?_
        refine A_get dX9_sure_40 f_X9_59 HC_at0 rfl ?_
        refine A_callVi dX9_sure_43 m_X9_275 cb_X1_total (As := []) rfl (HC_at (by decide)) rfl (c_total G hI) rfl ⟨by decide, by decide⟩ (Nat.le_of_ble_eq_true rfl) ⟨by decide, by decide⟩ (fun x43 h43 hq => ?_)
        obtain ⟨rfl, rfl⟩ := hq
        refine A_istore (lv1 := [_, _, _, _, _, _, _, _, _]) dX9_sure_46 (Nat.le_of_ble_eq_true rfl) rfl rfl ?_
        refine A_iconst (v := 0) dX9_sure_48 (by decide) ?_
        refine A_istore (lv1 := [_, _, _, _, _, _, _, _, _]) dX9_sure_49 (Nat.le_of_ble_eq_true rfl) rfl rfl ?_
        rw [c30]
        obtain ⟨j, a, q, ww, m, f, hj, rfl, hsj, h3, hok, hr, eF⟩ := mwA_0 c30
        obtain ⟨hco, ha, hq, hm, oa, oq⟩ := (hS j hj).2 a q ww m f hsj
        obtain ⟨jv, hjv, rfl⟩ := inI_of hv (rI_of hr).1 (by omega)
        obtain ⟨jw, hjw, rfl⟩ := inI_of hw (rI_of hr).2 (by omega)
        rw [eF, tcl_nI (by omega), tcl_nI (by omega)]
        exact sure_w G X hI hK hCa hS hj hco ha hq hm oa oq h3 hok hjv hjw rfl
      · refine A_iload dX9_sure_33 rfl ?_
        exact A_iret dX9_sure_35 ⟨by rw [sureA, if_neg c30], ⟨c, rfl, keepC.rf hCa⟩⟩ ⟨by decide, by decide⟩
