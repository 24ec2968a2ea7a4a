/-! THE LAW: the calls that change what is told -/
theorem A_eqI2 {X : XC} {G : GX} {own : String} {cc : ByteArray} {ini : Bool} {ret : Option FieldType} {Qp : Option Value → AH → Prop} {d mc ms : Nat} {h : AH} {uc us pc : Nat} {lv : List (Option Value)} {st : List Value} {v x y : Int32} (e : x = y) (k : WA X G own cc ini ret Qp d mc ms h uc us pc lv (.int v :: .int y :: st)) : WA X G own cc ini ret Qp d mc ms h uc us pc lv (.int v :: .int x :: st) := by rw [e]; exact k
theorem feed_e {b : Nat} {c : CT} {co : Nat → Nat → Option Nat} {m : CT} {ml : Nat → Nat → Int64} {r R : Nat → Option AE} {n nv nc nf nl wk L : Nat} {S : Nat → Option ST} {I : Nat → Option (Nat × CT)} {ow : Nat → Nat} {a1 a2 a3 a4 a5 x9 : Int32} {h1 : AH} (h : LJ' b c co m ml r n nv nc nf nl wk L S I ow) (hq : if 1600 < nI L + 20 then x9 = -1 ∧ h1 = HM (b + 55) m ml R n else x9 = nI (L + 20) ∧ ∃ m1, h1 = HM (b + 55) m1 ml R n ∧ (∀ l, l ≠ 0 → l ≠ 4 → l ≠ 5 → m1 l = m l) ∧ m1 0 = (put m 0 5 (nI (L + 20))) 0 ∧ ∀ j, m1 4 j = if L ≤ j ∧ j < L + 20 then fdB a1 a2 a3 a4 a5 (j - L) else m 4 j) : x9 = (feedA c a1 a2 a3 a4 a5).1 ∧ ∃ m1, h1 = HM (b + 55) m1 ml R n ∧ LJ b (feedA c a1 a2 a3 a4 a5).2 co m1 ml r n := by
  have t := h.2.2.1
  unfold feedA
  rw [t.1]
  by_cases z : 1600 < nI L + 20
  · rw [if_pos z] at hq ⊢
    exact ⟨hq.1, m, hq.2, h.lj⟩
  · rw [if_neg z] at hq ⊢
    have hL : L + 20 ≤ 1600 := by
      have w := t.2.1
      rw [show (20 : Int32) = nI 20 from rfl, nI_add, show (1600 : Int32) = nI 1600 from rfl, nI_ltI (by decide) (by omega)] at z
      omega
    obtain ⟨e9, m1, e1, f, f0, f4⟩ := hq
    exact ⟨e9.trans (feed_2 t.1 hL).1.symm, m1, e1, h.feed hL f f0 f4⟩
theorem img_e {b : Nat} {c : CT} {co1 : Nat → Nat → Option Nat} {m : CT} {ml : Nat → Nat → Int64} {r1 R : Nat → Option AE} {n1 : Nat} {v x x9 : Int32} {h1 : AH} (hI : if inI v 3 = 0 then x = -2 ∧ LJ b c co1 m ml r1 n1 else x = 0 ∧ LJ b c co1 (imM m (tcl v)) ml r1 n1) (hq : if inI v 3 = 0 then x9 = -2 ∧ h1 = HM (b + 55) m ml R n1 else x9 = 0 ∧ h1 = HM (b + 55) (put (st1 m 2 (fun j => if 160 * tcl v ≤ j ∧ j < 160 * tcl v + 160 then m 1 (j - 160 * tcl v) else m 2 j)) 3 (tcl v) 1) ml R n1) : x = x9 ∧ ∃ m1, h1 = HM (b + 55) m1 ml R n1 ∧ LJ b c co1 m1 ml r1 n1 := by
  by_cases z : inI v 3 = 0
  · rw [if_pos z] at hI hq
    exact ⟨hI.1.trans hq.1.symm, m, hq.2, hI.2⟩
  · rw [if_neg z] at hI hq
    exact ⟨hI.1.trans hq.1.symm, imM m (tcl v), hq.2, hI.2⟩
theorem res_e {b : Nat} {c : CT} {co : Nat → Nat → Option Nat} {m : CT} {ml : Nat → Nat → Int64} {r R : Nat → Option AE} {n nv nc nf nl wk L : Nat} {S : Nat → Option ST} {I : Nat → Option (Nat × CT)} {ow : Nat → Nat} {v x9 : Int32} {h1 : AH} (h : LJ' b c co m ml r n nv nc nf nl wk L S I ow) (hq : if inI v 3 = 0 then x9 = -2 ∧ h1 = HM (b + 55) m ml R n else if m 3 (tcl v) = 0 then x9 = -6 ∧ h1 = HM (b + 55) m ml R n else x9 = 0 ∧ h1 = HM (b + 55) (st1 m 1 (fun j => if j < 160 then m 2 (160 * tcl v + j) else m 1 j)) ml R n) : (restoreA I c v).1 = x9 ∧ ∃ m1, h1 = HM (b + 55) m1 ml R n ∧ LJ b (restoreA I c v).2 co m1 ml r n := by
  have hI := h.restore (v := v)
  by_cases z : inI v 3 = 0
  · rw [if_pos z] at hI hq
    exact ⟨hI.1.trans hq.1.symm, m, hq.2, hI.2⟩
  · rw [if_neg z] at hI hq
    by_cases y : m 3 (tcl v) = 0
    · rw [if_pos y] at hI hq
      exact ⟨hI.1.trans hq.1.symm, m, hq.2, hI.2⟩
    · rw [if_neg y] at hI hq
      exact ⟨hI.1.trans hq.1.symm, reM m (tcl v), hq.2, hI.2⟩
theorem op_0 (G : GX) (X : XC) {Qp : Option Value → AH → Prop} {sc L b k uc us : Nat} {xs : Nat → Int32} (hX : SCR X sc L xs) (hk : 6 * k + 6 ≤ L) (hL : L ≤ 3072) (hu : uc ≤ 500000 ∧ us ≤ 7000000) {c : CT} {co : Nat → Nat → Option Nat} {m : CT} {ml : Nat → Nat → Int64} {r : Nat → Option AE} {n : Nat} (hJ : LJ b c co m ml r n) (kk : LN X G Qp sc b k uc us) : LW X G Qp sc b k uc us 216 (HCM b c co m ml r n) := by
  obtain ⟨nv, nc, nf, nl, wk, L1, S, I, ow, hJ⟩ := hJ
  obtain ⟨h1, h2, h3, h4, h5, h6, h7, h8, h9⟩ := id hJ
  unfold LW
  refine A_aload_n dL_law_216 rfl rfl ?_
  refine A_aload_n dL_law_217 rfl rfl ?_
  refine A_iload_n dL_law_218 rfl rfl ?_
  refine A_iconst (v := 1) dL_law_219 (by decide) ?_
  refine A_iadd dL_law_220 ?_
  refine A_sld hX (ix_k hk hL (by decide)) dL_law_221 ?_
  refine A_aload_n dL_law_222 rfl rfl ?_
  refine A_iload_n dL_law_223 rfl rfl ?_
  refine A_iconst (v := 2) dL_law_224 (by decide) ?_
  refine A_iadd dL_law_225 ?_
  refine A_sld hX (ix_k hk hL (by decide)) dL_law_226 ?_
  refine A_aload_n dL_law_227 rfl rfl ?_
  refine A_iload_n dL_law_228 rfl rfl ?_
  refine A_iconst (v := 3) dL_law_229 (by decide) ?_
  refine A_iadd dL_law_230 ?_
  refine A_sld hX (ix_k hk hL (by decide)) dL_law_231 ?_
  refine A_aload_n dL_law_232 rfl rfl ?_
  refine A_iload_n dL_law_233 rfl rfl ?_
  refine A_iconst (v := 4) dL_law_234 (by decide) ?_
  refine A_iadd dL_law_235 ?_
  refine A_sld hX (ix_k hk hL (by decide)) dL_law_236 ?_
  refine A_aload_n dL_law_237 rfl rfl ?_
  refine A_iload_n dL_law_238 rfl rfl ?_
  refine A_iconst (v := 5) dL_law_239 (by decide) ?_
  refine A_iadd dL_law_240 ?_
  refine A_sld hX (ix_k hk hL (by decide)) dL_law_241 ?_
  unfold HCM
  refine A_callVi dL_law_242 m_L_13 cb_X9_feed (As := [_, _, _, _, _]) rfl HC_at0 rfl (c_feed G h3.1 h3.2.1) rfl ⟨by decide, by decide⟩ (Nat.le_of_ble_eq_true rfl) ⟨by omega, by omega⟩ (fun x0 h0 hq => ?_)
  obtain ⟨rfl, rfl⟩ := hq
  show WA X G RL cL_law false (some .boolean) Qp 20 510000 7100000 (HCM b (feedA c _ _ _ _ _).2 co m ml r n) _ _ _ _ _
  refine A_aload_n dL_law_245 rfl rfl ?_
  refine A_aload_n dL_law_246 rfl rfl ?_
  refine A_iload_n dL_law_247 rfl rfl ?_
  refine A_iconst (v := 1) dL_law_248 (by decide) ?_
  refine A_iadd dL_law_249 ?_
  refine A_sld hX (ix_k hk hL (by decide)) dL_law_250 ?_
  refine A_aload_n dL_law_251 rfl rfl ?_
  refine A_iload_n dL_law_252 rfl rfl ?_
  refine A_iconst (v := 2) dL_law_253 (by decide) ?_
  refine A_iadd dL_law_254 ?_
  refine A_sld hX (ix_k hk hL (by decide)) dL_law_255 ?_
  refine A_aload_n dL_law_256 rfl rfl ?_
  refine A_iload_n dL_law_257 rfl rfl ?_
  refine A_iconst (v := 3) dL_law_258 (by decide) ?_
  refine A_iadd dL_law_259 ?_
  refine A_sld hX (ix_k hk hL (by decide)) dL_law_260 ?_
  refine A_aload_n dL_law_261 rfl rfl ?_
  refine A_iload_n dL_law_262 rfl rfl ?_
  refine A_iconst (v := 4) dL_law_263 (by decide) ?_
  refine A_iadd dL_law_264 ?_
  refine A_sld hX (ix_k hk hL (by decide)) dL_law_265 ?_
  refine A_aload_n dL_law_266 rfl rfl ?_
  refine A_iload_n dL_law_267 rfl rfl ?_
  refine A_iconst (v := 5) dL_law_268 (by decide) ?_
  refine A_iadd dL_law_269 ?_
  refine A_sld hX (ix_k hk hL (by decide)) dL_law_270 ?_
  refine WA_h HCM_sw ?_
  refine A_callVi dL_law_271 m_L_17 cb_X10_feed (As := [_, _, _, _, _]) rfl HM_at0 rfl (k_feed G h3.2.2.1 h3.2.1) rfl ⟨by decide, by decide⟩ (Nat.le_of_ble_eq_true rfl) ⟨by omega, by omega⟩ (fun x1 h1 hq => ?_)
  obtain ⟨rfl, m1, rfl, hJ1⟩ := feed_e hJ hq
  refine A_icmp_eq 1444 dL_law_274 (by decide) (fun c274 => ?_) (fun c274 => ?_)
  · refine WA_h HCM_sw.symm ?_
    exact kk _ _ _ _ _ _ _ _ hJ1 (by omega) (by omega)
  · exact absurd rfl c274
theorem op_1 (G : GX) (X : XC) {Qp : Option Value → AH → Prop} {sc L b k uc us : Nat} {xs : Nat → Int32} (hX : SCR X sc L xs) (hk : 6 * k + 6 ≤ L) (hL : L ≤ 3072) (hu : uc ≤ 500000 ∧ us ≤ 7000000) {c : CT} {co : Nat → Nat → Option Nat} {m : CT} {ml : Nat → Nat → Int64} {r : Nat → Option AE} {n : Nat} (hJ : LJ b c co m ml r n) (kk : LN X G Qp sc b k uc us) : LW X G Qp sc b k uc us 279 (HCM b c co m ml r n) := by
  obtain ⟨nv, nc, nf, nl, wk, L1, S, I, ow, hJ⟩ := hJ
  obtain ⟨h1, h2, h3, h4, h5, h6, h7, h8, h9⟩ := id hJ
  unfold LW
  refine A_aload_n dL_law_279 rfl rfl ?_
  refine A_aload_n dL_law_280 rfl rfl ?_
  refine A_iload_n dL_law_281 rfl rfl ?_
  refine A_iconst (v := 1) dL_law_282 (by decide) ?_
  refine A_iadd dL_law_283 ?_
  refine A_sld hX (ix_k hk hL (by decide)) dL_law_284 ?_
  unfold HCM
  refine A_callVi dL_law_285 m_L_18 cb_X9_end (As := [_]) rfl HC_at0 rfl (c_end G) rfl ⟨by decide, by decide⟩ (Nat.le_of_ble_eq_true rfl) ⟨by omega, by omega⟩ (fun x0 h0 hq => ?_)
  obtain ⟨rfl, rfl⟩ := hq
  show WA X G RL cL_law false (some .boolean) Qp 20 510000 7100000 (HCM b (endA c _).2 co m ml r n) _ _ _ _ _
  refine A_aload_n dL_law_288 rfl rfl ?_
  refine A_aload_n dL_law_289 rfl rfl ?_
  refine A_iload_n dL_law_290 rfl rfl ?_
  refine A_iconst (v := 1) dL_law_291 (by decide) ?_
  refine A_iadd dL_law_292 ?_
  refine A_sld hX (ix_k hk hL (by decide)) dL_law_293 ?_
  refine WA_h HCM_sw ?_
  refine A_callVi dL_law_294 m_L_22 cb_X10_end (As := [_]) rfl HM_at0 rfl (k_end G (h3.1.trans h3.2.2.1.symm)) rfl ⟨by decide, by decide⟩ (Nat.le_of_ble_eq_true rfl) ⟨by omega, by omega⟩ (fun x1 h1 hq => ?_)
  obtain ⟨rfl, rfl⟩ := hq
  have hJ1 := hJ.end_ (v := xs (nI (6 * k) + 1).toNatClampNeg)
  refine A_icmp_eq 1444 dL_law_297 (by decide) (fun c297 => ?_) (fun c297 => ?_)
  · refine WA_h HCM_sw.symm ?_
    exact kk _ _ _ _ _ _ _ _ hJ1 (by omega) (by omega)
  · exact absurd rfl c297
theorem op_2 (G : GX) (X : XC) {Qp : Option Value → AH → Prop} {sc L b k uc us : Nat} {xs : Nat → Int32} (hX : SCR X sc L xs) (hk : 6 * k + 6 ≤ L) (hL : L ≤ 3072) (hu : uc ≤ 500000 ∧ us ≤ 7000000) {c : CT} {co : Nat → Nat → Option Nat} {m : CT} {ml : Nat → Nat → Int64} {r : Nat → Option AE} {n : Nat} (hJ : LJ b c co m ml r n) (kk : LN X G Qp sc b k uc us) : LW X G Qp sc b k uc us 302 (HCM b c co m ml r n) := by
  obtain ⟨nv, nc, nf, nl, wk, L1, S, I, ow, hJ⟩ := hJ
  obtain ⟨h1, h2, h3, h4, h5, h6, h7, h8, h9⟩ := id hJ
  unfold LW
  refine A_aload_n dL_law_302 rfl rfl ?_
  unfold HCM
  refine A_callVi dL_law_303 m_L_23 cb_X9_plain (As := []) rfl HC_at0 rfl (c_plain G h3.1 h3.2.1) rfl ⟨by decide, by decide⟩ (Nat.le_of_ble_eq_true rfl) ⟨by omega, by omega⟩ (fun x0 h0 hq => ?_)
  obtain ⟨t, t1, A0, A3, A4, A1, A2, A26, A⟩ := plain_alike h3.1 h3.2.1 (plf_e h3) h2
  obtain ⟨PA, hPA⟩ : ∃ PA, plainA L1 c = PA := ⟨_, rfl⟩
  rw [hPA] at A0 A3 A4 A1 A2 A26 A hq
  obtain ⟨rfl, rfl⟩ := hq
  show WA X G RL cL_law false (some .boolean) Qp 20 510000 7100000 (HCM b PA.2 co m ml r n) _ _ _ _ _
  refine A_aload_n dL_law_306 rfl rfl ?_
  refine WA_h HCM_sw ?_
  refine A_callVi dL_law_307 m_L_27 cb_X10_plain (As := []) rfl HM_at0 rfl (k_plain G h3.2.2.1 h3.2.1 h3.2.2.2.2 t1) rfl ⟨by decide, by decide⟩ (Nat.le_of_ble_eq_true rfl) ⟨by omega, by omega⟩ (fun x1 h1 hq => ?_)
  obtain ⟨rfl, m1, rfl, B12, B13, B1, Bl, B0⟩ := hq
  refine A_eqI2 A0 ?_
  have hJ1 := hJ.plain A3 A4 A1 A2 A26 A B12 B13 B1 Bl B0
  refine A_icmp_eq 1444 dL_law_310 (by decide) (fun c310 => ?_) (fun c310 => ?_)
  · refine WA_h HCM_sw.symm ?_
    exact kk _ _ _ _ _ _ _ _ hJ1 (by omega) (by omega)
  · exact absurd rfl c310
theorem op_5 (G : GX) (X : XC) {Qp : Option Value → AH → Prop} {sc L b k uc us : Nat} {xs : Nat → Int32} (hX : SCR X sc L xs) (hk : 6 * k + 6 ≤ L) (hL : L ≤ 3072) (hu : uc ≤ 500000 ∧ us ≤ 7000000) {c : CT} {co : Nat → Nat → Option Nat} {m : CT} {ml : Nat → Nat → Int64} {r : Nat → Option AE} {n : Nat} (hJ : LJ b c co m ml r n) (kk : LN X G Qp sc b k uc us) : LW X G Qp sc b k uc us 371 (HCM b c co m ml r n) := by
  obtain ⟨nv, nc, nf, nl, wk, L1, S, I, ow, hJ⟩ := hJ
  obtain ⟨h1, h2, h3, h4, h5, h6, h7, h8, h9⟩ := id hJ
  unfold LW
  refine A_aload_n dL_law_371 rfl rfl ?_
  refine A_aload_n dL_law_372 rfl rfl ?_
  refine A_iload_n dL_law_373 rfl rfl ?_
  refine A_iconst (v := 1) dL_law_374 (by decide) ?_
  refine A_iadd dL_law_375 ?_
  refine A_sld hX (ix_k hk hL (by decide)) dL_law_376 ?_
  refine A_aload_n dL_law_377 rfl rfl ?_
  refine A_iload_n dL_law_378 rfl rfl ?_
  refine A_iconst (v := 2) dL_law_379 (by decide) ?_
  refine A_iadd dL_law_380 ?_
  refine A_sld hX (ix_k hk hL (by decide)) dL_law_381 ?_
  unfold HCM
  refine A_callVi dL_law_382 m_L_37 cb_X9_takes (As := [_, _]) rfl HC_at0 rfl (c_takes G h1.ix) rfl ⟨by decide, by decide⟩ (Nat.le_of_ble_eq_true rfl) ⟨by omega, by omega⟩ (fun x0 h0 hq => ?_)
  obtain ⟨rfl, rfl⟩ := hq
  show WA X G RL cL_law false (some .boolean) Qp 20 510000 7100000 (HCM b (takesA c _ _).2 co m ml r n) _ _ _ _ _
  refine A_aload_n dL_law_385 rfl rfl ?_
  refine A_aload_n dL_law_386 rfl rfl ?_
  refine A_iload_n dL_law_387 rfl rfl ?_
  refine A_iconst (v := 1) dL_law_388 (by decide) ?_
  refine A_iadd dL_law_389 ?_
  refine A_sld hX (ix_k hk hL (by decide)) dL_law_390 ?_
  refine A_aload_n dL_law_391 rfl rfl ?_
  refine A_iload_n dL_law_392 rfl rfl ?_
  refine A_iconst (v := 2) dL_law_393 (by decide) ?_
  refine A_iadd dL_law_394 ?_
  refine A_sld hX (ix_k hk hL (by decide)) dL_law_395 ?_
  refine WA_h HCM_sw ?_
  refine A_callVi dL_law_396 m_L_40 cb_X10_takes_ (As := [_, _]) rfl HM_at0 rfl (k_takes_ G h1) rfl ⟨by decide, by decide⟩ (Nat.le_of_ble_eq_true rfl) ⟨by omega, by omega⟩ (fun x1 h1 hq => ?_)
  obtain ⟨rfl, rfl⟩ := hq
  have hJ1 := hJ.takes (u := xs (nI (6 * k) + 1).toNatClampNeg) (v := xs (nI (6 * k) + 2).toNatClampNeg)
  refine A_icmp_eq 1444 dL_law_399 (by decide) (fun c399 => ?_) (fun c399 => ?_)
  · refine WA_h HCM_sw.symm ?_
    exact kk _ _ _ _ _ _ _ _ hJ1 (by omega) (by omega)
  · exact absurd rfl c399
theorem op_23 (G : GX) (X : XC) {Qp : Option Value → AH → Prop} {sc L b k uc us : Nat} {xs : Nat → Int32} (hX : SCR X sc L xs) (hk : 6 * k + 6 ≤ L) (hL : L ≤ 3072) (hu : uc ≤ 500000 ∧ us ≤ 7000000) {c : CT} {co : Nat → Nat → Option Nat} {m : CT} {ml : Nat → Nat → Int64} {r : Nat → Option AE} {n : Nat} (hJ : LJ b c co m ml r n) (kk : LN X G Qp sc b k uc us) : LW X G Qp sc b k uc us 837 (HCM b c co m ml r n) := by
  obtain ⟨nv, nc, nf, nl, wk, L1, S, I, ow, hJ⟩ := hJ
  obtain ⟨h1, h2, h3, h4, h5, h6, h7, h8, h9⟩ := id hJ
  unfold LW
  refine A_aload_n dL_law_837 rfl rfl ?_
  refine A_aload_n dL_law_838 rfl rfl ?_
  refine A_iload_n dL_law_839 rfl rfl ?_
  refine A_iconst (v := 1) dL_law_840 (by decide) ?_
  refine A_iadd dL_law_841 ?_
  refine A_sld hX (ix_k hk hL (by decide)) dL_law_842 ?_
  unfold HCM
  refine A_callVi dL_law_843 m_L_111 cb_X9_more (As := [_]) rfl HC_at0 rfl (c_more G) rfl ⟨by decide, by decide⟩ (Nat.le_of_ble_eq_true rfl) ⟨by omega, by omega⟩ (fun x0 h0 hq => ?_)
  obtain ⟨rfl, rfl⟩ := hq
  show WA X G RL cL_law false (some .boolean) Qp 20 510000 7100000 (HCM b (moreA c _).2 co m ml r n) _ _ _ _ _
  refine A_aload_n dL_law_846 rfl rfl ?_
  refine A_aload_n dL_law_847 rfl rfl ?_
  refine A_iload_n dL_law_848 rfl rfl ?_
  refine A_iconst (v := 1) dL_law_849 (by decide) ?_
  refine A_iadd dL_law_850 ?_
  refine A_sld hX (ix_k hk hL (by decide)) dL_law_851 ?_
  refine WA_h HCM_sw ?_
  refine A_callVi dL_law_852 m_L_114 cb_X10_more (As := [_]) rfl HM_at0 rfl (k_more G h1) rfl ⟨by decide, by decide⟩ (Nat.le_of_ble_eq_true rfl) ⟨by omega, by omega⟩ (fun x1 h1 hq => ?_)
  obtain ⟨rfl, rfl⟩ := hq
  have hJ1 := hJ.more (v := xs (nI (6 * k) + 1).toNatClampNeg)
  refine A_icmp_eq 1444 dL_law_855 (by decide) (fun c855 => ?_) (fun c855 => ?_)
  · refine WA_h HCM_sw.symm ?_
    exact kk _ _ _ _ _ _ _ _ hJ1 (by omega) (by omega)
  · exact absurd rfl c855
theorem op_37 (G : GX) (X : XC) {Qp : Option Value → AH → Prop} {sc L b k uc us : Nat} {xs : Nat → Int32} (hX : SCR X sc L xs) (hk : 6 * k + 6 ≤ L) (hL : L ≤ 3072) (hu : uc ≤ 500000 ∧ us ≤ 7000000) {c : CT} {co : Nat → Nat → Option Nat} {m : CT} {ml : Nat → Nat → Int64} {r : Nat → Option AE} {n : Nat} (hJ : LJ b c co m ml r n) (kk : LN X G Qp sc b k uc us) : LW X G Qp sc b k uc us 1219 (HCM b c co m ml r n) := by
  obtain ⟨nv, nc, nf, nl, wk, L1, S, I, ow, hJ⟩ := hJ
  obtain ⟨h1, h2, h3, h4, h5, h6, h7, h8, h9⟩ := id hJ
  unfold LW
  refine A_aload_n dL_law_1219 rfl rfl ?_
  refine A_aload_n dL_law_1220 rfl rfl ?_
  refine A_iload_n dL_law_1221 rfl rfl ?_
  refine A_iconst (v := 1) dL_law_1222 (by decide) ?_
  refine A_iadd dL_law_1223 ?_
  refine A_sld hX (ix_k hk hL (by decide)) dL_law_1224 ?_
  unfold HCM
  refine A_callVi dL_law_1225 m_L_167 cb_X9_image (As := [_]) rfl HC_at0 rfl (c_image G h7.ok (by omega) h1.ix.pn) rfl ⟨by decide, by decide⟩ (Nat.le_of_ble_eq_true rfl) ⟨by omega, by omega⟩ (fun x0 h0 hq => ?_)
  obtain ⟨co1, r1, n1, rfl, hP⟩ := hq
  obtain ⟨r1, rfl, hI⟩ := hJ.image hP
  show WA X G RL cL_law false (some .boolean) Qp 20 510000 7100000 (HCM b c co1 m ml r1 n1) _ _ _ _ _
  refine A_aload_n dL_law_1228 rfl rfl ?_
  refine A_aload_n dL_law_1229 rfl rfl ?_
  refine A_iload_n dL_law_1230 rfl rfl ?_
  refine A_iconst (v := 1) dL_law_1231 (by decide) ?_
  refine A_iadd dL_law_1232 ?_
  refine A_sld hX (ix_k hk hL (by decide)) dL_law_1233 ?_
  refine WA_h HCM_sw ?_
  refine A_callVi dL_law_1234 m_L_170 cb_X10_image (As := [_]) rfl HM_at0 rfl (k_image G) rfl ⟨by decide, by decide⟩ (Nat.le_of_ble_eq_true rfl) ⟨by omega, by omega⟩ (fun x1 h1 hq => ?_)
  obtain ⟨rfl, m1, rfl, hJ1⟩ := img_e hI hq
  refine A_icmp_eq 1444 dL_law_1237 (by decide) (fun c1237 => ?_) (fun c1237 => ?_)
  · refine WA_h HCM_sw.symm ?_
    exact kk _ _ _ _ _ _ _ _ hJ1 (by omega) (by omega)
  · exact absurd rfl c1237
theorem op_38 (G : GX) (X : XC) {Qp : Option Value → AH → Prop} {sc L b k uc us : Nat} {xs : Nat → Int32} (hX : SCR X sc L xs) (hk : 6 * k + 6 ≤ L) (hL : L ≤ 3072) (hu : uc ≤ 500000 ∧ us ≤ 7000000) {c : CT} {co : Nat → Nat → Option Nat} {m : CT} {ml : Nat → Nat → Int64} {r : Nat → Option AE} {n : Nat} (hJ : LJ b c co m ml r n) (kk : LN X G Qp sc b k uc us) : LW X G Qp sc b k uc us 1242 (HCM b c co m ml r n) := by
  obtain ⟨nv, nc, nf, nl, wk, L1, S, I, ow, hJ⟩ := hJ
  obtain ⟨h1, h2, h3, h4, h5, h6, h7, h8, h9⟩ := id hJ
  unfold LW
  refine A_aload_n dL_law_1242 rfl rfl ?_
  refine A_aload_n dL_law_1243 rfl rfl ?_
  refine A_iload_n dL_law_1244 rfl rfl ?_
  refine A_iconst (v := 1) dL_law_1245 (by decide) ?_
  refine A_iadd dL_law_1246 ?_
  refine A_sld hX (ix_k hk hL (by decide)) dL_law_1247 ?_
  unfold HCM
  refine A_callVi dL_law_1248 m_L_171 cb_X9_restore (As := [_]) rfl HC_at0 rfl (c_restore G h7.ok h8.pn) rfl ⟨by decide, by decide⟩ (Nat.le_of_ble_eq_true rfl) ⟨by omega, by omega⟩ (fun x0 h0 hq => ?_)
  obtain ⟨rfl, rfl⟩ := hq
  show WA X G RL cL_law false (some .boolean) Qp 20 510000 7100000 (HCM b (restoreA I c _).2 co m ml r n) _ _ _ _ _
  refine A_aload_n dL_law_1251 rfl rfl ?_
  refine A_aload_n dL_law_1252 rfl rfl ?_
  refine A_iload_n dL_law_1253 rfl rfl ?_
  refine A_iconst (v := 1) dL_law_1254 (by decide) ?_
  refine A_iadd dL_law_1255 ?_
  refine A_sld hX (ix_k hk hL (by decide)) dL_law_1256 ?_
  refine WA_h HCM_sw ?_
  refine A_callVi dL_law_1257 m_L_174 cb_X10_restore (As := [_]) rfl HM_at0 rfl (k_restore G) rfl ⟨by decide, by decide⟩ (Nat.le_of_ble_eq_true rfl) ⟨by omega, by omega⟩ (fun x1 h1 hq => ?_)
  obtain ⟨rfl, m1, rfl, hJ1⟩ := res_e hJ hq
  refine A_icmp_eq 1444 dL_law_1260 (by decide) (fun c1260 => ?_) (fun c1260 => ?_)
  · refine WA_h HCM_sw.symm ?_
    exact kk _ _ _ _ _ _ _ _ hJ1 (by omega) (by omega)
  · exact absurd rfl c1260
theorem op_39 (G : GX) (X : XC) {Qp : Option Value → AH → Prop} {sc L b k uc us : Nat} {xs : Nat → Int32} (hX : SCR X sc L xs) (hk : 6 * k + 6 ≤ L) (hL : L ≤ 3072) (hu : uc ≤ 500000 ∧ us ≤ 7000000) {c : CT} {co : Nat → Nat → Option Nat} {m : CT} {ml : Nat → Nat → Int64} {r : Nat → Option AE} {n : Nat} (hJ : LJ b c co m ml r n) (kk : LN X G Qp sc b k uc us) : LW X G Qp sc b k uc us 1265 (HCM b c co m ml r n) := by
  obtain ⟨nv, nc, nf, nl, wk, L1, S, I, ow, hJ⟩ := hJ
  obtain ⟨h1, h2, h3, h4, h5, h6, h7, h8, h9⟩ := id hJ
  unfold LW
  refine A_aload_n dL_law_1265 rfl rfl ?_
  refine A_aload_n dL_law_1266 rfl rfl ?_
  refine A_iload_n dL_law_1267 rfl rfl ?_
  refine A_iconst (v := 1) dL_law_1268 (by decide) ?_
  refine A_iadd dL_law_1269 ?_
  refine A_sld hX (ix_k hk hL (by decide)) dL_law_1270 ?_
  refine A_aload_n dL_law_1271 rfl rfl ?_
  refine A_iload_n dL_law_1272 rfl rfl ?_
  refine A_iconst (v := 2) dL_law_1273 (by decide) ?_
  refine A_iadd dL_law_1274 ?_
  refine A_sld hX (ix_k hk hL (by decide)) dL_law_1275 ?_
  refine A_aload_n dL_law_1276 rfl rfl ?_
  refine A_iload_n dL_law_1277 rfl rfl ?_
  refine A_iconst (v := 3) dL_law_1278 (by decide) ?_
  refine A_iadd dL_law_1279 ?_
  refine A_sld hX (ix_k hk hL (by decide)) dL_law_1280 ?_
  unfold HCM
  refine A_callVi dL_law_1281 m_L_175 cb_X9_row (As := [_, _, _]) rfl HC_at0 rfl (c_row G h5.ok (by omega)) rfl ⟨by decide, by decide⟩ (Nat.le_of_ble_eq_true rfl) ⟨by omega, by omega⟩ (fun x0 h0 hq => ?_)
  obtain ⟨co1, r1, n1, rfl, hP⟩ := hq
  obtain ⟨rfl, r1, rfl, hR⟩ := hJ.row hP
  show WA X G RL cL_law false (some .boolean) Qp 20 510000 7100000 (HCM b c co1 m ml r1 n1) _ _ _ _ _
  refine A_aload_n dL_law_1284 rfl rfl ?_
  refine A_aload_n dL_law_1285 rfl rfl ?_
  refine A_iload_n dL_law_1286 rfl rfl ?_
  refine A_iconst (v := 1) dL_law_1287 (by decide) ?_
  refine A_iadd dL_law_1288 ?_
  refine A_sld hX (ix_k hk hL (by decide)) dL_law_1289 ?_
  refine A_aload_n dL_law_1290 rfl rfl ?_
  refine A_iload_n dL_law_1291 rfl rfl ?_
  refine A_iconst (v := 2) dL_law_1292 (by decide) ?_
  refine A_iadd dL_law_1293 ?_
  refine A_sld hX (ix_k hk hL (by decide)) dL_law_1294 ?_
  refine A_aload_n dL_law_1295 rfl rfl ?_
  refine A_iload_n dL_law_1296 rfl rfl ?_
  refine A_iconst (v := 3) dL_law_1297 (by decide) ?_
  refine A_iadd dL_law_1298 ?_
  refine A_sld hX (ix_k hk hL (by decide)) dL_law_1299 ?_
  refine WA_h HCM_sw ?_
  refine A_callVi dL_law_1300 m_L_178 cb_X10_row (As := [_, _, _]) rfl HM_at0 rfl (k_row G) rfl ⟨by decide, by decide⟩ (Nat.le_of_ble_eq_true rfl) ⟨by omega, by omega⟩ (fun x1 h1 hq => ?_)
  obtain ⟨rfl, m1, ml1, rfl, hM⟩ := hq
  have hJ1 := hR _ _ hM
  refine A_icmp_eq 1444 dL_law_1303 (by decide) (fun c1303 => ?_) (fun c1303 => ?_)
  · refine WA_h HCM_sw.symm ?_
    exact kk _ _ _ _ _ _ _ _ hJ1 (by omega) (by omega)
  · exact absurd rfl c1303
theorem op_40 (G : GX) (X : XC) {Qp : Option Value → AH → Prop} {sc L b k uc us : Nat} {xs : Nat → Int32} (hX : SCR X sc L xs) (hk : 6 * k + 6 ≤ L) (hL : L ≤ 3072) (hu : uc ≤ 500000 ∧ us ≤ 7000000) {c : CT} {co : Nat → Nat → Option Nat} {m : CT} {ml : Nat → Nat → Int64} {r : Nat → Option AE} {n : Nat} (hJ : LJ b c co m ml r n) (kk : LN X G Qp sc b k uc us) : LW X G Qp sc b k uc us 1308 (HCM b c co m ml r n) := by
  obtain ⟨nv, nc, nf, nl, wk, L1, S, I, ow, hJ⟩ := hJ
  obtain ⟨h1, h2, h3, h4, h5, h6, h7, h8, h9⟩ := id hJ
  unfold LW
  refine A_aload_n dL_law_1308 rfl rfl ?_
  refine A_aload_n dL_law_1309 rfl rfl ?_
  refine A_iload_n dL_law_1310 rfl rfl ?_
  refine A_iconst (v := 1) dL_law_1311 (by decide) ?_
  refine A_iadd dL_law_1312 ?_
  refine A_sld hX (ix_k hk hL (by decide)) dL_law_1313 ?_
  refine A_aload_n dL_law_1314 rfl rfl ?_
  refine A_iload_n dL_law_1315 rfl rfl ?_
  refine A_iconst (v := 2) dL_law_1316 (by decide) ?_
  refine A_iadd dL_law_1317 ?_
  refine A_sld hX (ix_k hk hL (by decide)) dL_law_1318 ?_
  refine A_aload_n dL_law_1319 rfl rfl ?_
  refine A_iload_n dL_law_1320 rfl rfl ?_
  refine A_iconst (v := 3) dL_law_1321 (by decide) ?_
  refine A_iadd dL_law_1322 ?_
  refine A_sld hX (ix_k hk hL (by decide)) dL_law_1323 ?_
  refine A_i2l dL_law_1324 ?_
  refine A_bipush (v := 32) dL_law_1325 (by decide) ?_
  refine A_lshl dL_law_1327 ?_
  refine A_aload_n dL_law_1328 rfl rfl ?_
  refine A_iload_n dL_law_1329 rfl rfl ?_
  refine A_iconst (v := 4) dL_law_1330 (by decide) ?_
  refine A_iadd dL_law_1331 ?_
  refine A_sld hX (ix_k hk hL (by decide)) dL_law_1332 ?_
  refine A_i2l dL_law_1333 ?_
  refine A_ldc2 dL_law_1334 w_1803 ?_
  refine A_land dL_law_1337 ?_
  refine A_lor dL_law_1338 ?_
  unfold HCM
  refine A_callVi dL_law_1339 m_L_181 cb_X9_write (As := [_, _, _]) rfl HC_at0 rfl (c_write G h5.ok) rfl ⟨by decide, by decide⟩ (Nat.le_of_ble_eq_true rfl) ⟨by omega, by omega⟩ (fun x0 h0 hq => ?_)
  obtain ⟨r1, rfl, hP⟩ := hq
  obtain ⟨r1, rfl, hW⟩ := hJ.write hP
  show WA X G RL cL_law false (some .boolean) Qp 20 510000 7100000 (HCM b c co m ml r1 n) _ _ _ _ _
  refine A_aload_n dL_law_1342 rfl rfl ?_
  refine A_aload_n dL_law_1343 rfl rfl ?_
  refine A_iload_n dL_law_1344 rfl rfl ?_
  refine A_iconst (v := 1) dL_law_1345 (by decide) ?_
  refine A_iadd dL_law_1346 ?_
  refine A_sld hX (ix_k hk hL (by decide)) dL_law_1347 ?_
  refine A_aload_n dL_law_1348 rfl rfl ?_
  refine A_iload_n dL_law_1349 rfl rfl ?_
  refine A_iconst (v := 2) dL_law_1350 (by decide) ?_
  refine A_iadd dL_law_1351 ?_
  refine A_sld hX (ix_k hk hL (by decide)) dL_law_1352 ?_
  refine A_aload_n dL_law_1353 rfl rfl ?_
  refine A_iload_n dL_law_1354 rfl rfl ?_
  refine A_iconst (v := 3) dL_law_1355 (by decide) ?_
  refine A_iadd dL_law_1356 ?_
  refine A_sld hX (ix_k hk hL (by decide)) dL_law_1357 ?_
  refine A_i2l dL_law_1358 ?_
  refine A_bipush (v := 32) dL_law_1359 (by decide) ?_
  refine A_lshl dL_law_1361 ?_
  refine A_aload_n dL_law_1362 rfl rfl ?_
  refine A_iload_n dL_law_1363 rfl rfl ?_
  refine A_iconst (v := 4) dL_law_1364 (by decide) ?_
  refine A_iadd dL_law_1365 ?_
  refine A_sld hX (ix_k hk hL (by decide)) dL_law_1366 ?_
  refine A_i2l dL_law_1367 ?_
  refine A_ldc2 dL_law_1368 w_1803 ?_
  refine A_land dL_law_1371 ?_
  refine A_lor dL_law_1372 ?_
  refine WA_h HCM_sw ?_
  refine A_callVi dL_law_1373 m_L_185 cb_X10_write (As := [_, _, _]) rfl HM_at0 rfl (k_write G h6) rfl ⟨by decide, by decide⟩ (Nat.le_of_ble_eq_true rfl) ⟨by omega, by omega⟩ (fun x1 h1 hq => ?_)
  obtain ⟨ml1, rfl, hM⟩ := hq
  obtain ⟨rfl, hJ1⟩ := hW _ _ hM
  refine A_icmp_eq 1444 dL_law_1376 (by decide) (fun c1376 => ?_) (fun c1376 => ?_)
  · refine WA_h HCM_sw.symm ?_
    exact kk _ _ _ _ _ _ _ _ hJ1 (by omega) (by omega)
  · exact absurd rfl c1376
theorem op_41 (G : GX) (X : XC) {Qp : Option Value → AH → Prop} {sc L b k uc us : Nat} {xs : Nat → Int32} (hX : SCR X sc L xs) (hk : 6 * k + 6 ≤ L) (hL : L ≤ 3072) (hu : uc ≤ 500000 ∧ us ≤ 7000000) {c : CT} {co : Nat → Nat → Option Nat} {m : CT} {ml : Nat → Nat → Int64} {r : Nat → Option AE} {n : Nat} (hJ : LJ b c co m ml r n) (kk : LN X G Qp sc b k uc us) : LW X G Qp sc b k uc us 1381 (HCM b c co m ml r n) := by
  obtain ⟨nv, nc, nf, nl, wk, L1, S, I, ow, hJ⟩ := hJ
  obtain ⟨h1, h2, h3, h4, h5, h6, h7, h8, h9⟩ := id hJ
  unfold LW
  refine A_aload_n dL_law_1381 rfl rfl ?_
  refine A_aload_n dL_law_1382 rfl rfl ?_
  refine A_iload_n dL_law_1383 rfl rfl ?_
  refine A_iconst (v := 1) dL_law_1384 (by decide) ?_
  refine A_iadd dL_law_1385 ?_
  refine A_sld hX (ix_k hk hL (by decide)) dL_law_1386 ?_
  refine A_aload_n dL_law_1387 rfl rfl ?_
  refine A_iload_n dL_law_1388 rfl rfl ?_
  refine A_iconst (v := 2) dL_law_1389 (by decide) ?_
  refine A_iadd dL_law_1390 ?_
  refine A_sld hX (ix_k hk hL (by decide)) dL_law_1391 ?_
  refine A_aload_n dL_law_1392 rfl rfl ?_
  refine A_iload_n dL_law_1393 rfl rfl ?_
  refine A_iconst (v := 3) dL_law_1394 (by decide) ?_
  refine A_iadd dL_law_1395 ?_
  refine A_sld hX (ix_k hk hL (by decide)) dL_law_1396 ?_
  refine A_aload_n dL_law_1397 rfl rfl ?_
  refine A_iload_n dL_law_1398 rfl rfl ?_
  refine A_iconst (v := 4) dL_law_1399 (by decide) ?_
  refine A_iadd dL_law_1400 ?_
  refine A_sld hX (ix_k hk hL (by decide)) dL_law_1401 ?_
  refine A_aload_n dL_law_1402 rfl rfl ?_
  refine A_iload_n dL_law_1403 rfl rfl ?_
  refine A_iconst (v := 5) dL_law_1404 (by decide) ?_
  refine A_iadd dL_law_1405 ?_
  refine A_sld hX (ix_k hk hL (by decide)) dL_law_1406 ?_
  unfold HCM
  refine A_callVi dL_law_1407 m_L_186 cb_X9_paste (As := [_, _, _, _, _]) rfl HC_at0 rfl (c_paste G h5.ok) rfl ⟨by decide, by decide⟩ (Nat.le_of_ble_eq_true rfl) ⟨by omega, by omega⟩ (fun x0 h0 hq => ?_)
  obtain ⟨r1, rfl, hP⟩ := hq
  obtain ⟨r1, rfl, hW⟩ := hJ.paste hP
  show WA X G RL cL_law false (some .boolean) Qp 20 510000 7100000 (HCM b c co m ml r1 n) _ _ _ _ _
  refine A_aload_n dL_law_1410 rfl rfl ?_
  refine A_aload_n dL_law_1411 rfl rfl ?_
  refine A_iload_n dL_law_1412 rfl rfl ?_
  refine A_iconst (v := 1) dL_law_1413 (by decide) ?_
  refine A_iadd dL_law_1414 ?_
  refine A_sld hX (ix_k hk hL (by decide)) dL_law_1415 ?_
  refine A_aload_n dL_law_1416 rfl rfl ?_
  refine A_iload_n dL_law_1417 rfl rfl ?_
  refine A_iconst (v := 2) dL_law_1418 (by decide) ?_
  refine A_iadd dL_law_1419 ?_
  refine A_sld hX (ix_k hk hL (by decide)) dL_law_1420 ?_
  refine A_aload_n dL_law_1421 rfl rfl ?_
  refine A_iload_n dL_law_1422 rfl rfl ?_
  refine A_iconst (v := 3) dL_law_1423 (by decide) ?_
  refine A_iadd dL_law_1424 ?_
  refine A_sld hX (ix_k hk hL (by decide)) dL_law_1425 ?_
  refine A_aload_n dL_law_1426 rfl rfl ?_
  refine A_iload_n dL_law_1427 rfl rfl ?_
  refine A_iconst (v := 4) dL_law_1428 (by decide) ?_
  refine A_iadd dL_law_1429 ?_
  refine A_sld hX (ix_k hk hL (by decide)) dL_law_1430 ?_
  refine A_aload_n dL_law_1431 rfl rfl ?_
  refine A_iload_n dL_law_1432 rfl rfl ?_
  refine A_iconst (v := 5) dL_law_1433 (by decide) ?_
  refine A_iadd dL_law_1434 ?_
  refine A_sld hX (ix_k hk hL (by decide)) dL_law_1435 ?_
  refine WA_h HCM_sw ?_
  refine A_callVi dL_law_1436 m_L_189 cb_X10_paste (As := [_, _, _, _, _]) rfl HM_at0 rfl (k_paste G h6) rfl ⟨by decide, by decide⟩ (Nat.le_of_ble_eq_true rfl) ⟨by omega, by omega⟩ (fun x1 h1 hq => ?_)
  obtain ⟨ml1, rfl, hM⟩ := hq
  obtain ⟨rfl, hJ1⟩ := hW _ _ hM
  refine A_icmp_eq 1444 dL_law_1439 (by decide) (fun c1439 => ?_) (fun c1439 => ?_)
  · refine WA_h HCM_sw.symm ?_
    exact kk _ _ _ _ _ _ _ _ hJ1 (by omega) (by omega)
  · exact absurd rfl c1439