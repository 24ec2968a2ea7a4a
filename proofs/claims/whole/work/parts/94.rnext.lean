/-! THE REFERENCE reads what a LINE tells -/
def CF (g : Nat → Int32) (N0 N1 N2 N3 K : Nat) : Prop := (g 0 = nI N0 ∧ N0 ≤ 6) ∧ (g 1 = nI N1 ∧ N1 ≤ 8) ∧ (g 2 = nI N2 ∧ N2 ≤ 3) ∧ (g 3 = nI N3 ∧ N3 ≤ 8) ∧ g 5 = nI K ∧ K ≤ 30
def nuV (f : Nat → Int32) (L : Nat) (hi : Int32) (o : Int32 × Nat) : Int32 := if (thn o (nuO f L 0 hi)).1 = 0 then nuW f L o.2 else 0
theorem nuV_b {f : Nat → Int32} {L k : Nat} {o : Int32 × Nat} (hk : k ≤ 30) (h0 : o.1 = 0) : ∃ a, a < 30 ∧ (k ≤ 6 → a < 6) ∧ nuV f L (nI k - 1) o = nI a := by
  unfold nuV
  rw [thn, if_pos h0]
  by_cases h : (nuO f L 0 (nI k - 1) o.2).1 = 0
  · rw [if_pos h]
    unfold nuO at h
    by_cases h1 : tkK f (tkS f L o.2) = 2
    · rw [if_neg (fun w => w h1)] at h
      by_cases h2 : nuW f L o.2 < 0 ∨ nI k - 1 < nuW f L o.2
      · rw [if_pos h2] at h; exact absurd h (by decide : ¬ (2 : Int32) = 0)
      · have hc : ¬ inI (nuW f L o.2) (nI k) = 0 := by
          rw [inI, if_neg]
          · decide
          · rintro (q | q)
            · exact h2 (Or.inl q)
            · apply h2
              refine Or.inr ?_
              rw [Int32.lt_iff_toInt_lt, show (1 : Int32) = nI 1 from rfl, nI_m1_toInt (by omega)]
              rw [Int32.le_iff_toInt_le, nI_toInt (by omega)] at q
              omega
        obtain ⟨a, ha, e⟩ := inI_of rfl hc (by omega)
        exact ⟨a, by omega, fun _ => by omega, e⟩
    · rw [if_pos h1] at h; exact absurd h (by decide : ¬ (1 : Int32) = 0)
  · rw [if_neg h]; exact ⟨0, by decide, fun _ => by decide, rfl⟩
def suS (f : Nat → Int32) (L : Nat) (s : RS) : RS := tdS f L 25 0 99 (78 + tcl (nuV f L (s.2 5 - 1) s.1)) (thn s.1 (nuO f L 0 (s.2 5 - 1)), s.2)
def caS (f : Nat → Int32) (L : Nat) (s : RS) : RS := tdS f L 30 0 9999 (8 + 5 * tcl (nuV f L (s.2 0 - 1) s.1) + 4) (thn s.1 (nuO f L 0 (s.2 0 - 1)), s.2)
def dsS (f : Nat → Int32) (L : Nat) (s : RS) : RS :=
  if wdB f L s.1.2 11 = true then viS f L (tcl (s.2 0)) ((0, nxP f L s.1.2), s.2)
  else if wdB f L s.1.2 12 = true then crS f L (tcl (s.2 1)) ((0, nxP f L s.1.2), s.2)
  else if wdB f L s.1.2 13 = true then suS f L ((0, nxP f L s.1.2), s.2)
  else if wdB f L s.1.2 14 = true then flS f L (tcl (s.2 2)) ((0, nxP f L s.1.2), s.2)
  else if wdB f L s.1.2 15 = true then loS f L (tcl (s.2 3)) ((0, nxP f L s.1.2), s.2)
  else caS f L ((0, nxP f L s.1.2), s.2)
abbrev knP (f : Nat → Int32) (L p : Nat) : Prop := wdB f L p 11 = true ∨ wdB f L p 12 = true ∨ wdB f L p 13 = true ∨ wdB f L p 14 = true ∨ wdB f L p 15 = true ∨ wdB f L p 16 = true
abbrev fuP (f : Nat → Int32) (L p : Nat) (g : Nat → Int32) : Prop := (wdB f L p 11 = true ∧ g 0 = 6) ∨ (wdB f L p 12 = true ∧ g 1 = 8) ∨ (wdB f L p 14 = true ∧ g 2 = 3) ∨ (wdB f L p 15 = true ∧ g 3 = 8)
def nxS (f : Nat → Int32) (L : Nat) (s : RS) : RS := if ¬ knP f L s.1.2 then ((1, tkS f L s.1.2), s.2) else if fuP f L s.1.2 s.2 then ((3, tkS f L s.1.2), s.2) else dsS f L s
theorem is_y {f : Nat → Int32} {L j : Nat} {o : Int32 × Nat} (h : ¬ (if o.1 = 0 ∧ wdB f L o.2 j = true then (1 : Int32) else 0) = 0) : o.1 = 0 ∧ wdB f L o.2 j = true := by
  by_cases w : o.1 = 0 ∧ wdB f L o.2 j = true
  · exact w
  · exact absurd (if_neg w) h
theorem is_n {f : Nat → Int32} {L j : Nat} {o : Int32 × Nat} (h : (if o.1 = 0 ∧ wdB f L o.2 j = true then (1 : Int32) else 0) = 0) (h0 : o.1 = 0) : ¬ wdB f L o.2 j = true := fun w => by rw [if_pos ⟨h0, w⟩] at h; exact absurd h (by decide)
theorem STr.tk {L j : Nat} {f : Nat → Int32} {m0 y m1 : CT} {s : RS} (h : STr L f m0 s y) (hS : SMf y m1) (hG : GS L f (tkO f L j s.1) m1) (w : s.1.1 = 0 ∧ wdB f L s.1.2 j = true) : STr L f m0 ((0, nxP f L s.1.2), s.2) m1 := by
  have e : tkO f L j s.1 = (0, nxP f L s.1.2) := by rw [tkO, if_pos w]
  rw [e] at hG
  exact h.o hS hG
theorem STr.tn {L j : Nat} {f : Nat → Int32} {m0 y m1 : CT} {s : RS} (h : STr L f m0 s y) (hS : SMf y m1) (hG : GS L f (tkO f L j s.1) m1) (w : ¬ wdB f L s.1.2 j = true) : STr L f m0 s m1 := by
  have e : tkO f L j s.1 = s.1 := by rw [tkO, if_neg (fun z => w z.2)]
  rw [e] at hG
  exact h.o hS hG
theorem nx_d (G : GX) (X : XC) {b : Nat} {m0 m : CT} {ml : Nat → Nat → Int64} {r : Nat → Option AE} {n L N0 N1 N2 N3 K : Nat} {f : Nat → Int32} {s : RS} {x1 : Int32} {u1 u2 : Nat} (hu : u1 = 0 ∧ u2 = 0) (hT : STr L f m0 s m) (h0 : s.1.1 = 0) (hC : CF s.2 N0 N1 N2 N3 K) (nf : (wdB f L s.1.2 11 = true → N0 < 6) ∧ (wdB f L s.1.2 12 = true → N1 < 8) ∧ (wdB f L s.1.2 14 = true → N2 < 3) ∧ (wdB f L s.1.2 15 = true → N3 < 8)) : WA X G RX10 cX10_readNext false none (qV fun h1 => ∃ m1, h1 = HM b m1 ml r n ∧ STr L f m0 (dsS f L s) m1) 11 0 0 (HM b m ml r n) u1 u2 161 [some (.ref b), some (.int x1), none] [] := by
  obtain ⟨rfl, rfl⟩ := hu
  obtain ⟨⟨g0, b0⟩, ⟨g1, b1⟩, ⟨g2, b2⟩, ⟨g3, b3⟩, g5, b5⟩ := hC
  refine A_aload_n dX10_readNext_161 rfl rfl ?_
  refine A_ldcS 11 dX10_readNext_162 rfl ?_
  refine A_callVi dX10_readNext_164 m_X10_157 cb_X10_takes (As := [_]) rfl HM_at0 rfl (k_takesW G (j := 11) (by decide) hT.2.1) rfl ⟨by decide, by decide⟩ (Nat.le_of_ble_eq_true rfl) ⟨by decide, by decide⟩ (fun x164 h164 hq => ?_)
  obtain ⟨rfl, m1, rfl, hS, hG1⟩ := hq
  refine A_if_eq 177 dX10_readNext_167 (by decide) (fun c167 => ?_) (fun c167 => ?_)
  · have n167 := is_n c167 h0
    have hT := hT.tn hS hG1 n167
    refine A_aload_n dX10_readNext_177 rfl rfl ?_
    refine A_ldcS 12 dX10_readNext_178 rfl ?_
    refine A_callVi dX10_readNext_180 m_X10_157 cb_X10_takes (As := [_]) rfl HM_at0 rfl (k_takesW G (j := 12) (by decide) hT.2.1) rfl ⟨by decide, by decide⟩ (Nat.le_of_ble_eq_true rfl) ⟨by decide, by decide⟩ (fun x180 h180 hq => ?_)
    obtain ⟨rfl, m1, rfl, hS, hG1⟩ := hq
    refine A_if_eq 193 dX10_readNext_183 (by decide) (fun c183 => ?_) (fun c183 => ?_)
    · have n183 := is_n c183 h0
      have hT := hT.tn hS hG1 n183
      refine A_aload_n dX10_readNext_193 rfl rfl ?_
      refine A_ldcS 13 dX10_readNext_194 rfl ?_
      refine A_callVi dX10_readNext_196 m_X10_157 cb_X10_takes (As := [_]) rfl HM_at0 rfl (k_takesW G (j := 13) (by decide) hT.2.1) rfl ⟨by decide, by decide⟩ (Nat.le_of_ble_eq_true rfl) ⟨by decide, by decide⟩ (fun x196 h196 hq => ?_)
      obtain ⟨rfl, m1, rfl, hS, hG1⟩ := hq
      refine A_if_eq 237 dX10_readNext_199 (by decide) (fun c199 => ?_) (fun c199 => ?_)
      · have n199 := is_n c199 h0
        have hT := hT.tn hS hG1 n199
        refine A_aload_n dX10_readNext_237 rfl rfl ?_
        refine A_ldcS 14 dX10_readNext_238 rfl ?_
        refine A_callVi dX10_readNext_240 m_X10_157 cb_X10_takes (As := [_]) rfl HM_at0 rfl (k_takesW G (j := 14) (by decide) hT.2.1) rfl ⟨by decide, by decide⟩ (Nat.le_of_ble_eq_true rfl) ⟨by decide, by decide⟩ (fun x240 h240 hq => ?_)
        obtain ⟨rfl, m1, rfl, hS, hG1⟩ := hq
        refine A_if_eq 253 dX10_readNext_243 (by decide) (fun c243 => ?_) (fun c243 => ?_)
        · have n243 := is_n c243 h0
          have hT := hT.tn hS hG1 n243
          refine A_aload_n dX10_readNext_253 rfl rfl ?_
          refine A_ldcS 15 dX10_readNext_254 rfl ?_
          refine A_callVi dX10_readNext_256 m_X10_157 cb_X10_takes (As := [_]) rfl HM_at0 rfl (k_takesW G (j := 15) (by decide) hT.2.1) rfl ⟨by decide, by decide⟩ (Nat.le_of_ble_eq_true rfl) ⟨by decide, by decide⟩ (fun x256 h256 hq => ?_)
          obtain ⟨rfl, m1, rfl, hS, hG1⟩ := hq
          refine A_if_eq 269 dX10_readNext_259 (by decide) (fun c259 => ?_) (fun c259 => ?_)
          · have n259 := is_n c259 h0
            have hT := hT.tn hS hG1 n259
            refine A_aload_n dX10_readNext_269 rfl rfl ?_
            obtain ⟨q0, q1, h7, hL, hp, hf, -, -, h8, -⟩ := hT.2.1.lk h0
            have hfL : f L = -1 := by rw [← hf]; exact myF_L h7
            have heb := tkE_b (f := f) (tkS_b (f := f) hp).2 hfL
            refine A_callVv dX10_readNext_270 m_X10_154 cb_X10_advance (As := []) rfl HM_at0 rfl (k_advance G (p := nxP f L s.1.2) h7 hL heb.2 hf h8) rfl ⟨by decide, by decide⟩ (Nat.le_of_ble_eq_true rfl) ⟨by decide, by decide⟩ (fun h270 hq => ?_)
            obtain ⟨m4, rfl, hS4, hK4⟩ := hq
            have hT := hT.o hS4.s (adv_G hT.2.1 h0 hS4 hK4)
            refine A_aload_n dX10_readNext_273 rfl rfl ?_
            refine A_callVi dX10_readNext_274 m_X10_182 cb_X10_freshVillage (As := []) rfl HM_at0 rfl (k_freshVillage G hT.2.1) rfl ⟨by decide, by decide⟩ (Nat.le_of_ble_eq_true rfl) ⟨by decide, by decide⟩ (fun x274 h274 hq => ?_)
            obtain ⟨rfl, m2, rfl, hS2, hG2⟩ := hq
            rw [hT.2.2] at hG2 ⊢
            obtain ⟨a, -, ha, ea⟩ := nuV_b (f := f) (L := L) (k := N0) (o := ((0 : Int32), nxP f L s.1.2)) (by omega) rfl
            rw [← g0] at ea
            have ha := ha b0
            refine A_eqI (y := nI a) ea ?_
            have hT2 := hT.o hS2 hG2
            refine A_istore_n (lv1 := [_, _, _]) dX10_readNext_277 rfl (Nat.le_of_ble_eq_true rfl) rfl rfl ?_
            refine A_aload_n dX10_readNext_278 rfl rfl ?_
            refine A_get dX10_readNext_279 f_X10_31 HM_at0 rfl ?_
            refine A_bipush (v := 8) dX10_readNext_282 (by decide) ?_
            refine A_iconst (v := 5) dX10_readNext_284 (by decide) ?_
            refine A_iload_n dX10_readNext_285 rfl rfl ?_
            refine A_imul dX10_readNext_286 ?_
            refine A_iadd dX10_readNext_287 ?_
            refine A_iconst (v := 4) dX10_readNext_288 (by decide) ?_
            refine A_iadd dX10_readNext_289 ?_
            refine A_aload_n dX10_readNext_290 rfl rfl ?_
            refine A_ldcS 30 dX10_readNext_291 rfl ?_
            refine A_iconst (v := 0) dX10_readNext_293 (by decide) ?_
            refine A_sipush (v := 9999) dX10_readNext_294 (by decide) ?_
            refine A_callVi dX10_readNext_297 m_X10_173 cb_X10_told (As := [_, _, _]) rfl HM_at0 rfl (k_told G (j := 30) (by decide) hT2.2.1) rfl ⟨by decide, by decide⟩ (Nat.le_of_ble_eq_true rfl) ⟨by decide, by decide⟩ (fun x297 h297 hq => ?_)
            obtain ⟨rfl, m3, rfl, hS3, hG3⟩ := hq
            refine A_iastMK (i := ((8 + (5 * a)) + 4)) dX10_readNext_300 (by decide) (fun _ => rfl) (ixA (ixA rfl (ixU rfl rfl)) rfl) (by omega) (by decide) ?_
            have e78 : tcl (nuV f L (s.2 0 - 1) ((0 : Int32), nxP f L s.1.2)) = a := by rw [ea, tcl_nI (by omega)]
            have hT9 := hT2.td (i := 8 + 5 * a + 4) hS3 hG3
            rw [show tdS f L 30 0 9999 (8 + 5 * a + 4) _ = caS f L ((0, nxP f L s.1.2), s.2) by rw [caS]; show _ = tdS f L 30 0 9999 (8 + 5 * tcl (nuV f L (s.2 0 - 1) ((0 : Int32), nxP f L s.1.2)) + 4) _; rw [e78]] at hT9
            exact A_vret dX10_readNext_301 ⟨_, rfl, by rw [dsS, if_neg n167, if_neg n183, if_neg n199, if_neg n243, if_neg n259]; exact hT9⟩ ⟨by decide, by decide⟩
          · have w259 := is_y c259
            have hT := hT.tk hS hG1 w259
            have z3 := nf.2.2.2 w259.2
            refine A_aload_n dX10_readNext_262 rfl rfl ?_
            refine A_callVv dX10_readNext_263 m_X10_222 cb_X10_readLoan (As := []) rfl HM_at0 rfl (k_readLoan G (N := N3) hT g3 (by omega)) rfl ⟨by decide, by decide⟩ (Nat.le_of_ble_eq_true rfl) ⟨by decide, by decide⟩ (fun h263 hq => ?_)
            obtain ⟨m9, rfl, hT9⟩ := hq
            refine A_goto 301 dX10_readNext_266 (by decide) ?_
            exact A_vret dX10_readNext_301 ⟨_, rfl, by rw [dsS, if_neg n167, if_neg n183, if_neg n199, if_neg n243, if_pos w259.2, g3, tcl_nI (by omega)]; exact hT9⟩ ⟨by decide, by decide⟩
        · have w243 := is_y c243
          have hT := hT.tk hS hG1 w243
          have z2 := nf.2.2.1 w243.2
          refine A_aload_n dX10_readNext_246 rfl rfl ?_
          refine A_callVv dX10_readNext_247 m_X10_219 cb_X10_readFlood (As := []) rfl HM_at0 rfl (k_readFlood G (N := N2) hT g2 (by omega)) rfl ⟨by decide, by decide⟩ (Nat.le_of_ble_eq_true rfl) ⟨by decide, by decide⟩ (fun h247 hq => ?_)
          obtain ⟨m9, rfl, hT9⟩ := hq
          refine A_goto 301 dX10_readNext_250 (by decide) ?_
          exact A_vret dX10_readNext_301 ⟨_, rfl, by rw [dsS, if_neg n167, if_neg n183, if_neg n199, if_pos w243.2, g2, tcl_nI (by omega)]; exact hT9⟩ ⟨by decide, by decide⟩
      · have w199 := is_y c199
        have hT := hT.tk hS hG1 w199
        refine A_aload_n dX10_readNext_202 rfl rfl ?_
        refine A_iconst (v := 0) dX10_readNext_203 (by decide) ?_
        refine A_aload_n dX10_readNext_204 rfl rfl ?_
        refine A_get dX10_readNext_205 f_X10_31 HM_at0 rfl ?_
        refine A_iconst (v := 5) dX10_readNext_208 (by decide) ?_
        refine A_ialdK (i := 5) dX10_readNext_209 (HM_at (by decide)) rfl (by omega) (by decide) ?_
        refine A_eqI (y := s.2 5) (by rw [hT.2.2]) ?_
        refine A_iconst (v := 1) dX10_readNext_210 (by decide) ?_
        refine A_isub dX10_readNext_211 ?_
        refine A_callVi dX10_readNext_212 m_X10_168 cb_X10_number (As := [_, _]) rfl HM_at0 rfl (k_number G hT.2.1) rfl ⟨by decide, by decide⟩ (Nat.le_of_ble_eq_true rfl) ⟨by decide, by decide⟩ (fun x212 h212 hq => ?_)
        obtain ⟨rfl, m2, rfl, hS2, hG2⟩ := hq
        obtain ⟨a, ha, -, ea⟩ := nuV_b (f := f) (L := L) (o := ((0 : Int32), nxP f L s.1.2)) b5 rfl
        rw [← g5] at ea
        refine A_eqI (y := nI a) ea ?_
        have hT2 := hT.o hS2 hG2
        refine A_istore_n (lv1 := [_, _, _]) dX10_readNext_215 rfl (Nat.le_of_ble_eq_true rfl) rfl rfl ?_
        refine A_aload_n dX10_readNext_216 rfl rfl ?_
        refine A_get dX10_readNext_217 f_X10_31 HM_at0 rfl ?_
        refine A_bipush (v := 78) dX10_readNext_220 (by decide) ?_
        refine A_iload_n dX10_readNext_222 rfl rfl ?_
        refine A_iadd dX10_readNext_223 ?_
        refine A_aload_n dX10_readNext_224 rfl rfl ?_
        refine A_ldcS 25 dX10_readNext_225 rfl ?_
        refine A_iconst (v := 0) dX10_readNext_227 (by decide) ?_
        refine A_bipush (v := 99) dX10_readNext_228 (by decide) ?_
        refine A_callVi dX10_readNext_230 m_X10_173 cb_X10_told (As := [_, _, _]) rfl HM_at0 rfl (k_told G (j := 25) (by decide) hT2.2.1) rfl ⟨by decide, by decide⟩ (Nat.le_of_ble_eq_true rfl) ⟨by decide, by decide⟩ (fun x230 h230 hq => ?_)
        obtain ⟨rfl, m3, rfl, hS3, hG3⟩ := hq
        refine A_iastMK (i := (78 + a)) dX10_readNext_233 (by decide) (fun _ => rfl) (ixA rfl rfl) (by omega) (by decide) ?_
        have e78 : tcl (nuV f L (s.2 5 - 1) ((0 : Int32), nxP f L s.1.2)) = a := by rw [ea, tcl_nI (by omega)]
        have hT9 := hT2.td (i := 78 + a) hS3 hG3
        rw [show tdS f L 25 0 99 (78 + a) _ = suS f L ((0, nxP f L s.1.2), s.2) by rw [suS]; show _ = tdS f L 25 0 99 (78 + tcl (nuV f L (s.2 5 - 1) ((0 : Int32), nxP f L s.1.2))) _; rw [e78]] at hT9
        refine A_goto 301 dX10_readNext_234 (by decide) ?_
        exact A_vret dX10_readNext_301 ⟨_, rfl, by rw [dsS, if_neg n167, if_neg n183, if_pos w199.2]; exact hT9⟩ ⟨by decide, by decide⟩
    · have w183 := is_y c183
      have hT := hT.tk hS hG1 w183
      have z1 := nf.2.1 w183.2
      refine A_aload_n dX10_readNext_186 rfl rfl ?_
      refine A_callVv dX10_readNext_187 m_X10_215 cb_X10_readCrop (As := []) rfl HM_at0 rfl (k_readCrop G (N := N1) hT g1 (by omega)) rfl ⟨by decide, by decide⟩ (Nat.le_of_ble_eq_true rfl) ⟨by decide, by decide⟩ (fun h187 hq => ?_)
      obtain ⟨m9, rfl, hT9⟩ := hq
      refine A_goto 301 dX10_readNext_190 (by decide) ?_
      exact A_vret dX10_readNext_301 ⟨_, rfl, by rw [dsS, if_neg n167, if_pos w183.2, g1, tcl_nI (by omega)]; exact hT9⟩ ⟨by decide, by decide⟩
  · have w167 := is_y c167
    have hT := hT.tk hS hG1 w167
    have z0 := nf.1 w167.2
    refine A_aload_n dX10_readNext_170 rfl rfl ?_
    refine A_callVv dX10_readNext_171 m_X10_212 cb_X10_readVillage (As := []) rfl HM_at0 rfl (k_readVillage G (N := N0) hT g0 (by omega)) rfl ⟨by decide, by decide⟩ (Nat.le_of_ble_eq_true rfl) ⟨by decide, by decide⟩ (fun h171 hq => ?_)
    obtain ⟨m9, rfl, hT9⟩ := hq
    refine A_goto 301 dX10_readNext_174 (by decide) ?_
    exact A_vret dX10_readNext_301 ⟨_, rfl, by rw [dsS, if_pos w167.2, g0, tcl_nI (by omega)]; exact hT9⟩ ⟨by decide, by decide⟩