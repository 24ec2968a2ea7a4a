/-! a LINE kept -/
theorem addF_l {L W N l : Nat} {c : CT} (h : l ≠ L + 1) (h2 : l ≠ L) : addF L W N c l = c l := forR_keep (fun z : CT => z l = c l) (fun i z hz => by rw [adS, put_ne h]; exact hz) _ _ _ (put_ne h2)
theorem addF_n {L W N : Nat} {c : CT} (h : c L 2 = nI N) : addF L W N c L 2 = nI (N + 1) := by
  have e : addF L W N c L = (put c L 2 (c L 2 + 1)) L := forR_keep (fun z : CT => z L = (put c L 2 (c L 2 + 1)) L) (fun i z hz => by rw [adS, put_ne (by omega)]; exact hz) _ _ _ rfl
  rw [e, put_kk, h]
  exact nI_1 N
def kp0 (c : CT) : CT := put c 16 5 (c 16 5 + 1)
def keepF (nv nc nf nl : Nat) (t : Int32) (c : CT) : CT :=
  if t = 0 then put (put (put (kp0 c) 16 6 (c 4 0)) 16 7 (c 4 1)) 16 8 (c 4 2)
  else if t = 1 then put (addF 17 5 nv (kp0 c)) 18 (5 * nv + 4) 0
  else if t = 2 then addF 19 5 nc (kp0 c)
  else if t = 3 then if inI (c 4 0) 30 = 0 then kp0 c else put (kp0 c) 25 (tcl (c 4 0)) (c 4 1)
  else if t = 4 then put (addF 21 4 nf (kp0 c)) 22 (4 * nf + 3) (-1)
  else if t = 5 then addF 23 5 nl (kp0 c)
  else put (kp0 c) 18 (5 * tcl (c 4 0) + 4) (c 4 1)
theorem c_keep (G : GX) {b : Nat} {c : CT} {co : Nat → Nat → Option Nat} {r : Nat → Option AE} {n : Nat} {nv nc nf nl : Nat} {t : Int32} (hv : c 17 2 = nI nv) (hc : c 19 2 = nI nc) (hf : c 21 2 = nI nf) (hl : c 23 2 = nI nl) (hv6 : nv ≤ 6) (h1 : t = 1 → nv < 6) (h2 : t = 2 → nc < 8) (h4 : t = 4 → nf < 3) (h5 : t = 5 → nl < 8) (h6 : ¬ t = 0 → ¬ t = 1 → ¬ t = 2 → ¬ t = 3 → ¬ t = 4 → ¬ t = 5 → ∃ v, v < nv ∧ c 4 0 = nI v) : MA G 2 yX4_keep cX4_keep 3 none 0 0 [.ref (b + 3), .ref (b + 16), .int t] (HC b c co r n) (qV fun h1 => h1 = HC b (keepF nv nc nf nl t c) co r n) := by
  refine MA.of (own := RX4) false [some (.ref (b + 3)), some (.ref (b + 16)), some (.int t)] (by decide +kernel) rfl (fun h => by cases h) (Nat.le_of_ble_eq_true rfl) rfl (fun X => ?_)
  refine A_aload_n dX4_keep_0 rfl rfl ?_
  refine A_dup dX4_keep_1 rfl ?_
  refine A_get dX4_keep_2 f_X4_62 (HC_at (by decide)) rfl ?_
  refine A_iconst (v := 1) dX4_keep_5 (by decide) ?_
  refine A_iadd dX4_keep_6 ?_
  refine A_putC 5 dX4_keep_7 p_X4_62 (by decide) rfl (Nat.le_of_ble_eq_true rfl) rfl ?_
  obtain ⟨z, ez⟩ : ∃ z, kp0 c = z := ⟨_, rfl⟩
  refine WA_h (congrArg (fun y => HC b y co r n) (show _ = z from ez)) ?_
  refine A_iload_n dX4_keep_10 rfl rfl ?_
  by_cases s11_0 : t = 0
  · subst s11_0
    refine A_tableIn 48 dX4_keep_11 (by decide) (by decide) rfl (by decide) ?_
    refine A_aload_n dX4_keep_48 rfl rfl ?_
    refine A_aload_n dX4_keep_49 rfl rfl ?_
    refine A_get dX4_keep_50 f_X4_11 (HC_at (by decide)) rfl ?_
    refine A_iconst (v := 0) dX4_keep_53 (by decide) ?_
    refine A_iald dX4_keep_54 (HC_at (by decide)) (show vp_in (nI 0) 5 from vp_in_nI (by decide) (by decide)) ?_
    refine A_eqI (y := c 4 0) (by rw [← ez]; rfl) ?_
    refine A_putC 6 dX4_keep_55 p_X4_151 (by decide) rfl (Nat.le_of_ble_eq_true rfl) rfl ?_
    refine A_aload_n dX4_keep_58 rfl rfl ?_
    refine A_aload_n dX4_keep_59 rfl rfl ?_
    refine A_get dX4_keep_60 f_X4_11 (HC_at (by decide)) rfl ?_
    refine A_iconst (v := 1) dX4_keep_63 (by decide) ?_
    refine A_iald dX4_keep_64 (HC_at (by decide)) (show vp_in (nI 1) 5 from vp_in_nI (by decide) (by decide)) ?_
    refine A_eqI (y := c 4 1) (by rw [← ez]; rfl) ?_
    refine A_putC 7 dX4_keep_65 p_X4_157 (by decide) rfl (Nat.le_of_ble_eq_true rfl) rfl ?_
    refine A_aload_n dX4_keep_68 rfl rfl ?_
    refine A_aload_n dX4_keep_69 rfl rfl ?_
    refine A_get dX4_keep_70 f_X4_11 (HC_at (by decide)) rfl ?_
    refine A_iconst (v := 2) dX4_keep_73 (by decide) ?_
    refine A_iald dX4_keep_74 (HC_at (by decide)) (show vp_in (nI 2) 5 from vp_in_nI (by decide) (by decide)) ?_
    refine A_eqI (y := c 4 2) (by rw [← ez]; rfl) ?_
    refine A_putC 8 dX4_keep_75 p_X4_160 (by decide) rfl (Nat.le_of_ble_eq_true rfl) rfl ?_
    refine A_goto 212 dX4_keep_78 (by decide) ?_
    exact A_vret dX4_keep_212 (by rw [keepF, if_pos rfl, ez]) ⟨by decide, by decide⟩
  by_cases s11_1 : t = 1
  · subst s11_1
    refine A_tableIn 81 dX4_keep_11 (by decide) (by decide) rfl (by decide) ?_
    refine A_aload_n dX4_keep_81 rfl rfl ?_
    refine A_get dX4_keep_82 f_X4_133 (HC_at (by decide)) rfl ?_
    refine A_aload_n dX4_keep_85 rfl rfl ?_
    refine A_get dX4_keep_86 f_X4_11 (HC_at (by decide)) rfl ?_
    refine A_callVv dX4_keep_89 m_X4_163 cb_X3_add (As := [_]) rfl (HC_at (by decide)) rfl (c_add17 G (N := nv) (by rw [← ez, kp0, put_ne (by decide)]; exact hv) (h1 rfl)) rfl ⟨by decide, by decide⟩ (Nat.le_of_ble_eq_true rfl) ⟨by decide, by decide⟩ (fun h89 hq => ?_)
    obtain rfl := hq
    have hlt := h1 rfl
    have hd : addF 17 5 nv z 17 2 = nI (nv + 1) := addF_n (by rw [← ez, kp0, put_ne (by decide)]; exact hv)
    obtain ⟨d, ed⟩ : ∃ d, addF 17 5 nv z = d := ⟨_, rfl⟩
    rw [ed] at hd ⊢
    refine A_aload_n dX4_keep_92 rfl rfl ?_
    refine A_get dX4_keep_93 f_X4_133 (HC_at (by decide)) rfl ?_
    refine A_aload_n dX4_keep_96 rfl rfl ?_
    refine A_get dX4_keep_97 f_X4_133 (HC_at (by decide)) rfl ?_
    refine A_get dX4_keep_100 f_X4_154 (HC_at (by decide)) rfl ?_
    refine A_iconst (v := 1) dX4_keep_103 (by decide) ?_
    refine A_isub dX4_keep_104 ?_
    refine A_eqI (y := nI nv) (by rw [hd]; exact nI_pred nv) ?_
    refine A_iconst (v := 4) dX4_keep_105 (by decide) ?_
    refine A_iconst (v := 0) dX4_keep_106 (by decide) ?_
    refine A_callVv dX4_keep_107 m_X4_167 cb_X3_put (As := [_, _, _]) rfl (HC_at (by decide)) rfl (c_put G (HC b d co r n) (b + 17) (b + 18) (nI 6) (nI 5) (nI (nv + 1)) 30 (d 18) (nI nv) (nI 4) (0) ((HC_at (by decide)).trans (by rw [← hd]; rfl)) (HC_at (by decide)) (fun _ _ _ _ => by rw [pk_mul, nI_add]; exact vp_in_nI (by omega) (by decide))) rfl ⟨by decide, by decide⟩ (Nat.le_of_ble_eq_true rfl) ⟨by decide, by decide⟩ (fun h107 hq => ?_)
    rw [rPut_in (by omega) (by decide) (by omega) (by decide), HC_up (k := 18) (g := upd (d 18) (5 * nv + 4) (0)) (e := aI 30 (upd (d 18) (5 * nv + 4) (0))) (by decide) rfl] at hq
    obtain rfl := hq
    refine A_goto 212 dX4_keep_110 (by decide) ?_
    exact A_vret dX4_keep_212 (by rw [keepF, if_neg (by decide), if_pos rfl, ez, ed]; rfl) ⟨by decide, by decide⟩
  by_cases s11_2 : t = 2
  · subst s11_2
    refine A_tableIn 113 dX4_keep_11 (by decide) (by decide) rfl (by decide) ?_
    refine A_aload_n dX4_keep_113 rfl rfl ?_
    refine A_get dX4_keep_114 f_X4_142 (HC_at (by decide)) rfl ?_
    refine A_aload_n dX4_keep_117 rfl rfl ?_
    refine A_get dX4_keep_118 f_X4_11 (HC_at (by decide)) rfl ?_
    refine A_callVv dX4_keep_121 m_X4_163 cb_X3_add (As := [_]) rfl (HC_at (by decide)) rfl (c_add19 G (N := nc) (by rw [← ez, kp0, put_ne (by decide)]; exact hc) (h2 rfl)) rfl ⟨by decide, by decide⟩ (Nat.le_of_ble_eq_true rfl) ⟨by decide, by decide⟩ (fun h121 hq => ?_)
    obtain rfl := hq
    have hlt := h2 rfl
    have hd : addF 19 5 nc z 19 2 = nI (nc + 1) := addF_n (by rw [← ez, kp0, put_ne (by decide)]; exact hc)
    obtain ⟨d, ed⟩ : ∃ d, addF 19 5 nc z = d := ⟨_, rfl⟩
    rw [ed] at hd ⊢
    refine A_goto 212 dX4_keep_124 (by decide) ?_
    exact A_vret dX4_keep_212 (by rw [keepF, if_neg (by decide), if_neg (by decide), if_pos rfl, ez, ed]) ⟨by decide, by decide⟩
  by_cases s11_3 : t = 3
  · subst s11_3
    refine A_tableIn 127 dX4_keep_11 (by decide) (by decide) rfl (by decide) ?_
    refine A_aload_n dX4_keep_127 rfl rfl ?_
    refine A_aload_n dX4_keep_128 rfl rfl ?_
    refine A_get dX4_keep_129 f_X4_11 (HC_at (by decide)) rfl ?_
    refine A_iconst (v := 0) dX4_keep_132 (by decide) ?_
    refine A_iald dX4_keep_133 (HC_at (by decide)) (show vp_in (nI 0) 5 from vp_in_nI (by decide) (by decide)) ?_
    refine A_eqI (y := c 4 0) (by rw [← ez]; rfl) ?_
    refine A_aload_n dX4_keep_134 rfl rfl ?_
    refine A_get dX4_keep_135 f_X4_11 (HC_at (by decide)) rfl ?_
    refine A_iconst (v := 1) dX4_keep_138 (by decide) ?_
    refine A_iald dX4_keep_139 (HC_at (by decide)) (show vp_in (nI 1) 5 from vp_in_nI (by decide) (by decide)) ?_
    refine A_eqI (y := c 4 1) (by rw [← ez]; rfl) ?_
    refine A_callVv dX4_keep_140 m_X4_171 cb_X2_shines (As := [_, _]) rfl (HC_at (by decide)) rfl (c_shines G) rfl ⟨by decide, by decide⟩ (Nat.le_of_ble_eq_true rfl) ⟨by decide, by decide⟩ (fun h140 hq => ?_)
    obtain rfl := hq
    refine A_goto 212 dX4_keep_143 (by decide) ?_
    exact A_vret dX4_keep_212 (by have e : keepF nv nc nf nl 3 c = (if inI (c 4 0) 30 = 0 then kp0 c else put (kp0 c) 25 (tcl (c 4 0)) (c 4 1)) := rfl; rw [e, ez]) ⟨by decide, by decide⟩
  by_cases s11_4 : t = 4
  · subst s11_4
    refine A_tableIn 146 dX4_keep_11 (by decide) (by decide) rfl (by decide) ?_
    refine A_aload_n dX4_keep_146 rfl rfl ?_
    refine A_get dX4_keep_147 f_X4_145 (HC_at (by decide)) rfl ?_
    refine A_aload_n dX4_keep_150 rfl rfl ?_
    refine A_get dX4_keep_151 f_X4_11 (HC_at (by decide)) rfl ?_
    refine A_callVv dX4_keep_154 m_X4_163 cb_X3_add (As := [_]) rfl (HC_at (by decide)) rfl (c_add21 G (N := nf) (by rw [← ez, kp0, put_ne (by decide)]; exact hf) (h4 rfl)) rfl ⟨by decide, by decide⟩ (Nat.le_of_ble_eq_true rfl) ⟨by decide, by decide⟩ (fun h154 hq => ?_)
    obtain rfl := hq
    have hlt := h4 rfl
    have hd : addF 21 4 nf z 21 2 = nI (nf + 1) := addF_n (by rw [← ez, kp0, put_ne (by decide)]; exact hf)
    obtain ⟨d, ed⟩ : ∃ d, addF 21 4 nf z = d := ⟨_, rfl⟩
    rw [ed] at hd ⊢
    refine A_aload_n dX4_keep_157 rfl rfl ?_
    refine A_get dX4_keep_158 f_X4_145 (HC_at (by decide)) rfl ?_
    refine A_aload_n dX4_keep_161 rfl rfl ?_
    refine A_get dX4_keep_162 f_X4_145 (HC_at (by decide)) rfl ?_
    refine A_get dX4_keep_165 f_X4_154 (HC_at (by decide)) rfl ?_
    refine A_iconst (v := 1) dX4_keep_168 (by decide) ?_
    refine A_isub dX4_keep_169 ?_
    refine A_eqI (y := nI nf) (by rw [hd]; exact nI_pred nf) ?_
    refine A_iconst (v := 3) dX4_keep_170 (by decide) ?_
    refine A_iconst (v := (-1)) dX4_keep_171 (by decide) ?_
    refine A_callVv dX4_keep_172 m_X4_167 cb_X3_put (As := [_, _, _]) rfl (HC_at (by decide)) rfl (c_put G (HC b d co r n) (b + 21) (b + 22) (nI 3) (nI 4) (nI (nf + 1)) 12 (d 22) (nI nf) (nI 3) (-1) ((HC_at (by decide)).trans (by rw [← hd]; rfl)) (HC_at (by decide)) (fun _ _ _ _ => by rw [pk_mul, nI_add]; exact vp_in_nI (by omega) (by decide))) rfl ⟨by decide, by decide⟩ (Nat.le_of_ble_eq_true rfl) ⟨by decide, by decide⟩ (fun h172 hq => ?_)
    rw [rPut_in (by omega) (by decide) (by omega) (by decide), HC_up (k := 22) (g := upd (d 22) (4 * nf + 3) (-1)) (e := aI 12 (upd (d 22) (4 * nf + 3) (-1))) (by decide) rfl] at hq
    obtain rfl := hq
    refine A_goto 212 dX4_keep_175 (by decide) ?_
    exact A_vret dX4_keep_212 (by rw [keepF, if_neg (by decide), if_neg (by decide), if_neg (by decide), if_neg (by decide), if_pos rfl, ez, ed]; rfl) ⟨by decide, by decide⟩
  by_cases s11_5 : t = 5
  · subst s11_5
    refine A_tableIn 178 dX4_keep_11 (by decide) (by decide) rfl (by decide) ?_
    refine A_aload_n dX4_keep_178 rfl rfl ?_
    refine A_get dX4_keep_179 f_X4_148 (HC_at (by decide)) rfl ?_
    refine A_aload_n dX4_keep_182 rfl rfl ?_
    refine A_get dX4_keep_183 f_X4_11 (HC_at (by decide)) rfl ?_
    refine A_callVv dX4_keep_186 m_X4_163 cb_X3_add (As := [_]) rfl (HC_at (by decide)) rfl (c_add23 G (N := nl) (by rw [← ez, kp0, put_ne (by decide)]; exact hl) (h5 rfl)) rfl ⟨by decide, by decide⟩ (Nat.le_of_ble_eq_true rfl) ⟨by decide, by decide⟩ (fun h186 hq => ?_)
    obtain rfl := hq
    have hlt := h5 rfl
    have hd : addF 23 5 nl z 23 2 = nI (nl + 1) := addF_n (by rw [← ez, kp0, put_ne (by decide)]; exact hl)
    obtain ⟨d, ed⟩ : ∃ d, addF 23 5 nl z = d := ⟨_, rfl⟩
    rw [ed] at hd ⊢
    refine A_goto 212 dX4_keep_189 (by decide) ?_
    exact A_vret dX4_keep_212 (by rw [keepF, if_neg (by decide), if_neg (by decide), if_neg (by decide), if_neg (by decide), if_neg (by decide), if_pos rfl, ez, ed]) ⟨by decide, by decide⟩
  refine A_tableOut 192 dX4_keep_11 (sw_out6 s11_0 s11_1 s11_2 s11_3 s11_4 s11_5) (by decide) ?_
  obtain ⟨v, hv3, hx⟩ := h6 s11_0 s11_1 s11_2 s11_3 s11_4 s11_5
  have hd : z 17 2 = nI nv := by rw [← ez, kp0, put_ne (by decide)]; exact hv
  refine A_aload_n dX4_keep_192 rfl rfl ?_
  refine A_get dX4_keep_193 f_X4_133 (HC_at (by decide)) rfl ?_
  refine A_aload_n dX4_keep_196 rfl rfl ?_
  refine A_get dX4_keep_197 f_X4_11 (HC_at (by decide)) rfl ?_
  refine A_iconst (v := 0) dX4_keep_200 (by decide) ?_
  refine A_iald dX4_keep_201 (HC_at (by decide)) (show vp_in (nI 0) 5 from vp_in_nI (by decide) (by decide)) ?_
  refine A_eqI (y := nI v) (by rw [← ez]; exact hx) ?_
  refine A_iconst (v := 4) dX4_keep_202 (by decide) ?_
  refine A_aload_n dX4_keep_203 rfl rfl ?_
  refine A_get dX4_keep_204 f_X4_11 (HC_at (by decide)) rfl ?_
  refine A_iconst (v := 1) dX4_keep_207 (by decide) ?_
  refine A_iald dX4_keep_208 (HC_at (by decide)) (show vp_in (nI 1) 5 from vp_in_nI (by decide) (by decide)) ?_
  refine A_eqI (y := c 4 1) (by rw [← ez]; rfl) ?_
  refine A_callVv dX4_keep_209 m_X4_167 cb_X3_put (As := [_, _, _]) rfl (HC_at (by decide)) rfl (c_put G (HC b z co r n) (b + 17) (b + 18) (nI 6) (nI 5) (nI (nv)) 30 (z 18) (nI v) (nI 4) (c 4 1) ((HC_at (by decide)).trans (by rw [← hd]; rfl)) (HC_at (by decide)) (fun _ _ _ _ => by rw [pk_mul, nI_add]; exact vp_in_nI (by omega) (by decide))) rfl ⟨by decide, by decide⟩ (Nat.le_of_ble_eq_true rfl) ⟨by decide, by decide⟩ (fun h209 hq => ?_)
  rw [rPut_in (by omega) (by decide) (by omega) (by decide), HC_up (k := 18) (g := upd (z 18) (5 * v + 4) (c 4 1)) (e := aI 30 (upd (z 18) (5 * v + 4) (c 4 1))) (by decide) rfl] at hq
  obtain rfl := hq
  exact A_vret dX4_keep_212 (by rw [keepF, if_neg s11_0, if_neg s11_1, if_neg s11_2, if_neg s11_3, if_neg s11_4, if_neg s11_5, ez, hx, tcl_nI (by omega)]; rfl) ⟨by decide, by decide⟩
