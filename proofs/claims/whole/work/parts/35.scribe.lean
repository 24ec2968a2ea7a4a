/-! THE SCRIBE: bounds, faults; the draft cleared -/
theorem sw_out5 {x : Int32} (h1 : ¬ x = 1) (h2 : ¬ x = 2) (h3 : ¬ x = 3) (h4 : ¬ x = 4) (h5 : ¬ x = 5) : x.toInt < 1 ∨ 5 < x.toInt := by
  have e1 : x.toInt ≠ 1 := fun e => h1 (Int32.toInt_inj.mp e)
  have e2 : x.toInt ≠ 2 := fun e => h2 (Int32.toInt_inj.mp e)
  have e3 : x.toInt ≠ 3 := fun e => h3 (Int32.toInt_inj.mp e)
  have e4 : x.toInt ≠ 4 := fun e => h4 (Int32.toInt_inj.mp e)
  have e5 : x.toInt ≠ 5 := fun e => h5 (Int32.toInt_inj.mp e)
  omega
def failF (c : CT) (k : Int32) : CT := put (put c 3 3 k) 3 4 (c 5 2)
def lastW (c : CT) : Int32 := c 16 6 - 1
def lastV (c : CT) : Int32 := c 17 2 - 1
def most0 (c : CT) (k : Int32) : Int32 := if k = 0 then 30 else if k = 1 then 100 else c 4 0 - 1
def most1 (c : CT) (k : Int32) : Int32 := if k = 0 then 9999 else if k = 1 then c 4 0 else 99
def most2 (c : CT) (k : Int32) : Int32 := if k = 0 then lastV c else if 2 < k then lastW c else 99
def most3 (c : CT) (k : Int32) : Int32 := if k = 0 then lastW c else 99
def most4 (c : CT) (k : Int32) : Int32 := if k = 0 then lastW c else if k = 1 then 9999 else 100
def most5 (c : CT) (k : Int32) : Int32 := if 1 < k then if k = 2 then 9999 else lastW c else lastV c
def most6 (c : CT) (k : Int32) : Int32 := if k = 0 then lastV c else 9999
def mostF (c : CT) (t k : Int32) : Int32 := if t = 0 then most0 c k else if t = 1 then most1 c k else if t = 2 then most2 c k else if t = 3 then most3 c k else if t = 4 then most4 c k else if t = 5 then most5 c k else most6 c k
def fuI (c : CT) (l : Nat) (mx : Int32) : Int32 := if mx ≤ c l 2 then 1 else 0
def fullF (c : CT) (t : Int32) : Int32 := if t = 1 then fuI c 17 6 else if t = 2 then fuI c 19 8 else if t = 3 then 0 else if t = 4 then fuI c 21 3 else if t = 5 then fuI c 23 8 else 0
def clrF (c : CT) : CT := put (put (put (put (st1 (put (put (put (put c 17 2 0) 19 2 0) 21 2 0) 23 2 0) 25 (fun _ => 0)) 16 5 0) 16 6 0) 16 7 0) 16 8 0
theorem c_fails (G : GX) {b : Nat} {c : CT} {co : Nat → Nat → Option Nat} {r : Nat → Option AE} {n : Nat} {k : Int32} : MA G 0 yX4_fails cX4_fails 2 (some .boolean) 0 0 [.ref (b + 3), .int k] (HC b c co r n) (qI fun x h1 => x = 0 ∧ h1 = HC b (failF c k) co r n) := by
  refine MA.of (own := RX4) false [some (.ref (b + 3)), some (.int k)] (by decide +kernel) rfl (fun h => by cases h) (Nat.le_of_ble_eq_true rfl) rfl (fun X => ?_)
  refine A_aload_n dX4_fails_0 rfl rfl ?_
  refine A_iload_n dX4_fails_1 rfl rfl ?_
  refine A_putC 3 dX4_fails_2 p_X4_37 (by decide) rfl (Nat.le_of_ble_eq_true rfl) rfl ?_
  refine A_aload_n dX4_fails_5 rfl rfl ?_
  refine A_aload_n dX4_fails_6 rfl rfl ?_
  refine A_get dX4_fails_7 f_X4_24 (HC_at (by decide)) rfl ?_
  refine A_get dX4_fails_10 f_X4_116 (HC_at (by decide)) rfl ?_
  refine A_putC 4 dX4_fails_13 p_X4_28 (by decide) rfl (Nat.le_of_ble_eq_true rfl) rfl ?_
  refine A_iconst (v := 0) dX4_fails_16 (by decide) ?_
  exact A_zret dX4_fails_17 rfl ⟨rfl, rfl⟩ ⟨by decide, by decide⟩

theorem c_lineFull (G : GX) {b : Nat} {c : CT} {co : Nat → Nat → Option Nat} {r : Nat → Option AE} {n : Nat} {t : Int32} : MA G 1 yX4_isFull cX4_isFull 2 (some .boolean) 0 0 [.ref (b + 16), .int t] (HC b c co r n) (qI fun x h1 => x = fullF c t ∧ h1 = HC b c co r n) := by
  refine MA.of (own := RX4) false [some (.ref (b + 16)), some (.int t)] (by decide +kernel) rfl (fun h => by cases h) (Nat.le_of_ble_eq_true rfl) rfl (fun X => ?_)
  refine A_iload_n dX4_isFull_0 rfl rfl ?_
  by_cases s1_0 : t = 1
  · subst s1_0
    refine A_tableIn 36 dX4_isFull_1 (by decide) (by decide) rfl (by decide) ?_
    refine A_aload_n dX4_isFull_36 rfl rfl ?_
    refine A_get dX4_isFull_37 f_X4_133 (HC_at (by decide)) rfl ?_
    refine A_callVi dX4_isFull_40 m_X4_137 cb_X3_isFull (As := []) rfl (HC_at (by decide)) rfl (c_isFull G (HC b c co r n) (b + 17) (b + 18) (nI 6) 5 (c 17 2) (HC_at (k := 17) (by decide))) rfl ⟨by decide, by decide⟩ (Nat.le_of_ble_eq_true rfl) ⟨by decide, by decide⟩ (fun x40 h40 hq => ?_)
    obtain ⟨rfl, rfl⟩ := hq
    exact A_zret dX4_isFull_43 (by split <;> rfl) ⟨rfl, rfl⟩ ⟨by decide, by decide⟩
  by_cases s1_1 : t = 2
  · subst s1_1
    refine A_tableIn 44 dX4_isFull_1 (by decide) (by decide) rfl (by decide) ?_
    refine A_aload_n dX4_isFull_44 rfl rfl ?_
    refine A_get dX4_isFull_45 f_X4_142 (HC_at (by decide)) rfl ?_
    refine A_callVi dX4_isFull_48 m_X4_137 cb_X3_isFull (As := []) rfl (HC_at (by decide)) rfl (c_isFull G (HC b c co r n) (b + 19) (b + 20) (nI 8) 5 (c 19 2) (HC_at (k := 19) (by decide))) rfl ⟨by decide, by decide⟩ (Nat.le_of_ble_eq_true rfl) ⟨by decide, by decide⟩ (fun x48 h48 hq => ?_)
    obtain ⟨rfl, rfl⟩ := hq
    exact A_zret dX4_isFull_51 (by split <;> rfl) ⟨rfl, rfl⟩ ⟨by decide, by decide⟩
  by_cases s1_2 : t = 3
  · subst s1_2
    refine A_tableIn 68 dX4_isFull_1 (by decide) (by decide) rfl (by decide) ?_
    refine A_iconst (v := 0) dX4_isFull_68 (by decide) ?_
    exact A_zret dX4_isFull_69 rfl ⟨by first | rfl | rw [fullF, if_neg s1_0, if_neg s1_1, if_neg s1_2, if_neg s1_3, if_neg s1_4], rfl⟩ ⟨by decide, by decide⟩
  by_cases s1_3 : t = 4
  · subst s1_3
    refine A_tableIn 52 dX4_isFull_1 (by decide) (by decide) rfl (by decide) ?_
    refine A_aload_n dX4_isFull_52 rfl rfl ?_
    refine A_get dX4_isFull_53 f_X4_145 (HC_at (by decide)) rfl ?_
    refine A_callVi dX4_isFull_56 m_X4_137 cb_X3_isFull (As := []) rfl (HC_at (by decide)) rfl (c_isFull G (HC b c co r n) (b + 21) (b + 22) (nI 3) 4 (c 21 2) (HC_at (k := 21) (by decide))) rfl ⟨by decide, by decide⟩ (Nat.le_of_ble_eq_true rfl) ⟨by decide, by decide⟩ (fun x56 h56 hq => ?_)
    obtain ⟨rfl, rfl⟩ := hq
    exact A_zret dX4_isFull_59 (by split <;> rfl) ⟨rfl, rfl⟩ ⟨by decide, by decide⟩
  by_cases s1_4 : t = 5
  · subst s1_4
    refine A_tableIn 60 dX4_isFull_1 (by decide) (by decide) rfl (by decide) ?_
    refine A_aload_n dX4_isFull_60 rfl rfl ?_
    refine A_get dX4_isFull_61 f_X4_148 (HC_at (by decide)) rfl ?_
    refine A_callVi dX4_isFull_64 m_X4_137 cb_X3_isFull (As := []) rfl (HC_at (by decide)) rfl (c_isFull G (HC b c co r n) (b + 23) (b + 24) (nI 8) 5 (c 23 2) (HC_at (k := 23) (by decide))) rfl ⟨by decide, by decide⟩ (Nat.le_of_ble_eq_true rfl) ⟨by decide, by decide⟩ (fun x64 h64 hq => ?_)
    obtain ⟨rfl, rfl⟩ := hq
    exact A_zret dX4_isFull_67 (by split <;> rfl) ⟨rfl, rfl⟩ ⟨by decide, by decide⟩
  refine A_tableOut 68 dX4_isFull_1 (sw_out5 s1_0 s1_1 s1_2 s1_3 s1_4) (by decide) ?_
  refine A_iconst (v := 0) dX4_isFull_68 (by decide) ?_
  exact A_zret dX4_isFull_69 rfl ⟨by first | rfl | rw [fullF, if_neg s1_0, if_neg s1_1, if_neg s1_2, if_neg s1_3, if_neg s1_4], rfl⟩ ⟨by decide, by decide⟩

theorem c_most (G : GX) {b : Nat} {c : CT} {co : Nat → Nat → Option Nat} {r : Nat → Option AE} {n : Nat} {t k : Int32} : MA G 0 yX4_most cX4_most 6 (some .int) 0 0 [.ref (b + 3), .ref (b + 16), .int t, .int k] (HC b c co r n) (qI fun x h1 => x = mostF c t k ∧ h1 = HC b c co r n) := by
  refine MA.of (own := RX4) false [some (.ref (b + 3)), some (.ref (b + 16)), some (.int t), some (.int k), none, none] (by decide +kernel) rfl (fun h => by cases h) (Nat.le_of_ble_eq_true rfl) rfl (fun X => ?_)
  refine A_aload_n dX4_most_0 rfl rfl ?_
  refine A_get dX4_most_1 f_X4_151 (HC_at (by decide)) rfl ?_
  refine A_iconst (v := 1) dX4_most_4 (by decide) ?_
  refine A_isub dX4_most_5 ?_
  refine A_istore (lv1 := [_, _, _, _, _, _]) dX4_most_6 (Nat.le_of_ble_eq_true rfl) rfl rfl ?_
  refine A_aload_n dX4_most_8 rfl rfl ?_
  refine A_get dX4_most_9 f_X4_133 (HC_at (by decide)) rfl ?_
  refine A_get dX4_most_12 f_X4_154 (HC_at (by decide)) rfl ?_
  refine A_iconst (v := 1) dX4_most_15 (by decide) ?_
  refine A_isub dX4_most_16 ?_
  refine A_istore (lv1 := [_, _, _, _, _, _]) dX4_most_17 (Nat.le_of_ble_eq_true rfl) rfl rfl ?_
  refine A_iload_n dX4_most_19 rfl rfl ?_
  by_cases s20_0 : t = 0
  · subst s20_0
    refine A_tableIn 60 dX4_most_20 (by decide) (by decide) rfl (by decide) ?_
    refine A_iload_n dX4_most_60 rfl rfl ?_
    refine A_if_ne 69 dX4_most_61 (by decide) (fun c61 => ?_) (fun c61 => ?_)
    · refine A_iload_n dX4_most_69 rfl rfl ?_
      refine A_iconst (v := 1) dX4_most_70 (by decide) ?_
      refine A_icmp_ne 79 dX4_most_71 (by decide) (fun c71 => ?_) (fun c71 => ?_)
      · refine A_aload_n dX4_most_79 rfl rfl ?_
        refine A_get dX4_most_80 f_X4_11 (HC_at (by decide)) rfl ?_
        refine A_iconst (v := 0) dX4_most_83 (by decide) ?_
        refine A_iald dX4_most_84 (HC_at (by decide)) (show vp_in (nI 0) 5 from vp_in_nI (by decide) (by decide)) ?_
        refine A_eqI (y := c 4 0) rfl ?_
        refine A_iconst (v := 1) dX4_most_85 (by decide) ?_
        refine A_isub dX4_most_86 ?_
        exact A_iret dX4_most_87 ⟨by rw [mostF, if_pos rfl, most0, if_neg c61, if_neg c71], rfl⟩ ⟨by decide, by decide⟩
      · refine A_bipush (v := 100) dX4_most_74 (by decide) ?_
        refine A_goto 87 dX4_most_76 (by decide) ?_
        exact A_iret dX4_most_87 ⟨by rw [mostF, if_pos rfl, most0, if_neg c61, if_pos c71], rfl⟩ ⟨by decide, by decide⟩
    · refine A_bipush (v := 30) dX4_most_64 (by decide) ?_
      refine A_goto 87 dX4_most_66 (by decide) ?_
      exact A_iret dX4_most_87 ⟨by rw [mostF, if_pos rfl, most0, if_pos c61], rfl⟩ ⟨by decide, by decide⟩
  by_cases s20_1 : t = 1
  · subst s20_1
    refine A_tableIn 88 dX4_most_20 (by decide) (by decide) rfl (by decide) ?_
    refine A_iload_n dX4_most_88 rfl rfl ?_
    refine A_if_ne 98 dX4_most_89 (by decide) (fun c89 => ?_) (fun c89 => ?_)
    · refine A_iload_n dX4_most_98 rfl rfl ?_
      refine A_iconst (v := 1) dX4_most_99 (by decide) ?_
      refine A_icmp_ne 112 dX4_most_100 (by decide) (fun c100 => ?_) (fun c100 => ?_)
      · refine A_bipush (v := 99) dX4_most_112 (by decide) ?_
        exact A_iret dX4_most_114 ⟨by rw [mostF, if_neg (by decide), if_pos rfl, most1, if_neg c89, if_neg c100], rfl⟩ ⟨by decide, by decide⟩
      · refine A_aload_n dX4_most_103 rfl rfl ?_
        refine A_get dX4_most_104 f_X4_11 (HC_at (by decide)) rfl ?_
        refine A_iconst (v := 0) dX4_most_107 (by decide) ?_
        refine A_iald dX4_most_108 (HC_at (by decide)) (show vp_in (nI 0) 5 from vp_in_nI (by decide) (by decide)) ?_
        refine A_eqI (y := c 4 0) rfl ?_
        refine A_goto 114 dX4_most_109 (by decide) ?_
        exact A_iret dX4_most_114 ⟨by rw [mostF, if_neg (by decide), if_pos rfl, most1, if_neg c89, if_pos c100], rfl⟩ ⟨by decide, by decide⟩
    · refine A_sipush (v := 9999) dX4_most_92 (by decide) ?_
      refine A_goto 114 dX4_most_95 (by decide) ?_
      exact A_iret dX4_most_114 ⟨by rw [mostF, if_neg (by decide), if_pos rfl, most1, if_pos c89], rfl⟩ ⟨by decide, by decide⟩
  by_cases s20_2 : t = 2
  · subst s20_2
    refine A_tableIn 115 dX4_most_20 (by decide) (by decide) rfl (by decide) ?_
    refine A_iload_n dX4_most_115 rfl rfl ?_
    refine A_if_ne 124 dX4_most_116 (by decide) (fun c116 => ?_) (fun c116 => ?_)
    · refine A_iload_n dX4_most_124 rfl rfl ?_
      refine A_iconst (v := 2) dX4_most_125 (by decide) ?_
      refine A_icmp_gt 134 dX4_most_126 (by decide) (fun c126 => ?_) (fun c126 => ?_)
      · refine A_iload dX4_most_134 rfl ?_
        exact A_iret dX4_most_136 ⟨by rw [mostF, if_neg (by decide), if_neg (by decide), if_pos rfl, most2, if_neg c116, if_pos c126, lastW], rfl⟩ ⟨by decide, by decide⟩
      · refine A_bipush (v := 99) dX4_most_129 (by decide) ?_
        refine A_goto 136 dX4_most_131 (by decide) ?_
        exact A_iret dX4_most_136 ⟨by rw [mostF, if_neg (by decide), if_neg (by decide), if_pos rfl, most2, if_neg c116, if_neg c126], rfl⟩ ⟨by decide, by decide⟩
    · refine A_iload dX4_most_119 rfl ?_
      refine A_goto 136 dX4_most_121 (by decide) ?_
      exact A_iret dX4_most_136 ⟨by rw [mostF, if_neg (by decide), if_neg (by decide), if_pos rfl, most2, if_pos c116, lastV], rfl⟩ ⟨by decide, by decide⟩
  by_cases s20_3 : t = 3
  · subst s20_3
    refine A_tableIn 137 dX4_most_20 (by decide) (by decide) rfl (by decide) ?_
    refine A_iload_n dX4_most_137 rfl rfl ?_
    refine A_if_ne 146 dX4_most_138 (by decide) (fun c138 => ?_) (fun c138 => ?_)
    · refine A_bipush (v := 99) dX4_most_146 (by decide) ?_
      exact A_iret dX4_most_148 ⟨by rw [mostF, if_neg (by decide), if_neg (by decide), if_neg (by decide), if_pos rfl, most3, if_neg c138], rfl⟩ ⟨by decide, by decide⟩
    · refine A_iload dX4_most_141 rfl ?_
      refine A_goto 148 dX4_most_143 (by decide) ?_
      exact A_iret dX4_most_148 ⟨by rw [mostF, if_neg (by decide), if_neg (by decide), if_neg (by decide), if_pos rfl, most3, if_pos c138, lastW], rfl⟩ ⟨by decide, by decide⟩
  by_cases s20_4 : t = 4
  · subst s20_4
    refine A_tableIn 149 dX4_most_20 (by decide) (by decide) rfl (by decide) ?_
    refine A_iload_n dX4_most_149 rfl rfl ?_
    refine A_if_ne 158 dX4_most_150 (by decide) (fun c150 => ?_) (fun c150 => ?_)
    · refine A_iload_n dX4_most_158 rfl rfl ?_
      refine A_iconst (v := 1) dX4_most_159 (by decide) ?_
      refine A_icmp_ne 169 dX4_most_160 (by decide) (fun c160 => ?_) (fun c160 => ?_)
      · refine A_bipush (v := 100) dX4_most_169 (by decide) ?_
        exact A_iret dX4_most_171 ⟨by rw [mostF, if_neg (by decide), if_neg (by decide), if_neg (by decide), if_neg (by decide), if_pos rfl, most4, if_neg c150, if_neg c160], rfl⟩ ⟨by decide, by decide⟩
      · refine A_sipush (v := 9999) dX4_most_163 (by decide) ?_
        refine A_goto 171 dX4_most_166 (by decide) ?_
        exact A_iret dX4_most_171 ⟨by rw [mostF, if_neg (by decide), if_neg (by decide), if_neg (by decide), if_neg (by decide), if_pos rfl, most4, if_neg c150, if_pos c160], rfl⟩ ⟨by decide, by decide⟩
    · refine A_iload dX4_most_153 rfl ?_
      refine A_goto 171 dX4_most_155 (by decide) ?_
      exact A_iret dX4_most_171 ⟨by rw [mostF, if_neg (by decide), if_neg (by decide), if_neg (by decide), if_neg (by decide), if_pos rfl, most4, if_pos c150, lastW], rfl⟩ ⟨by decide, by decide⟩
  by_cases s20_5 : t = 5
  · subst s20_5
    refine A_tableIn 172 dX4_most_20 (by decide) (by decide) rfl (by decide) ?_
    refine A_iload_n dX4_most_172 rfl rfl ?_
    refine A_iconst (v := 1) dX4_most_173 (by decide) ?_
    refine A_icmp_gt 182 dX4_most_174 (by decide) (fun c174 => ?_) (fun c174 => ?_)
    · refine A_iload_n dX4_most_182 rfl rfl ?_
      refine A_iconst (v := 2) dX4_most_183 (by decide) ?_
      refine A_icmp_ne 193 dX4_most_184 (by decide) (fun c184 => ?_) (fun c184 => ?_)
      · refine A_iload dX4_most_193 rfl ?_
        exact A_iret dX4_most_195 ⟨by rw [mostF, if_neg (by decide), if_neg (by decide), if_neg (by decide), if_neg (by decide), if_neg (by decide), if_pos rfl, most5, if_pos c174, if_neg c184, lastW], rfl⟩ ⟨by decide, by decide⟩
      · refine A_sipush (v := 9999) dX4_most_187 (by decide) ?_
        refine A_goto 195 dX4_most_190 (by decide) ?_
        exact A_iret dX4_most_195 ⟨by rw [mostF, if_neg (by decide), if_neg (by decide), if_neg (by decide), if_neg (by decide), if_neg (by decide), if_pos rfl, most5, if_pos c174, if_pos c184], rfl⟩ ⟨by decide, by decide⟩
    · refine A_iload dX4_most_177 rfl ?_
      refine A_goto 195 dX4_most_179 (by decide) ?_
      exact A_iret dX4_most_195 ⟨by rw [mostF, if_neg (by decide), if_neg (by decide), if_neg (by decide), if_neg (by decide), if_neg (by decide), if_pos rfl, most5, if_neg c174, lastV], rfl⟩ ⟨by decide, by decide⟩
  refine A_tableOut 196 dX4_most_20 (sw_out6 s20_0 s20_1 s20_2 s20_3 s20_4 s20_5) (by decide) ?_
  refine A_iload_n dX4_most_196 rfl rfl ?_
  refine A_if_ne 205 dX4_most_197 (by decide) (fun c197 => ?_) (fun c197 => ?_)
  · refine A_sipush (v := 9999) dX4_most_205 (by decide) ?_
    exact A_iret dX4_most_208 ⟨by rw [mostF, if_neg s20_0, if_neg s20_1, if_neg s20_2, if_neg s20_3, if_neg s20_4, if_neg s20_5, most6, if_neg c197], rfl⟩ ⟨by decide, by decide⟩
  · refine A_iload dX4_most_200 rfl ?_
    refine A_goto 208 dX4_most_202 (by decide) ?_
    exact A_iret dX4_most_208 ⟨by rw [mostF, if_neg s20_0, if_neg s20_1, if_neg s20_2, if_neg s20_3, if_neg s20_4, if_neg s20_5, most6, if_pos c197, lastV], rfl⟩ ⟨by decide, by decide⟩

theorem c_shines (G : GX) {b : Nat} {c : CT} {co : Nat → Nat → Option Nat} {r : Nat → Option AE} {n : Nat} {i v : Int32} : MA G 0 yX2_shines cX2_shines 3 none 0 0 [.ref (b + 16), .int i, .int v] (HC b c co r n) (qV fun h1 => h1 = HC b (if inI i 30 = 0 then c else put c 25 (tcl i) v) co r n) := by
  refine MA.of (own := RX2) false [some (.ref (b + 16)), some (.int i), some (.int v)] (by decide +kernel) rfl (fun h => by cases h) (Nat.le_of_ble_eq_true rfl) rfl (fun X => ?_)
  refine A_iload_n dX2_shines_0 rfl rfl ?_
  refine A_if_lt 17 dX2_shines_1 (by decide) (fun c1 => ?_) (fun c1 => ?_)
  · exact A_vret dX2_shines_17 (by rw [if_pos (show inI i 30 = 0 from if_pos (by first | exact Or.inl (by assumption) | exact Or.inr (by assumption)))]) ⟨by decide, by decide⟩
  · refine A_iload_n dX2_shines_4 rfl rfl ?_
    refine A_bipush (v := 30) dX2_shines_5 (by decide) ?_
    refine A_icmp_ge 17 dX2_shines_7 (by decide) (fun c7 => ?_) (fun c7 => ?_)
    · exact A_vret dX2_shines_17 (by rw [if_pos (show inI i 30 = 0 from if_pos (by first | exact Or.inl (by assumption) | exact Or.inr (by assumption)))]) ⟨by decide, by decide⟩
    · have ci : ¬ inI i 30 = 0 := fun z => by rw [inI, if_neg (fun q => q.elim c1 c7)] at z; exact absurd z (by decide)
      obtain ⟨k, hk, rfl⟩ := inI_of (k := 30) rfl ci (by decide)
      refine A_aload_n dX2_shines_10 rfl rfl ?_
      refine A_get dX2_shines_11 f_X2_29 (HC_at (by decide)) rfl ?_
      refine A_iload_n dX2_shines_14 rfl rfl ?_
      refine A_iload_n dX2_shines_15 rfl rfl ?_
      refine A_iastCN dX2_shines_16 (by decide) (fun _ => rfl) (by omega) (by decide) ?_
      exact A_vret dX2_shines_17 (by rw [if_neg ci, tcl_nI (by omega)]) ⟨by decide, by decide⟩
