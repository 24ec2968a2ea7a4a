/-! the scribe's least -/
theorem look_least {x : Int32} (h0 : ¬ x = 0) (h2 : ¬ x = 2) (h5 : ¬ x = 5) : Op.lookupswitch.offset [(0, 35), (2, 45), (5, 70)] 97 x.toInt = 97 := by
  have e0 : ¬ 0 = x.toInt := fun e => h0 (Int32.toInt_inj.mp e.symm)
  have e2 : ¬ 2 = x.toInt := fun e => h2 (Int32.toInt_inj.mp e.symm)
  have e5 : ¬ 5 = x.toInt := fun e => h5 (Int32.toInt_inj.mp e.symm)
  have f0 : ¬ x.toInt = 0 := fun e => e0 e.symm
  have f2 : ¬ x.toInt = 2 := fun e => e2 e.symm
  have f5 : ¬ x.toInt = 5 := fun e => e5 e.symm
  simp [Op.lookupswitch.offset, e0, e2, e5, f0, f2, f5]
def leastF (c : CT) (t k : Int32) : Int32 := if t = 0 then if k = 0 then 4 else 0 else if t = 2 then if k = 1 then 1 else if k = 4 then c 4 3 else 0 else if t = 5 then if k = 2 then 1 else if k = 4 then c 4 3 + 1 else 0 else 0
theorem c_least (G : GX) {b : Nat} {c : CT} {co : Nat → Nat → Option Nat} {r : Nat → Option AE} {n : Nat} {t k : Int32} : MA G 0 yX4_least cX4_least 3 (some .int) 0 0 [.ref (b + 3), .int t, .int k] (HC b c co r n) (qI fun x h1 => x = leastF c t k ∧ h1 = HC b c co r n) := by
  refine MA.of (own := RX4) false [some (.ref (b + 3)), some (.int t), some (.int k)] (by decide +kernel) rfl (fun h => by cases h) (Nat.le_of_ble_eq_true rfl) rfl (fun X => ?_)
  refine A_iload_n dX4_least_0 rfl rfl ?_
  by_cases s1_0 : t = 0
  · subst s1_0
    refine A_lookup (off := 35) 36 dX4_least_1 (by decide) (by decide) (by decide) ?_
    refine A_iload_n dX4_least_36 rfl rfl ?_
    refine A_if_ne 44 dX4_least_37 (by decide) (fun c37 => ?_) (fun c37 => ?_)
    · refine A_iconst (v := 0) dX4_least_44 (by decide) ?_
      exact A_iret dX4_least_45 ⟨by rw [leastF, if_pos rfl, if_neg c37], rfl⟩ ⟨by decide, by decide⟩
    · refine A_iconst (v := 4) dX4_least_40 (by decide) ?_
      refine A_goto 45 dX4_least_41 (by decide) ?_
      exact A_iret dX4_least_45 ⟨by rw [leastF, if_pos rfl, if_pos c37], rfl⟩ ⟨by decide, by decide⟩
  by_cases s1_2 : t = 2
  · subst s1_2
    refine A_lookup (off := 45) 46 dX4_least_1 (by decide) (by decide) (by decide) ?_
    refine A_iload_n dX4_least_46 rfl rfl ?_
    refine A_iconst (v := 1) dX4_least_47 (by decide) ?_
    refine A_icmp_ne 55 dX4_least_48 (by decide) (fun c48 => ?_) (fun c48 => ?_)
    · refine A_iload_n dX4_least_55 rfl rfl ?_
      refine A_iconst (v := 4) dX4_least_56 (by decide) ?_
      refine A_icmp_ne 69 dX4_least_57 (by decide) (fun c57 => ?_) (fun c57 => ?_)
      · refine A_iconst (v := 0) dX4_least_69 (by decide) ?_
        exact A_iret dX4_least_70 ⟨by rw [leastF, if_neg (by decide), if_pos rfl, if_neg c48, if_neg c57], rfl⟩ ⟨by decide, by decide⟩
      · refine A_aload_n dX4_least_60 rfl rfl ?_
        refine A_get dX4_least_61 f_X4_11 (HC_at (by decide)) rfl ?_
        refine A_iconst (v := 3) dX4_least_64 (by decide) ?_
        refine A_iald dX4_least_65 (HC_at (by decide)) (show vp_in (nI 3) 5 from vp_in_nI (by decide) (by decide)) ?_
        refine A_eqI (y := c 4 3) rfl ?_
        refine A_goto 70 dX4_least_66 (by decide) ?_
        exact A_iret dX4_least_70 ⟨by rw [leastF, if_neg (by decide), if_pos rfl, if_neg c48, if_pos c57], rfl⟩ ⟨by decide, by decide⟩
    · refine A_iconst (v := 1) dX4_least_51 (by decide) ?_
      refine A_goto 70 dX4_least_52 (by decide) ?_
      exact A_iret dX4_least_70 ⟨by rw [leastF, if_neg (by decide), if_pos rfl, if_pos c48], rfl⟩ ⟨by decide, by decide⟩
  by_cases s1_5 : t = 5
  · subst s1_5
    refine A_lookup (off := 70) 71 dX4_least_1 (by decide) (by decide) (by decide) ?_
    refine A_iload_n dX4_least_71 rfl rfl ?_
    refine A_iconst (v := 2) dX4_least_72 (by decide) ?_
    refine A_icmp_ne 80 dX4_least_73 (by decide) (fun c73 => ?_) (fun c73 => ?_)
    · refine A_iload_n dX4_least_80 rfl rfl ?_
      refine A_iconst (v := 4) dX4_least_81 (by decide) ?_
      refine A_icmp_ne 96 dX4_least_82 (by decide) (fun c82 => ?_) (fun c82 => ?_)
      · refine A_iconst (v := 0) dX4_least_96 (by decide) ?_
        exact A_iret dX4_least_97 ⟨by rw [leastF, if_neg (by decide), if_neg (by decide), if_pos rfl, if_neg c73, if_neg c82], rfl⟩ ⟨by decide, by decide⟩
      · refine A_aload_n dX4_least_85 rfl rfl ?_
        refine A_get dX4_least_86 f_X4_11 (HC_at (by decide)) rfl ?_
        refine A_iconst (v := 3) dX4_least_89 (by decide) ?_
        refine A_iald dX4_least_90 (HC_at (by decide)) (show vp_in (nI 3) 5 from vp_in_nI (by decide) (by decide)) ?_
        refine A_eqI (y := c 4 3) rfl ?_
        refine A_iconst (v := 1) dX4_least_91 (by decide) ?_
        refine A_iadd dX4_least_92 ?_
        refine A_goto 97 dX4_least_93 (by decide) ?_
        exact A_iret dX4_least_97 ⟨by rw [leastF, if_neg (by decide), if_neg (by decide), if_pos rfl, if_neg c73, if_pos c82], rfl⟩ ⟨by decide, by decide⟩
    · refine A_iconst (v := 1) dX4_least_76 (by decide) ?_
      refine A_goto 97 dX4_least_77 (by decide) ?_
      exact A_iret dX4_least_97 ⟨by rw [leastF, if_neg (by decide), if_neg (by decide), if_pos rfl, if_pos c73], rfl⟩ ⟨by decide, by decide⟩
  refine A_lookup (off := 97) 98 dX4_least_1 (by decide) (look_least s1_0 s1_2 s1_5) (by decide) ?_
  refine A_iconst (v := 0) dX4_least_98 (by decide) ?_
  exact A_iret dX4_least_99 ⟨by rw [leastF, if_neg s1_0, if_neg s1_2, if_neg s1_5], rfl⟩ ⟨by decide, by decide⟩
