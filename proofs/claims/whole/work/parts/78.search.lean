/-! RINGS: the depth-first search finds the least row -/
def VR (d : Nat → Int32) (nv n : Nat) (s : Nat → Nat) : Prop := (∀ i, i < n → s i < nv) ∧ (∀ i, 0 < i → i < n → s 0 < s i) ∧ (∀ i j, i < j → j < n → s i ≠ s j) ∧ (∀ i, i + 1 < n → 0 < d (s i * 6 + s (i + 1))) ∧ 0 < d (s (n - 1) * 6 + s 0)
def PVR (d : Nat → Int32) (nv n : Nat) (s : Nat → Nat) : Prop := (∀ i, i < n → s i < nv) ∧ (∀ i, 0 < i → i < n → s 0 < s i) ∧ (∀ i j, i < j → j < n → s i ≠ s j) ∧ (∀ i, i + 1 < n → 0 < d (s i * 6 + s (i + 1)))
def LX (n : Nat) (r s : Nat → Nat) : Prop := ∃ L, L < n ∧ (∀ i, i < L → r i = s i) ∧ r L < s L
def tg (g : Nat → Int32) : Nat → Nat := fun i => tcl (g i)
def isN (g : Nat → Int32) (n : Nat) : Prop := ∀ i, i < n → g i = nI (tcl (g i))
def SPC (d : Nat → Int32) (nv len L : Nat) (g : Nat → Int32) (r : Bool × (Nat → Int32)) (lo : Nat) : Prop :=
  (r.1 = true → VR d nv len (tg r.2) ∧ isN r.2 len ∧ (∀ i, i < L → r.2 i = g i) ∧ ∀ s, VR d nv len s → (∀ i, i < L → s i = tg g i) → (L < len → lo ≤ s L) → (∀ i, i < len → s i = tg r.2 i) ∨ LX len (tg r.2) s) ∧
  (r.1 = false → ∀ s, VR d nv len s → (∀ i, i < L → s i = tg g i) → (L < len → lo ≤ s L) → False)
theorem hasF_iff {g : Nat → Int32} {v : Int32} : ∀ k, hasF g v k = true ↔ ∃ i, i < k ∧ g i = v
  | 0 => ⟨fun z => by rw [hasF] at z; exact Bool.noConfusion z, fun ⟨i, h, _⟩ => absurd h (by omega)⟩
  | k + 1 => by
    rw [hasF, Bool.or_eq_true, hasF_iff k, decide_eq_true_eq]
    constructor
    · rintro (⟨i, h1, h2⟩ | h)
      · exact ⟨i, by omega, h2⟩
      · exact ⟨k, by omega, h⟩
    · rintro ⟨i, h1, h2⟩
      by_cases e : i = k
      · subst e; exact Or.inr h2
      · exact Or.inl ⟨i, by omega, h2⟩
theorem clN_sp {d : Nat → Int32} {nv len dep la : Nat} {P : (Nat → Int32) → Bool × (Nat → Int32)} (hv : nv ≤ 6) (hd0 : 0 < dep) (hdl : dep < len)
    (hP : ∀ g, isN g (dep + 1) → PVR d nv (dep + 1) (tg g) → SPC d nv len (dep + 1) g (P g) 0) (hpre : ∀ g i, i < dep + 1 → (P g).2 i = g i) :
    ∀ m x g, x + m = nv → isN g dep → PVR d nv dep (tg g) → la = tg g (dep - 1) → tg g 0 < x → SPC d nv len dep g (clN d P dep la m x g) x
  | 0, x, g, hx, hg, hp, hla, h0 => by
    rw [clN]
    refine ⟨fun z => Bool.noConfusion z, fun _ s hs _ hlo => ?_⟩
    have := hs.1 dep hdl
    have := hlo hdl
    omega
  | m + 1, x, g, hx, hg, hp, hla, h0 => by
    have nx : ∀ g2, (∀ i, i < dep → g2 i = g i) → (∀ s, VR d nv len s → (∀ i, i < dep → s i = tg g i) → s dep ≠ x) → SPC d nv len dep g (clN d P dep la m (x + 1) g2) x := by
      intro g2 hg2 hne
      have t2 : ∀ i, i < dep → tg g2 i = tg g i := fun i hi => by unfold tg; rw [hg2 i hi]
      have hp2 : PVR d nv dep (tg g2) := by
        refine ⟨fun i hi => by rw [t2 i hi]; exact hp.1 i hi, fun i a b => by rw [t2 i b, t2 0 hd0]; exact hp.2.1 i a b, fun i j a b => by rw [t2 i (by omega), t2 j b]; exact hp.2.2.1 i j a b, fun i a => by rw [t2 i (by omega), t2 (i + 1) a]; exact hp.2.2.2 i a⟩
      obtain ⟨q1, q2⟩ := clN_sp (la := la) hv hd0 hdl hP hpre m (x + 1) g2 (by omega) (fun i hi => by rw [hg2 i hi]; exact hg i hi) hp2 (hla.trans (t2 _ (by omega)).symm) (by rw [t2 0 hd0]; omega)
      have lo1 : ∀ s, VR d nv len s → (∀ i, i < dep → s i = tg g i) → (dep < len → x ≤ s dep) → (dep < len → x + 1 ≤ s dep) := fun s hs hpx hlo _ => by
        have := hlo hdl
        have := hne s hs hpx
        omega
      refine ⟨fun z => ?_, fun z s hs hpx hlo => q2 z s hs (fun i hi => by rw [t2 i hi]; exact hpx i hi) (lo1 s hs hpx hlo)⟩
      obtain ⟨a1, a2, a3, a4⟩ := q1 z
      exact ⟨a1, a2, fun i hi => (a3 i hi).trans (hg2 i hi), fun s hs hpx hlo => a4 s hs (fun i hi => by rw [t2 i hi]; exact hpx i hi) (lo1 s hs hpx hlo)⟩
    rw [clN]
    by_cases e1 : 0 < d (la * 6 + x)
    · rw [if_pos e1]
      by_cases e2 : hasF g (nI x) dep = true
      · rw [if_pos e2]
        obtain ⟨i, hi, hgi⟩ := (hasF_iff dep).mp e2
        refine nx g (fun _ _ => rfl) (fun s hs hpx hsx => ?_)
        refine hs.2.2.1 i dep hi hdl ?_
        rw [hpx i hi, hsx, tg, hgi, tcl_nI (by omega)]
      · rw [if_neg e2]
        have nh : ∀ i, i < dep → tg g i ≠ x := fun i hi z => e2 ((hasF_iff dep).mpr ⟨i, hi, by rw [hg i hi]; exact congrArg nI z⟩)
        have u0 : ∀ i, i < dep → tg (upd g dep (nI x)) i = tg g i := fun i hi => by unfold tg; rw [pk_un (by omega)]
        have ud : tg (upd g dep (nI x)) dep = x := by unfold tg; rw [pk_us, tcl_nI (by omega)]
        have isu : isN (upd g dep (nI x)) (dep + 1) := fun i hi => by
          by_cases e : i = dep
          · subst e; rw [pk_us, tcl_nI (by omega)]
          · rw [pk_un e]; exact hg i (by omega)
        have pu : PVR d nv (dep + 1) (tg (upd g dep (nI x))) := by
          refine ⟨fun i hi => ?_, fun i a b => ?_, fun i j a b => ?_, fun i a => ?_⟩
          · by_cases e : i = dep
            · subst e; rw [ud]; omega
            · rw [u0 i (by omega)]; exact hp.1 i (by omega)
          · rw [u0 0 hd0]
            by_cases e : i = dep
            · subst e; rw [ud]; exact h0
            · rw [u0 i (by omega)]; exact hp.2.1 i a (by omega)
          · rw [u0 i (by omega)]
            by_cases e : j = dep
            · subst e; rw [ud]; exact nh i (by omega)
            · rw [u0 j (by omega)]; exact hp.2.2.1 i j a (by omega)
          · rw [u0 i (by omega)]
            by_cases e : i + 1 = dep
            · rw [e, ud, show i = dep - 1 by omega, ← hla]; exact e1
            · rw [u0 (i + 1) (by omega)]; exact hp.2.2.2 i (by omega)
        obtain ⟨q1, q2⟩ := hP _ isu pu
        have ag : ∀ s : Nat → Nat, (∀ i, i < dep → s i = tg g i) → s dep = x → ∀ i, i < dep + 1 → s i = tg (upd g dep (nI x)) i := fun s hpx hsx i hi => by
          by_cases e : i = dep
          · subst e; rw [ud]; exact hsx
          · rw [u0 i (by omega)]; exact hpx i (by omega)
        by_cases e3 : (P (upd g dep (nI x))).1 = true
        · rw [if_pos e3]
          obtain ⟨a1, a2, a3, a4⟩ := q1 e3
          refine ⟨fun _ => ⟨a1, a2, fun i hi => by rw [a3 i (by omega), pk_un (by omega)], fun s hs hpx hlo => ?_⟩, fun z => Bool.noConfusion z⟩
          by_cases e4 : s dep = x
          · exact a4 s hs (ag s hpx e4) (fun _ => by omega)
          · refine Or.inr ⟨dep, hdl, fun i hi => ?_, ?_⟩
            · show tg (P (upd g dep (nI x))).2 i = s i
              rw [hpx i hi, ← u0 i hi]; unfold tg; rw [a3 i (by omega)]
            · show tg (P (upd g dep (nI x))).2 dep < s dep
              have : tg (P (upd g dep (nI x))).2 dep = x := (congrArg tcl (a3 dep (by omega))).trans ud
              have := hlo hdl
              omega
        · rw [if_neg e3]
          have e3f : (P (upd g dep (nI x))).1 = false := by
            cases q : (P (upd g dep (nI x))).1
            · rfl
            · exact absurd q e3
          refine nx _ (fun i hi => by rw [hpre _ i (by omega), pk_un (by omega)]) (fun s hs hpx hsx => q2 e3f s hs (ag s hpx hsx) (fun _ => by omega))
    · rw [if_neg e1]
      refine nx g (fun _ _ => rfl) (fun s hs hpx hsx => e1 ?_)
      have := hs.2.2.2.1 (dep - 1) (by omega)
      rw [show dep - 1 + 1 = dep by omega, hsx, hpx _ (by omega), ← hla] at this
      exact this
theorem clS_sp {d : Nat → Int32} {nv len : Nat} (hv : nv ≤ 6) : ∀ k g, k < len → isN g (len - k) → PVR d nv (len - k) (tg g) → SPC d nv len (len - k) g (clS d nv len k g) 0
  | 0, g, hk, hg, hp => by
    rw [clS]
    rw [Nat.sub_zero] at hg hp ⊢
    refine ⟨fun z => ?_, fun z s hs hpx _ => ?_⟩
    · exact ⟨⟨hp.1, hp.2.1, hp.2.2.1, hp.2.2.2, of_decide_eq_true z⟩, hg, fun _ _ => rfl, fun s _ hpx _ => Or.inl hpx⟩
    · have h1 := hs.2.2.2.2
      rw [hpx _ (by omega), hpx 0 (by omega)] at h1
      exact of_decide_eq_false z h1
  | k + 1, g, hk, hg, hp => by
    rw [clS]
    have h0 := hp.1 0 (by omega)
    have e : len - (k + 1) + 1 = len - k := by omega
    have R := clN_sp (d := d) (nv := nv) (len := len) (dep := len - (k + 1)) (la := tg g (len - (k + 1) - 1)) (P := clS d nv len k) hv (by omega) (by omega) (fun g' a b => by rw [e] at a b ⊢; exact clS_sp hv k g' (by omega) a b) (fun g' i hi => clS_pre k g' i (by omega)) (nv - (tg g 0 + 1)) (tg g 0 + 1) g (by omega) hg hp rfl (by omega)
    refine ⟨fun z => ?_, fun z s hs hpx _ => ?_⟩
    · obtain ⟨a1, a2, a3, a4⟩ := R.1 z
      refine ⟨a1, a2, a3, fun s hs hpx _ => a4 s hs hpx (fun hl => ?_)⟩
      have := hs.2.1 (len - (k + 1)) (by omega) hl
      rw [hpx 0 (by omega)] at this
      omega
    · refine R.2 z s hs hpx (fun hl => ?_)
      have := hs.2.1 (len - (k + 1)) (by omega) hl
      rw [hpx 0 (by omega)] at this
      omega
theorem frL_sp {d : Nat → Int32} {nv len : Nat} (hv : nv ≤ 6) (h1 : 1 ≤ len) : ∀ m a g, a + m = nv → SPC d nv len 0 g (frL d nv len m a g) a
  | 0, a, g, ha => by
    rw [frL]
    refine ⟨fun z => Bool.noConfusion z, fun _ s hs _ hlo => ?_⟩
    have := hs.1 0 (by omega)
    have := hlo (by omega)
    omega
  | m + 1, a, g, ha => by
    rw [frL]
    have u0 : tg (upd g 0 (nI a)) 0 = a := by unfold tg; rw [pk_us, tcl_nI (by omega)]
    have i0 : isN (upd g 0 (nI a)) (len - (len - 1)) := by
      intro i hi
      have e : i = 0 := by omega
      subst e
      rw [pk_us, tcl_nI (by omega)]
    have p0 : PVR d nv (len - (len - 1)) (tg (upd g 0 (nI a))) := by
      refine ⟨fun i hi => ?_, fun i x y => absurd y (by omega), fun i j x y => absurd y (by omega), fun i x => absurd x (by omega)⟩
      have e : i = 0 := by omega
      subst e
      rw [u0]; omega
    have hq := clS_sp (d := d) (nv := nv) (len := len) hv (len - 1) (upd g 0 (nI a)) (by omega) i0 p0
    rw [show len - (len - 1) = 1 by omega] at hq
    obtain ⟨q1, q2⟩ := hq
    have ag : ∀ s : Nat → Nat, s 0 = a → ∀ i, i < 1 → s i = tg (upd g 0 (nI a)) i := fun s hs i hi => by
      have : i = 0 := by omega
      subst this; rw [u0]; exact hs
    by_cases e3 : (clS d nv len (len - 1) (upd g 0 (nI a))).1 = true
    · rw [if_pos e3]
      obtain ⟨a1, a2, a3, a4⟩ := q1 e3
      refine ⟨fun _ => ⟨a1, a2, fun i hi => absurd hi (by omega), fun s hs _ hlo => ?_⟩, fun z => Bool.noConfusion z⟩
      by_cases e4 : s 0 = a
      · exact a4 s hs (ag s e4) (fun _ => by omega)
      · refine Or.inr ⟨0, by omega, fun i hi => absurd hi (by omega), ?_⟩
        show tg (clS d nv len (len - 1) (upd g 0 (nI a))).2 0 < s 0
        have : tg (clS d nv len (len - 1) (upd g 0 (nI a))).2 0 = a := (congrArg tcl (a3 0 (by omega))).trans u0
        have := hlo (by omega)
        omega
    · rw [if_neg e3]
      have e3f : (clS d nv len (len - 1) (upd g 0 (nI a))).1 = false := by
        cases q : (clS d nv len (len - 1) (upd g 0 (nI a))).1
        · rfl
        · exact absurd q e3
      obtain ⟨r1, r2⟩ := frL_sp hv h1 m (a + 1) (clS d nv len (len - 1) (upd g 0 (nI a))).2 (by omega)
      have lo1 : ∀ s, VR d nv len s → (0 < len → a ≤ s 0) → (0 < len → a + 1 ≤ s 0) := fun s hs hlo hl => by
        have := hlo hl
        have : s 0 ≠ a := fun z => q2 e3f s hs (ag s z) (fun _ => by omega)
        omega
      refine ⟨fun z => ?_, fun z s hs _ hlo => r2 z s hs (fun i hi => absurd hi (by omega)) (lo1 s hs hlo)⟩
      obtain ⟨a1, a2, a3, a4⟩ := r1 z
      exact ⟨a1, a2, fun i hi => absurd hi (by omega), fun s hs _ hlo => a4 s hs (fun i hi => absurd hi (by omega)) (lo1 s hs hlo)⟩
/-- the ring that is found: the fewest, of these the least row -/
def BestR (d : Nat → Int32) (nv n : Nat) (s : Nat → Nat) : Prop := VR d nv n s ∧ ∀ t, VR d nv n t → (∀ i, i < n → t i = s i) ∨ LX n s t
theorem frF_sp {d : Nat → Int32} {nv : Nat} (hv : nv ≤ 6) : ∀ m l g, 1 ≤ l → l + m = nv + 1 → ((frF d nv m l g).1 = 0 ∧ ∀ n, l ≤ n → n ≤ nv → ∀ s, ¬ VR d nv n s) ∨ (l ≤ (frF d nv m l g).1 ∧ (frF d nv m l g).1 ≤ nv ∧ (∀ n, l ≤ n → n < (frF d nv m l g).1 → ∀ s, ¬ VR d nv n s) ∧ BestR d nv (frF d nv m l g).1 (tg (frF d nv m l g).2) ∧ isN (frF d nv m l g).2 (frF d nv m l g).1)
  | 0, l, g, h1, hl => Or.inl ⟨rfl, fun n a b => absurd a (by omega)⟩
  | m + 1, l, g, h1, hl => by
    rw [frF]
    obtain ⟨q1, q2⟩ := frL_sp (d := d) (len := l) hv h1 nv 0 g (by omega)
    by_cases e : (frL d nv l nv 0 g).1 = true
    · rw [if_pos e]
      obtain ⟨a1, a2, a3, a4⟩ := q1 e
      exact Or.inr ⟨Nat.le_refl _, by show l ≤ nv; omega, fun n a b => absurd b (by show ¬ n < l; omega), ⟨a1, fun t ht => a4 t ht (fun i hi => absurd hi (by omega)) (fun _ => by omega)⟩, a2⟩
    · rw [if_neg e]
      have ef : (frL d nv l nv 0 g).1 = false := by
        cases q : (frL d nv l nv 0 g).1
        · rfl
        · exact absurd q e
      have no : ∀ s, ¬ VR d nv l s := fun s hs => q2 ef s hs (fun i hi => absurd hi (by omega)) (fun _ => by omega)
      rcases frF_sp hv m (l + 1) (frL d nv l nv 0 g).2 (by omega) (by omega) with ⟨b1, b2⟩ | ⟨b1, b2, b3, b4⟩
      · refine Or.inl ⟨b1, fun n a b => ?_⟩
        by_cases z : n = l
        · subst z; exact no
        · exact b2 n (by omega) b
      · refine Or.inr ⟨by omega, b2, fun n a b => ?_, b4⟩
        by_cases z : n = l
        · subst z; exact no
        · exact b3 n (by omega) b
theorem cdF_cong {nv : Nat} {g h : Nat → Nat} : ∀ n, (∀ i, i < n → g i = h i) → cdF nv g n = cdF nv h n
  | 0, _ => rfl
  | n + 1, e => by rw [cdF, cdF, cdF_cong n (fun i hi => e i (by omega)), e n (by omega)]
theorem LX_cd {nv : Nat} {r s : Nat → Nat} : ∀ n, (∀ i, i < n → r i ≤ nv) → LX n r s → cdF nv r n < cdF nv s n
  | 0, _, ⟨L, h, _⟩ => absurd h (by omega)
  | n + 1, hr, ⟨L, h1, h2, h3⟩ => by
    rw [cdF, cdF]
    by_cases e : L = n
    · subst e
      rw [cdF_cong L h2]; omega
    · have := LX_cd n (fun i hi => hr i (by omega)) ⟨L, by omega, h2, h3⟩
      have hn := hr n (by omega)
      have : (cdF nv r n + 1) * (nv + 1) ≤ cdF nv s n * (nv + 1) := Nat.mul_le_mul_right _ this
      rw [Nat.add_mul] at this
      omega
theorem cdF_dig {nv : Nat} : ∀ n k, cdF nv (fun i => k / (nv + 1) ^ (n - 1 - i) % (nv + 1)) n = k % (nv + 1) ^ n
  | 0, k => by rw [cdF, Nat.pow_zero, Nat.mod_one]
  | n + 1, k => by
    rw [cdF]
    have e1 : cdF nv (fun i => k / (nv + 1) ^ (n + 1 - 1 - i) % (nv + 1)) n = k / (nv + 1) % (nv + 1) ^ n := by
      rw [← cdF_dig n (k / (nv + 1))]
      refine cdF_cong n (fun i hi => ?_)
      rw [Nat.div_div_eq_div_mul, Nat.mul_comm (nv + 1), ← Nat.pow_succ, show (n - 1 - i).succ = n + 1 - 1 - i by omega]
    rw [e1, show n + 1 - 1 - n = 0 by omega, Nat.pow_zero, Nat.div_one, Nat.pow_succ, Nat.mul_comm ((nv + 1) ^ n), Nat.mod_mul, Nat.mul_comm (k / (nv + 1) % (nv + 1) ^ n)]
    omega
/-- two that are least are one -/
theorem Best_one {d : Nat → Int32} {nv n : Nat} {s t : Nat → Nat} (hv : 0 < nv) (hs : BestR d nv n s) (ht : VR d nv n t) (hl : ∀ u, VR d nv n u → cdF (nv - 1) t n ≤ cdF (nv - 1) u n) : ∀ i, i < n → t i = s i := by
  rcases hs.2 t ht with h | h
  · exact h
  · have h1 := LX_cd (nv := nv - 1) n (fun i hi => by have := hs.1.1 i hi; omega) h
    have := hl s hs.1
    omega