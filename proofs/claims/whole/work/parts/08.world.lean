/-! THE TWO WORLDS: the class' cells and the reference's, each by its place from a base; what the cells hold, by place and index -/
def st1 {α : Type} (c : Nat → α) (k : Nat) (g : α) : Nat → α := fun l => if l = k then g else c l
theorem st1_eq {α : Type} {c : Nat → α} {k : Nat} {g : α} : st1 c k g k = g := by simp [st1]
theorem st1_ne {α : Type} {c : Nat → α} {k l : Nat} {g : α} (h : l ≠ k) : st1 c k g l = c l := by simp [st1, h]
/-- one place of a row is written -/
def put {α : Type} (c : Nat → Nat → α) (k i : Nat) (v : α) : Nat → Nat → α := fun l => if l = k then (fun j => if j = i then v else c k j) else c l
theorem put_eq (c : Nat → Nat → Int32) (k i : Nat) (v : Int32) : st1 c k (upd (c k) i v) = put c k i v := rfl
theorem put_ne {α : Type} {c : Nat → Nat → α} {k l i : Nat} {v : α} (h : l ≠ k) : put c k i v l = c l := by simp [put, h]
theorem put_at {α : Type} {c : Nat → Nat → α} {k i : Nat} {v : α} : put c k i v k i = v := by simp [put]
theorem put_no {α : Type} {c : Nat → Nat → α} {k i j : Nat} {v : α} (h : j ≠ i) : put c k i v k j = c k j := by simp [put, h]
def mkC (b k : Nat) (f : Nat → Int32) (g : Nat → Option Nat) : AE := match k with
  | 0 => ob 9 [.ref (b + 1), .ref (b + 3), .ref (b + 6), .ref (b + 16), .ref (b + 26), .ref (b + 27), .ref (b + 28), .ref (b + 42), .ref (b + 46)]
  | 1 => ob 6 [.ref (b + 2), .int (f 1)]
  | 2 => aB 1600 f
  | 3 => ob 4 [.ref (b + 1), .ref (b + 5), .ref (b + 4), .int (f 3), .int (f 4)]
  | 4 => aI 5 f
  | 5 => ob 7 [.ref (b + 1), .int (f 1), .int (f 2), .int (f 3), .int (f 4)]
  | 6 => ob 2 [.ref (b + 7), .ref (b + 9), .ref (b + 11), .ref (b + 13), .ref (b + 15), .int (f 5), .int (f 6), .int (f 7), .int (f 8)]
  | 7 => ob 3 [.int 6, .int 5, .ref (b + 8), .int (f 2)]
  | 8 => aI 30 f
  | 9 => ob 3 [.int 8, .int 5, .ref (b + 10), .int (f 2)]
  | 10 => aI 40 f
  | 11 => ob 3 [.int 3, .int 4, .ref (b + 12), .int (f 2)]
  | 12 => aI 12 f
  | 13 => ob 3 [.int 8, .int 5, .ref (b + 14), .int (f 2)]
  | 14 => aI 40 f
  | 15 => aI 30 f
  | 16 => ob 2 [.ref (b + 17), .ref (b + 19), .ref (b + 21), .ref (b + 23), .ref (b + 25), .int (f 5), .int (f 6), .int (f 7), .int (f 8)]
  | 17 => ob 3 [.int 6, .int 5, .ref (b + 18), .int (f 2)]
  | 18 => aI 30 f
  | 19 => ob 3 [.int 8, .int 5, .ref (b + 20), .int (f 2)]
  | 20 => aI 40 f
  | 21 => ob 3 [.int 3, .int 4, .ref (b + 22), .int (f 2)]
  | 22 => aI 12 f
  | 23 => ob 3 [.int 8, .int 5, .ref (b + 24), .int (f 2)]
  | 24 => aI 40 f
  | 25 => aI 30 f
  | 26 => aQ 4 3 g
  | 27 => aQ 5 4 g
  | 28 => ob 8 [.ref (b + 6), .ref (b + 29), .int (f 2), .int (f 3), .ref (b + 30), .ref (b + 31), .ref (b + 32), .ref (b + 33), .ref (b + 34), .ref (b + 35), .ref (b + 36), .ref (b + 37), .ref (b + 38), .ref (b + 39), .ref (b + 40), .ref (b + 41), .int (f 16), .int (f 17), .int (f 18), .int (f 19)]
  | 29 => aI 3 f
  | 30 => aI 6 f
  | 31 => aI 180 f
  | 32 => aI 3 f
  | 33 => aI 3 f
  | 34 => aI 3 f
  | 35 => aI 8 f
  | 36 => aI 8 f
  | 37 => aI 8 f
  | 38 => aI 8 f
  | 39 => aI 8 f
  | 40 => aI 8 f
  | 41 => aZ 6 f
  | 42 => ob 1 [.ref (b + 6), .ref (b + 28), .ref (b + 43), .ref (b + 44), .ref (b + 45)]
  | 43 => aI 343 f
  | 44 => aI 343 f
  | 45 => aZ 343 f
  | 46 => ob 0 [.ref (b + 6), .ref (b + 28), .ref (b + 47), .ref (b + 49), .ref (b + 51), .ref (b + 53), .ref (b + 54), .int (f 7), .int (f 8)]
  | 47 => ob 11 [.ref (b + 48)]
  | 48 => aI 36 f
  | 49 => ob 11 [.ref (b + 50)]
  | 50 => aI 36 f
  | 51 => ob 11 [.ref (b + 52)]
  | 52 => aI 36 f
  | 53 => aI 6 f
  | _ => aI 8 f
def mkM (b k : Nat) (f : Nat → Int32) (g : Nat → Int64) : AE := match k with
  | 0 => ob 10 [.int (f 0), .ref (b + 1), .ref (b + 2), .ref (b + 3), .ref (b + 4), .int (f 5), .ref (b + 5), .int (f 7), .int (f 8), .int (f 9), .int (f 10), .int (f 11), .int (f 12), .int (f 13), .ref (b + 6), .ref (b + 7), .ref (b + 8), .ref (b + 9), .ref (b + 10), .ref (b + 11), .int (f 20), .int (f 21), .int (f 22), .int (f 23), .int (f 24), .int (f 25), .ref (b + 12), .int (f 27), .long (g 28), .ref (b + 13), .ref (b + 14), .int (f 31), .int (f 32), .ref (b + 15), .ref (b + 16), .long (g 35), .ref (b + 17), .ref (b + 18), .ref (b + 19), .ref (b + 20)]
  | 1 => aI 160 f
  | 2 => aI 480 f
  | 3 => aZ 3 f
  | 4 => aB 1600 f
  | 5 => aI 5 f
  | 6 => aI 160 f
  | 7 => aI 6 f
  | 8 => aI 180 f
  | 9 => aI 9 f
  | 10 => aI 24 f
  | 11 => aI 24 f
  | 12 => aI 3 f
  | 13 => aI 36 f
  | 14 => aI 120 f
  | 15 => aI 6 f
  | 16 => aI 36 f
  | 17 => aI 4 f
  | 18 => aI 4 f
  | 19 => aJ 240 g
  | _ => aJ 60 g
def mkP (b k : Nat) (f : Nat → Int32) (g : Nat → Int64) : AE := match k with
  | 0 => ob 2 [.ref (b + 1), .ref (b + 3), .ref (b + 5), .ref (b + 7), .ref (b + 9), .int (f 5), .int (f 6), .int (f 7), .int (f 8)]
  | 1 => ob 3 [.int 6, .int 5, .ref (b + 2), .int (f 2)]
  | 2 => aI 30 f
  | 3 => ob 3 [.int 8, .int 5, .ref (b + 4), .int (f 2)]
  | 4 => aI 40 f
  | 5 => ob 3 [.int 3, .int 4, .ref (b + 6), .int (f 2)]
  | 6 => aI 12 f
  | 7 => ob 3 [.int 8, .int 5, .ref (b + 8), .int (f 2)]
  | 8 => aI 40 f
  | _ => aI 30 f
abbrev CTC : Type := (Nat → Nat → Int32) × (Nat → Nat → Option Nat)
def HC (b : Nat) (ci : Nat → Nat → Int32) (co : Nat → Nat → Option Nat) (r : Nat → Option AE) (n : Nat) : AH := (fun a => if b ≤ a ∧ a < b + 55 then some (mkC b (a - b) (ci (a - b)) (co (a - b))) else r a, n)
theorem HC_at {b : Nat} {ci : Nat → Nat → Int32} {co : Nat → Nat → Option Nat} {r : Nat → Option AE} {n k : Nat} (hk : k < 55) : (HC b ci co r n).1 (b + k) = some (mkC b k (ci k) (co k)) := by
  have h1 : b + k - b = k := by omega
  simp only [HC, h1]
  rw [if_pos (by omega)]
theorem HC_at0 {b : Nat} {ci : Nat → Nat → Int32} {co : Nat → Nat → Option Nat} {r : Nat → Option AE} {n : Nat} : (HC b ci co r n).1 b = some (mkC b 0 (ci 0) (co 0)) := HC_at (k := 0) (by decide)
theorem HC_out {b : Nat} {ci : Nat → Nat → Int32} {co : Nat → Nat → Option Nat} {r : Nat → Option AE} {n a : Nat} (ha : ¬ (b ≤ a ∧ a < b + 55)) : (HC b ci co r n).1 a = r a := by
  simp only [HC]
  rw [if_neg ha]
theorem HC_up {b : Nat} {ci : Nat → Nat → Int32} {co : Nat → Nat → Option Nat} {r : Nat → Option AE} {n k : Nat} {g : Nat → Int32} {e : AE} (hk : k < 55) (he : mkC b k g (co k) = e) : upH (HC b ci co r n) (b + k) e = HC b (st1 ci k g) co r n := by
  refine Prod.ext ?_ rfl
  funext q
  simp only [upH, HC]
  by_cases hq : q = b + k
  · subst hq
    have h1 : b + k - b = k := by omega
    rw [if_pos rfl, if_pos (by omega), h1, st1_eq, he]
  · rw [if_neg hq]
    by_cases hb : b ≤ q ∧ q < b + 55
    · rw [if_pos hb, if_pos hb, st1_ne (by omega)]
    · rw [if_neg hb, if_neg hb]
theorem HC_upO {b : Nat} {ci : Nat → Nat → Int32} {co : Nat → Nat → Option Nat} {r : Nat → Option AE} {n k : Nat} {g : Nat → Option Nat} {e : AE} (hk : k < 55) (he : mkC b k (ci k) g = e) : upH (HC b ci co r n) (b + k) e = HC b ci (st1 co k g) r n := by
  refine Prod.ext ?_ rfl
  funext q
  simp only [upH, HC]
  by_cases hq : q = b + k
  · subst hq
    have h1 : b + k - b = k := by omega
    rw [if_pos rfl, if_pos (by omega), h1, st1_eq, he]
  · rw [if_neg hq]
    by_cases hb : b ≤ q ∧ q < b + 55
    · rw [if_pos hb, if_pos hb, st1_ne (by omega)]
    · rw [if_neg hb, if_neg hb]
theorem HC_upR {b : Nat} {ci : Nat → Nat → Int32} {co : Nat → Nat → Option Nat} {r : Nat → Option AE} {n a : Nat} {e : AE} (ha : ¬ (b ≤ a ∧ a < b + 55)) : upH (HC b ci co r n) a e = HC b ci co (fun q => if q = a then some e else r q) n := by
  refine Prod.ext ?_ rfl
  funext q
  simp only [upH, HC]
  by_cases hq : q = a
  · subst hq
    rw [if_pos rfl, if_neg ha, if_pos rfl]
  · rw [if_neg hq, if_neg hq]
abbrev CTM : Type := (Nat → Nat → Int32) × (Nat → Nat → Int64)
def HM (b : Nat) (ci : Nat → Nat → Int32) (co : Nat → Nat → Int64) (r : Nat → Option AE) (n : Nat) : AH := (fun a => if b ≤ a ∧ a < b + 21 then some (mkM b (a - b) (ci (a - b)) (co (a - b))) else r a, n)
theorem HM_at {b : Nat} {ci : Nat → Nat → Int32} {co : Nat → Nat → Int64} {r : Nat → Option AE} {n k : Nat} (hk : k < 21) : (HM b ci co r n).1 (b + k) = some (mkM b k (ci k) (co k)) := by
  have h1 : b + k - b = k := by omega
  simp only [HM, h1]
  rw [if_pos (by omega)]
theorem HM_at0 {b : Nat} {ci : Nat → Nat → Int32} {co : Nat → Nat → Int64} {r : Nat → Option AE} {n : Nat} : (HM b ci co r n).1 b = some (mkM b 0 (ci 0) (co 0)) := HM_at (k := 0) (by decide)
theorem HM_out {b : Nat} {ci : Nat → Nat → Int32} {co : Nat → Nat → Int64} {r : Nat → Option AE} {n a : Nat} (ha : ¬ (b ≤ a ∧ a < b + 21)) : (HM b ci co r n).1 a = r a := by
  simp only [HM]
  rw [if_neg ha]
theorem HM_up {b : Nat} {ci : Nat → Nat → Int32} {co : Nat → Nat → Int64} {r : Nat → Option AE} {n k : Nat} {g : Nat → Int32} {e : AE} (hk : k < 21) (he : mkM b k g (co k) = e) : upH (HM b ci co r n) (b + k) e = HM b (st1 ci k g) co r n := by
  refine Prod.ext ?_ rfl
  funext q
  simp only [upH, HM]
  by_cases hq : q = b + k
  · subst hq
    have h1 : b + k - b = k := by omega
    rw [if_pos rfl, if_pos (by omega), h1, st1_eq, he]
  · rw [if_neg hq]
    by_cases hb : b ≤ q ∧ q < b + 21
    · rw [if_pos hb, if_pos hb, st1_ne (by omega)]
    · rw [if_neg hb, if_neg hb]
theorem HM_upO {b : Nat} {ci : Nat → Nat → Int32} {co : Nat → Nat → Int64} {r : Nat → Option AE} {n k : Nat} {g : Nat → Int64} {e : AE} (hk : k < 21) (he : mkM b k (ci k) g = e) : upH (HM b ci co r n) (b + k) e = HM b ci (st1 co k g) r n := by
  refine Prod.ext ?_ rfl
  funext q
  simp only [upH, HM]
  by_cases hq : q = b + k
  · subst hq
    have h1 : b + k - b = k := by omega
    rw [if_pos rfl, if_pos (by omega), h1, st1_eq, he]
  · rw [if_neg hq]
    by_cases hb : b ≤ q ∧ q < b + 21
    · rw [if_pos hb, if_pos hb, st1_ne (by omega)]
    · rw [if_neg hb, if_neg hb]
theorem HM_upR {b : Nat} {ci : Nat → Nat → Int32} {co : Nat → Nat → Int64} {r : Nat → Option AE} {n a : Nat} {e : AE} (ha : ¬ (b ≤ a ∧ a < b + 21)) : upH (HM b ci co r n) a e = HM b ci co (fun q => if q = a then some e else r q) n := by
  refine Prod.ext ?_ rfl
  funext q
  simp only [upH, HM]
  by_cases hq : q = a
  · subst hq
    rw [if_pos rfl, if_neg ha, if_pos rfl]
  · rw [if_neg hq, if_neg hq]
abbrev CTP : Type := (Nat → Nat → Int32) × (Nat → Nat → Int64)
def HP (b : Nat) (ci : Nat → Nat → Int32) (co : Nat → Nat → Int64) (r : Nat → Option AE) (n : Nat) : AH := (fun a => if b ≤ a ∧ a < b + 10 then some (mkP b (a - b) (ci (a - b)) (co (a - b))) else r a, n)
theorem HP_at {b : Nat} {ci : Nat → Nat → Int32} {co : Nat → Nat → Int64} {r : Nat → Option AE} {n k : Nat} (hk : k < 10) : (HP b ci co r n).1 (b + k) = some (mkP b k (ci k) (co k)) := by
  have h1 : b + k - b = k := by omega
  simp only [HP, h1]
  rw [if_pos (by omega)]
theorem HP_at0 {b : Nat} {ci : Nat → Nat → Int32} {co : Nat → Nat → Int64} {r : Nat → Option AE} {n : Nat} : (HP b ci co r n).1 b = some (mkP b 0 (ci 0) (co 0)) := HP_at (k := 0) (by decide)
theorem HP_out {b : Nat} {ci : Nat → Nat → Int32} {co : Nat → Nat → Int64} {r : Nat → Option AE} {n a : Nat} (ha : ¬ (b ≤ a ∧ a < b + 10)) : (HP b ci co r n).1 a = r a := by
  simp only [HP]
  rw [if_neg ha]
theorem HP_up {b : Nat} {ci : Nat → Nat → Int32} {co : Nat → Nat → Int64} {r : Nat → Option AE} {n k : Nat} {g : Nat → Int32} {e : AE} (hk : k < 10) (he : mkP b k g (co k) = e) : upH (HP b ci co r n) (b + k) e = HP b (st1 ci k g) co r n := by
  refine Prod.ext ?_ rfl
  funext q
  simp only [upH, HP]
  by_cases hq : q = b + k
  · subst hq
    have h1 : b + k - b = k := by omega
    rw [if_pos rfl, if_pos (by omega), h1, st1_eq, he]
  · rw [if_neg hq]
    by_cases hb : b ≤ q ∧ q < b + 10
    · rw [if_pos hb, if_pos hb, st1_ne (by omega)]
    · rw [if_neg hb, if_neg hb]
theorem HP_upO {b : Nat} {ci : Nat → Nat → Int32} {co : Nat → Nat → Int64} {r : Nat → Option AE} {n k : Nat} {g : Nat → Int64} {e : AE} (hk : k < 10) (he : mkP b k (ci k) g = e) : upH (HP b ci co r n) (b + k) e = HP b ci (st1 co k g) r n := by
  refine Prod.ext ?_ rfl
  funext q
  simp only [upH, HP]
  by_cases hq : q = b + k
  · subst hq
    have h1 : b + k - b = k := by omega
    rw [if_pos rfl, if_pos (by omega), h1, st1_eq, he]
  · rw [if_neg hq]
    by_cases hb : b ≤ q ∧ q < b + 10
    · rw [if_pos hb, if_pos hb, st1_ne (by omega)]
    · rw [if_neg hb, if_neg hb]
theorem HP_upR {b : Nat} {ci : Nat → Nat → Int32} {co : Nat → Nat → Int64} {r : Nat → Option AE} {n a : Nat} {e : AE} (ha : ¬ (b ≤ a ∧ a < b + 10)) : upH (HP b ci co r n) a e = HP b ci co (fun q => if q = a then some e else r q) n := by
  refine Prod.ext ?_ rfl
  funext q
  simp only [upH, HP]
  by_cases hq : q = a
  · subst hq
    rw [if_pos rfl, if_neg ha, if_pos rfl]
  · rw [if_neg hq, if_neg hq]
theorem WA_h {X : XC} {G : GX} {own : String} {cc : ByteArray} {ini : Bool} {ret : Option FieldType} {Qp : Option Value → AH → Prop} {d mc ms : Nat} {uc us pc : Nat} {lv : List (Option Value)} {st : List Value} {h h1 : AH} (e : h = h1) (k : WA X G own cc ini ret Qp d mc ms h1 uc us pc lv st) : WA X G own cc ini ret Qp d mc ms h uc us pc lv st := e ▸ k
section WORLDC
variable {X : XC} {G : GX} {own : String} {cc : ByteArray} {ini : Bool} {ret : Option FieldType} {Qp : Option Value → AH → Prop} {d mc ms : Nat} {uc us pc : Nat} {lv : List (Option Value)} {st : List Value} {b : Nat} {ci : Nat → Nat → Int32} {co : Nat → Nat → Option Nat} {r : Nat → Option AE} {n : Nat}
theorem A_iastC {k len : Nat} {i x : Int32} (hd : decode cc pc = .ok (.iastore, 1)) (hk : k < 55) (hm : ∀ f, mkC b k f (co k) = aI len f) (hin : vp_in i len) (kk : WA X G own cc ini ret Qp d mc ms (HC b (put ci k i.toNatClampNeg x) co r n) uc us (pc + 1) lv st) : WA X G own cc ini ret Qp d mc ms (HC b ci co r n) uc us pc lv (.int x :: .int i :: .ref (b + k) :: st) := by
  exact A_iast hd ((HC_at hk).trans (congrArg some (hm _))) hin (WA_h (HC_up hk (hm _)) kk)
theorem A_bastC {k len : Nat} {i x : Int32} (hd : decode cc pc = .ok (.bastore, 1)) (hk : k < 55) (hm : ∀ f, mkC b k f (co k) = aB len f) (hin : vp_in i len) (kk : WA X G own cc ini ret Qp d mc ms (HC b (put ci k i.toNatClampNeg (vp_nar .byte x)) co r n) uc us (pc + 1) lv st) : WA X G own cc ini ret Qp d mc ms (HC b ci co r n) uc us pc lv (.int x :: .int i :: .ref (b + k) :: st) := by
  exact A_bast hd ((HC_at hk).trans (congrArg some (hm _))) hin (WA_h (HC_up hk (hm _)) kk)
theorem A_zastC {k len : Nat} {i x : Int32} (hd : decode cc pc = .ok (.bastore, 1)) (hk : k < 55) (hm : ∀ f, mkC b k f (co k) = aZ len f) (hin : vp_in i len) (kk : WA X G own cc ini ret Qp d mc ms (HC b (put ci k i.toNatClampNeg (vp_nar .boolean x)) co r n) uc us (pc + 1) lv st) : WA X G own cc ini ret Qp d mc ms (HC b ci co r n) uc us pc lv (.int x :: .int i :: .ref (b + k) :: st) := by
  exact A_zast hd ((HC_at hk).trans (congrArg some (hm _))) hin (WA_h (HC_up hk (hm _)) kk)
theorem A_iastCN {k len i : Nat} {x : Int32} (hd : decode cc pc = .ok (.iastore, 1)) (hk : k < 55) (hm : ∀ f, mkC b k f (co k) = aI len f) (hin : i < len) (hlen : len < 2147483648) (kk : WA X G own cc ini ret Qp d mc ms (HC b (put ci k i x) co r n) uc us (pc + 1) lv st) : WA X G own cc ini ret Qp d mc ms (HC b ci co r n) uc us pc lv (.int x :: .int (nI i) :: .ref (b + k) :: st) := by
  refine A_iastC hd hk hm (vp_in_nI hin hlen) ?_
  rw [nI_clamp (Nat.lt_trans hin hlen)]
  exact kk
theorem A_bastCN {k len i : Nat} {x : Int32} (hd : decode cc pc = .ok (.bastore, 1)) (hk : k < 55) (hm : ∀ f, mkC b k f (co k) = aB len f) (hin : i < len) (hlen : len < 2147483648) (kk : WA X G own cc ini ret Qp d mc ms (HC b (put ci k i (vp_nar .byte x)) co r n) uc us (pc + 1) lv st) : WA X G own cc ini ret Qp d mc ms (HC b ci co r n) uc us pc lv (.int x :: .int (nI i) :: .ref (b + k) :: st) := by
  refine A_bastC hd hk hm (vp_in_nI hin hlen) ?_
  rw [nI_clamp (Nat.lt_trans hin hlen)]
  exact kk
theorem A_zastCN {k len i : Nat} {x : Int32} (hd : decode cc pc = .ok (.bastore, 1)) (hk : k < 55) (hm : ∀ f, mkC b k f (co k) = aZ len f) (hin : i < len) (hlen : len < 2147483648) (kk : WA X G own cc ini ret Qp d mc ms (HC b (put ci k i (vp_nar .boolean x)) co r n) uc us (pc + 1) lv st) : WA X G own cc ini ret Qp d mc ms (HC b ci co r n) uc us pc lv (.int x :: .int (nI i) :: .ref (b + k) :: st) := by
  refine A_zastC hd hk hm (vp_in_nI hin hlen) ?_
  rw [nI_clamp (Nat.lt_trans hin hlen)]
  exact kk
theorem A_putC (jc : Nat) {i c k j : Nat} {fs : List Value} {v : Int32} (hd : decode cc pc = .ok (.putfield i, 3)) (F : FP own i c j .int false) (hk : k < 55) (hm : mkC b k (ci k) (co k) = ob c fs) (hj : j < fs.length) (hm2 : mkC b k (upd (ci k) jc v) (co k) = ob c (fs.set j (.int v))) (kk : WA X G own cc ini ret Qp d mc ms (HC b (put ci k jc v) co r n) uc us (pc + 3) lv st) : WA X G own cc ini ret Qp d mc ms (HC b ci co r n) uc us pc lv (.int v :: .ref (b + k) :: st) := by
  exact A_put hd F ((HC_at hk).trans (congrArg some hm)) hj rfl rfl (WA_h (HC_up hk hm2) kk)
end WORLDC
section WORLDM
variable {X : XC} {G : GX} {own : String} {cc : ByteArray} {ini : Bool} {ret : Option FieldType} {Qp : Option Value → AH → Prop} {d mc ms : Nat} {uc us pc : Nat} {lv : List (Option Value)} {st : List Value} {b : Nat} {ci : Nat → Nat → Int32} {co : Nat → Nat → Int64} {r : Nat → Option AE} {n : Nat}
theorem A_iastM {k len : Nat} {i x : Int32} (hd : decode cc pc = .ok (.iastore, 1)) (hk : k < 21) (hm : ∀ f, mkM b k f (co k) = aI len f) (hin : vp_in i len) (kk : WA X G own cc ini ret Qp d mc ms (HM b (put ci k i.toNatClampNeg x) co r n) uc us (pc + 1) lv st) : WA X G own cc ini ret Qp d mc ms (HM b ci co r n) uc us pc lv (.int x :: .int i :: .ref (b + k) :: st) := by
  exact A_iast hd ((HM_at hk).trans (congrArg some (hm _))) hin (WA_h (HM_up hk (hm _)) kk)
theorem A_bastM {k len : Nat} {i x : Int32} (hd : decode cc pc = .ok (.bastore, 1)) (hk : k < 21) (hm : ∀ f, mkM b k f (co k) = aB len f) (hin : vp_in i len) (kk : WA X G own cc ini ret Qp d mc ms (HM b (put ci k i.toNatClampNeg (vp_nar .byte x)) co r n) uc us (pc + 1) lv st) : WA X G own cc ini ret Qp d mc ms (HM b ci co r n) uc us pc lv (.int x :: .int i :: .ref (b + k) :: st) := by
  exact A_bast hd ((HM_at hk).trans (congrArg some (hm _))) hin (WA_h (HM_up hk (hm _)) kk)
theorem A_zastM {k len : Nat} {i x : Int32} (hd : decode cc pc = .ok (.bastore, 1)) (hk : k < 21) (hm : ∀ f, mkM b k f (co k) = aZ len f) (hin : vp_in i len) (kk : WA X G own cc ini ret Qp d mc ms (HM b (put ci k i.toNatClampNeg (vp_nar .boolean x)) co r n) uc us (pc + 1) lv st) : WA X G own cc ini ret Qp d mc ms (HM b ci co r n) uc us pc lv (.int x :: .int i :: .ref (b + k) :: st) := by
  exact A_zast hd ((HM_at hk).trans (congrArg some (hm _))) hin (WA_h (HM_up hk (hm _)) kk)
theorem A_iastMN {k len i : Nat} {x : Int32} (hd : decode cc pc = .ok (.iastore, 1)) (hk : k < 21) (hm : ∀ f, mkM b k f (co k) = aI len f) (hin : i < len) (hlen : len < 2147483648) (kk : WA X G own cc ini ret Qp d mc ms (HM b (put ci k i x) co r n) uc us (pc + 1) lv st) : WA X G own cc ini ret Qp d mc ms (HM b ci co r n) uc us pc lv (.int x :: .int (nI i) :: .ref (b + k) :: st) := by
  refine A_iastM hd hk hm (vp_in_nI hin hlen) ?_
  rw [nI_clamp (Nat.lt_trans hin hlen)]
  exact kk
theorem A_bastMN {k len i : Nat} {x : Int32} (hd : decode cc pc = .ok (.bastore, 1)) (hk : k < 21) (hm : ∀ f, mkM b k f (co k) = aB len f) (hin : i < len) (hlen : len < 2147483648) (kk : WA X G own cc ini ret Qp d mc ms (HM b (put ci k i (vp_nar .byte x)) co r n) uc us (pc + 1) lv st) : WA X G own cc ini ret Qp d mc ms (HM b ci co r n) uc us pc lv (.int x :: .int (nI i) :: .ref (b + k) :: st) := by
  refine A_bastM hd hk hm (vp_in_nI hin hlen) ?_
  rw [nI_clamp (Nat.lt_trans hin hlen)]
  exact kk
theorem A_zastMN {k len i : Nat} {x : Int32} (hd : decode cc pc = .ok (.bastore, 1)) (hk : k < 21) (hm : ∀ f, mkM b k f (co k) = aZ len f) (hin : i < len) (hlen : len < 2147483648) (kk : WA X G own cc ini ret Qp d mc ms (HM b (put ci k i (vp_nar .boolean x)) co r n) uc us (pc + 1) lv st) : WA X G own cc ini ret Qp d mc ms (HM b ci co r n) uc us pc lv (.int x :: .int (nI i) :: .ref (b + k) :: st) := by
  refine A_zastM hd hk hm (vp_in_nI hin hlen) ?_
  rw [nI_clamp (Nat.lt_trans hin hlen)]
  exact kk
theorem A_putM (jc : Nat) {i c k j : Nat} {fs : List Value} {v : Int32} (hd : decode cc pc = .ok (.putfield i, 3)) (F : FP own i c j .int false) (hk : k < 21) (hm : mkM b k (ci k) (co k) = ob c fs) (hj : j < fs.length) (hm2 : mkM b k (upd (ci k) jc v) (co k) = ob c (fs.set j (.int v))) (kk : WA X G own cc ini ret Qp d mc ms (HM b (put ci k jc v) co r n) uc us (pc + 3) lv st) : WA X G own cc ini ret Qp d mc ms (HM b ci co r n) uc us pc lv (.int v :: .ref (b + k) :: st) := by
  exact A_put hd F ((HM_at hk).trans (congrArg some hm)) hj rfl rfl (WA_h (HM_up hk hm2) kk)
theorem A_putM0 {i c j : Nat} {fs : List Value} {v : Int32} (hd : decode cc pc = .ok (.putfield i, 3)) (F : FP own i c j .int false) (hm : mkM b 0 (ci 0) (co 0) = ob c fs) (hj : j < fs.length) (hm2 : mkM b 0 (upd (ci 0) j v) (co 0) = ob c (fs.set j (.int v))) (kk : WA X G own cc ini ret Qp d mc ms (HM b (put ci 0 j v) co r n) uc us (pc + 3) lv st) : WA X G own cc ini ret Qp d mc ms (HM b ci co r n) uc us pc lv (.int v :: .ref b :: st) := A_putM j (k := 0) hd F (by decide) hm hj hm2 kk
theorem A_putM0L {i c j : Nat} {fs : List Value} {v : Int64} (hd : decode cc pc = .ok (.putfield i, 3)) (F : FP own i c j .long false) (hm : mkM b 0 (ci 0) (co 0) = ob c fs) (hj : j < fs.length) (hm2 : mkM b 0 (ci 0) (vp_updL (co 0) j v) = ob c (fs.set j (.long v))) (kk : WA X G own cc ini ret Qp d mc ms (HM b ci (put co 0 j v) r n) uc us (pc + 3) lv st) : WA X G own cc ini ret Qp d mc ms (HM b ci co r n) uc us pc lv (.long v :: .ref b :: st) := by
  have e : upH (HM b ci co r n) b (ob c (fs.set j (.long v))) = HM b ci (st1 co 0 (vp_updL (co 0) j v)) r n := HM_upO (k := 0) (by decide) hm2
  exact A_put hd F (HM_at0.trans (congrArg some hm)) hj rfl rfl (WA_h e kk)
theorem A_lastM {k len : Nat} {i : Int32} {x : Int64} (hd : decode cc pc = .ok (.lastore, 1)) (hk : k < 21) (hm : ∀ g, mkM b k (ci k) g = aJ len g) (hin : vp_in i len) (kk : WA X G own cc ini ret Qp d mc ms (HM b ci (put co k i.toNatClampNeg x) r n) uc us (pc + 1) lv st) : WA X G own cc ini ret Qp d mc ms (HM b ci co r n) uc us pc lv (.long x :: .int i :: .ref (b + k) :: st) := by
  exact A_last hd ((HM_at hk).trans (congrArg some (hm _))) hin (WA_h (HM_upO hk (hm _)) kk)
end WORLDM
section WORLDP
variable {X : XC} {G : GX} {own : String} {cc : ByteArray} {ini : Bool} {ret : Option FieldType} {Qp : Option Value → AH → Prop} {d mc ms : Nat} {uc us pc : Nat} {lv : List (Option Value)} {st : List Value} {b : Nat} {ci : Nat → Nat → Int32} {co : Nat → Nat → Int64} {r : Nat → Option AE} {n : Nat}
theorem A_iastP {k len : Nat} {i x : Int32} (hd : decode cc pc = .ok (.iastore, 1)) (hk : k < 10) (hm : ∀ f, mkP b k f (co k) = aI len f) (hin : vp_in i len) (kk : WA X G own cc ini ret Qp d mc ms (HP b (put ci k i.toNatClampNeg x) co r n) uc us (pc + 1) lv st) : WA X G own cc ini ret Qp d mc ms (HP b ci co r n) uc us pc lv (.int x :: .int i :: .ref (b + k) :: st) := by
  exact A_iast hd ((HP_at hk).trans (congrArg some (hm _))) hin (WA_h (HP_up hk (hm _)) kk)
theorem A_bastP {k len : Nat} {i x : Int32} (hd : decode cc pc = .ok (.bastore, 1)) (hk : k < 10) (hm : ∀ f, mkP b k f (co k) = aB len f) (hin : vp_in i len) (kk : WA X G own cc ini ret Qp d mc ms (HP b (put ci k i.toNatClampNeg (vp_nar .byte x)) co r n) uc us (pc + 1) lv st) : WA X G own cc ini ret Qp d mc ms (HP b ci co r n) uc us pc lv (.int x :: .int i :: .ref (b + k) :: st) := by
  exact A_bast hd ((HP_at hk).trans (congrArg some (hm _))) hin (WA_h (HP_up hk (hm _)) kk)
theorem A_zastP {k len : Nat} {i x : Int32} (hd : decode cc pc = .ok (.bastore, 1)) (hk : k < 10) (hm : ∀ f, mkP b k f (co k) = aZ len f) (hin : vp_in i len) (kk : WA X G own cc ini ret Qp d mc ms (HP b (put ci k i.toNatClampNeg (vp_nar .boolean x)) co r n) uc us (pc + 1) lv st) : WA X G own cc ini ret Qp d mc ms (HP b ci co r n) uc us pc lv (.int x :: .int i :: .ref (b + k) :: st) := by
  exact A_zast hd ((HP_at hk).trans (congrArg some (hm _))) hin (WA_h (HP_up hk (hm _)) kk)
theorem A_iastPN {k len i : Nat} {x : Int32} (hd : decode cc pc = .ok (.iastore, 1)) (hk : k < 10) (hm : ∀ f, mkP b k f (co k) = aI len f) (hin : i < len) (hlen : len < 2147483648) (kk : WA X G own cc ini ret Qp d mc ms (HP b (put ci k i x) co r n) uc us (pc + 1) lv st) : WA X G own cc ini ret Qp d mc ms (HP b ci co r n) uc us pc lv (.int x :: .int (nI i) :: .ref (b + k) :: st) := by
  refine A_iastP hd hk hm (vp_in_nI hin hlen) ?_
  rw [nI_clamp (Nat.lt_trans hin hlen)]
  exact kk
theorem A_bastPN {k len i : Nat} {x : Int32} (hd : decode cc pc = .ok (.bastore, 1)) (hk : k < 10) (hm : ∀ f, mkP b k f (co k) = aB len f) (hin : i < len) (hlen : len < 2147483648) (kk : WA X G own cc ini ret Qp d mc ms (HP b (put ci k i (vp_nar .byte x)) co r n) uc us (pc + 1) lv st) : WA X G own cc ini ret Qp d mc ms (HP b ci co r n) uc us pc lv (.int x :: .int (nI i) :: .ref (b + k) :: st) := by
  refine A_bastP hd hk hm (vp_in_nI hin hlen) ?_
  rw [nI_clamp (Nat.lt_trans hin hlen)]
  exact kk
theorem A_zastPN {k len i : Nat} {x : Int32} (hd : decode cc pc = .ok (.bastore, 1)) (hk : k < 10) (hm : ∀ f, mkP b k f (co k) = aZ len f) (hin : i < len) (hlen : len < 2147483648) (kk : WA X G own cc ini ret Qp d mc ms (HP b (put ci k i (vp_nar .boolean x)) co r n) uc us (pc + 1) lv st) : WA X G own cc ini ret Qp d mc ms (HP b ci co r n) uc us pc lv (.int x :: .int (nI i) :: .ref (b + k) :: st) := by
  refine A_zastP hd hk hm (vp_in_nI hin hlen) ?_
  rw [nI_clamp (Nat.lt_trans hin hlen)]
  exact kk
theorem A_putP (jc : Nat) {i c k j : Nat} {fs : List Value} {v : Int32} (hd : decode cc pc = .ok (.putfield i, 3)) (F : FP own i c j .int false) (hk : k < 10) (hm : mkP b k (ci k) (co k) = ob c fs) (hj : j < fs.length) (hm2 : mkP b k (upd (ci k) jc v) (co k) = ob c (fs.set j (.int v))) (kk : WA X G own cc ini ret Qp d mc ms (HP b (put ci k jc v) co r n) uc us (pc + 3) lv st) : WA X G own cc ini ret Qp d mc ms (HP b ci co r n) uc us pc lv (.int v :: .ref (b + k) :: st) := by
  exact A_put hd F ((HP_at hk).trans (congrArg some hm)) hj rfl rfl (WA_h (HP_up hk hm2) kk)
theorem A_putP0 {i c j : Nat} {fs : List Value} {v : Int32} (hd : decode cc pc = .ok (.putfield i, 3)) (F : FP own i c j .int false) (hm : mkP b 0 (ci 0) (co 0) = ob c fs) (hj : j < fs.length) (hm2 : mkP b 0 (upd (ci 0) j v) (co 0) = ob c (fs.set j (.int v))) (kk : WA X G own cc ini ret Qp d mc ms (HP b (put ci 0 j v) co r n) uc us (pc + 3) lv st) : WA X G own cc ini ret Qp d mc ms (HP b ci co r n) uc us pc lv (.int v :: .ref b :: st) := A_putP j (k := 0) hd F (by decide) hm hj hm2 kk
end WORLDP
theorem A_ialdN {X : XC} {G : GX} {own : String} {cc : ByteArray} {ini : Bool} {ret : Option FieldType} {Qp : Option Value → AH → Prop} {d mc ms : Nat} {h : AH} {uc us pc : Nat} {lv : List (Option Value)} {st : List Value} {a n i : Nat} {f : Nat → Int32} (hd : decode cc pc = .ok (.iaload, 1)) (ha : h.1 a = some (aI n f)) (hin : i < n) (hlen : n < 2147483648) (kk : WA X G own cc ini ret Qp d mc ms h uc us (pc + 1) lv (.int (f i) :: st)) : WA X G own cc ini ret Qp d mc ms h uc us pc lv (.int (nI i) :: .ref a :: st) := by
  refine A_iald hd ha (vp_in_nI hin hlen) ?_
  rw [nI_clamp (Nat.lt_trans hin hlen)]
  exact kk
theorem A_baldN {X : XC} {G : GX} {own : String} {cc : ByteArray} {ini : Bool} {ret : Option FieldType} {Qp : Option Value → AH → Prop} {d mc ms : Nat} {h : AH} {uc us pc : Nat} {lv : List (Option Value)} {st : List Value} {a n i : Nat} {f : Nat → Int32} (hd : decode cc pc = .ok (.baload, 1)) (ha : h.1 a = some (aB n f)) (hin : i < n) (hlen : n < 2147483648) (kk : WA X G own cc ini ret Qp d mc ms h uc us (pc + 1) lv (.int (f i) :: st)) : WA X G own cc ini ret Qp d mc ms h uc us pc lv (.int (nI i) :: .ref a :: st) := by
  refine A_bald hd ha (vp_in_nI hin hlen) ?_
  rw [nI_clamp (Nat.lt_trans hin hlen)]
  exact kk
theorem A_zaldN {X : XC} {G : GX} {own : String} {cc : ByteArray} {ini : Bool} {ret : Option FieldType} {Qp : Option Value → AH → Prop} {d mc ms : Nat} {h : AH} {uc us pc : Nat} {lv : List (Option Value)} {st : List Value} {a n i : Nat} {f : Nat → Int32} (hd : decode cc pc = .ok (.baload, 1)) (ha : h.1 a = some (aZ n f)) (hin : i < n) (hlen : n < 2147483648) (kk : WA X G own cc ini ret Qp d mc ms h uc us (pc + 1) lv (.int (f i) :: st)) : WA X G own cc ini ret Qp d mc ms h uc us pc lv (.int (nI i) :: .ref a :: st) := by
  refine A_zald hd ha (vp_in_nI hin hlen) ?_
  rw [nI_clamp (Nat.lt_trans hin hlen)]
  exact kk
theorem A_laldN {X : XC} {G : GX} {own : String} {cc : ByteArray} {ini : Bool} {ret : Option FieldType} {Qp : Option Value → AH → Prop} {d mc ms : Nat} {h : AH} {uc us pc : Nat} {lv : List (Option Value)} {st : List Value} {a n i : Nat} {f : Nat → Int64} (hd : decode cc pc = .ok (.laload, 1)) (ha : h.1 a = some (aJ n f)) (hin : i < n) (hlen : n < 2147483648) (kk : WA X G own cc ini ret Qp d mc ms h uc us (pc + 1) lv (.long (f i) :: st)) : WA X G own cc ini ret Qp d mc ms h uc us pc lv (.int (nI i) :: .ref a :: st) := by
  refine A_lald hd ha (vp_in_nI hin hlen) ?_
  rw [nI_clamp (Nat.lt_trans hin hlen)]
  exact kk
theorem A_inc {X : XC} {G : GX} {own : String} {cc : ByteArray} {ini : Bool} {ret : Option FieldType} {Qp : Option Value → AH → Prop} {d mc ms : Nat} {h : AH} {uc us pc : Nat} {lv : List (Option Value)} {st : List Value} {i : Nat} {n : Int} {x : Int32} (c : Int32) {lv1 : List (Option Value)} (hd : decode cc pc = .ok (.iinc i n, 3)) (hl : lv[i]? = some (some (.int x))) (hc : Int32.ofInt n = c) (ho : lvOk lv i = true) (h1 : lv.set i (some (.int (x + c))) = lv1) (k : WA X G own cc ini ret Qp d mc ms h uc us (pc + 3) lv1 st) : WA X G own cc ini ret Qp d mc ms h uc us pc lv st := by
  subst hc
  exact A_iinc hd hl rfl ho h1 k
theorem A_nmI {X : XC} {G : GX} {own : String} {cc : ByteArray} {ini : Bool} {ret : Option FieldType} {Qp : Option Value → AH → Prop} {d mc ms : Nat} {h : AH} {uc us pc : Nat} {lv : List (Option Value)} {st : List Value} {x : Int32} (k : ∀ y : Int32, y = x → WA X G own cc ini ret Qp d mc ms h uc us pc lv (.int y :: st)) : WA X G own cc ini ret Qp d mc ms h uc us pc lv (.int x :: st) := k x rfl
theorem A_eqI {X : XC} {G : GX} {own : String} {cc : ByteArray} {ini : Bool} {ret : Option FieldType} {Qp : Option Value → AH → Prop} {d mc ms : Nat} {h : AH} {uc us pc : Nat} {lv : List (Option Value)} {st : List Value} {x y : Int32} (e : x = y) (k : WA X G own cc ini ret Qp d mc ms h uc us pc lv (.int y :: st)) : WA X G own cc ini ret Qp d mc ms h uc us pc lv (.int x :: st) := e ▸ k
theorem A_eqL {X : XC} {G : GX} {own : String} {cc : ByteArray} {ini : Bool} {ret : Option FieldType} {Qp : Option Value → AH → Prop} {d mc ms : Nat} {h : AH} {uc us pc : Nat} {lv : List (Option Value)} {st : List Value} {x y : Int64} (e : x = y) (k : WA X G own cc ini ret Qp d mc ms h uc us pc lv (.long y :: st)) : WA X G own cc ini ret Qp d mc ms h uc us pc lv (.long x :: st) := e ▸ k
