section WARULES
variable {X : XC} {G : GX} {own : String} {cc : ByteArray} {ini : Bool} {ret : Option FieldType} {Qp : Option Value → AH → Prop} {d mc ms : Nat} {h : AH} {uc us pc : Nat} {lv : List (Option Value)} {st : List Value}
theorem A_iconst {n : Int} {v : Int32} (hd : decode cc pc = .ok (.iconst n, 1)) (hv : Int32.ofInt n = v) (k : WA X G own cc ini ret Qp d mc ms h uc us (pc + 1) lv (.int v :: st)) : WA X G own cc ini ret Qp d mc ms h uc us pc lv st := by
  obtain ⟨p, e, s, m, args, below, meth, c, h0⟩ := X
  intro H locs ls hX hR hS hdm hL
  exact lv_iconst hX.1 hX.2.1 hd hv (k H locs ls hX hR hS hdm hL)
theorem A_bipush {n : Int} {v : Int32} (hd : decode cc pc = .ok (.bipush n, 2)) (hv : (Int8.ofInt n).toInt32 = v) (k : WA X G own cc ini ret Qp d mc ms h uc us (pc + 2) lv (.int v :: st)) : WA X G own cc ini ret Qp d mc ms h uc us pc lv st := by
  obtain ⟨p, e, s, m, args, below, meth, c, h0⟩ := X
  intro H locs ls hX hR hS hdm hL
  exact lv_bipush hX.1 hX.2.1 hd hv (k H locs ls hX hR hS hdm hL)
theorem A_sipush {n : Int} {v : Int32} (hd : decode cc pc = .ok (.sipush n, 3)) (hv : (Int16.ofInt n).toInt32 = v) (k : WA X G own cc ini ret Qp d mc ms h uc us (pc + 3) lv (.int v :: st)) : WA X G own cc ini ret Qp d mc ms h uc us pc lv st := by
  obtain ⟨p, e, s, m, args, below, meth, c, h0⟩ := X
  intro H locs ls hX hR hS hdm hL
  exact lv_sipush hX.1 hX.2.1 hd hv (k H locs ls hX hR hS hdm hL)
theorem A_lconst {n : Fin 2} {v : Int64} (hd : decode cc pc = .ok (.lconst n, 1)) (hv : Int64.ofNat (n : Nat) = v) (k : WA X G own cc ini ret Qp d mc ms h uc us (pc + 1) lv (.long v :: st)) : WA X G own cc ini ret Qp d mc ms h uc us pc lv st := by
  obtain ⟨p, e, s, m, args, below, meth, c, h0⟩ := X
  intro H locs ls hX hR hS hdm hL
  exact lv_lconst hX.1 hX.2.1 hd hv (k H locs ls hX hR hS hdm hL)
theorem A_ldc {i : Nat} {v : Int32} (hd : decode cc pc = .ok (.ldc i, 2)) (hw : Cond.constant own i v ∈ wsG) (k : WA X G own cc ini ret Qp d mc ms h uc us (pc + 2) lv (.int v :: st)) : WA X G own cc ini ret Qp d mc ms h uc us pc lv st := by
  obtain ⟨p, e, s, m, args, below, meth, c, h0⟩ := X
  intro H locs ls hX hR hS hdm hL
  exact lv_ldc hX.1 hX.2.1 hX.2.2.2.1 (hX.2.2.2.2.1 _ hw) hd (k H locs ls hX hR hS hdm hL)
theorem A_ldcw {i : Nat} {v : Int32} (hd : decode cc pc = .ok (.ldc_w i, 3)) (hw : Cond.constant own i v ∈ wsG) (k : WA X G own cc ini ret Qp d mc ms h uc us (pc + 3) lv (.int v :: st)) : WA X G own cc ini ret Qp d mc ms h uc us pc lv st := by
  obtain ⟨p, e, s, m, args, below, meth, c, h0⟩ := X
  intro H locs ls hX hR hS hdm hL
  exact lv_ldcw hX.1 hX.2.1 hX.2.2.2.1 (hX.2.2.2.2.1 _ hw) hd (k H locs ls hX hR hS hdm hL)
theorem A_ldc2 {i : Nat} {v : Int64} (hd : decode cc pc = .ok (.ldc2_w i, 3)) (hw : Cond.constantLong own i v ∈ wsG) (k : WA X G own cc ini ret Qp d mc ms h uc us (pc + 3) lv (.long v :: st)) : WA X G own cc ini ret Qp d mc ms h uc us pc lv st := by
  obtain ⟨p, e, s, m, args, below, meth, c, h0⟩ := X
  intro H locs ls hX hR hS hdm hL
  exact lv_ldc2 hX.1 hX.2.1 hX.2.2.2.1 (hX.2.2.2.2.1 _ hw) hd (k H locs ls hX hR hS hdm hL)
theorem A_ldcS {i : Nat} {tx : String} (j : Nat) (hd : decode cc pc = .ok (.ldc i, 2)) (hj : litJS[j]? = some (own, i, tx)) (k : WA X G own cc ini ret Qp d mc ms h uc us (pc + 2) lv (.ref (gK G j) :: st)) : WA X G own cc ini ret Qp d mc ms h uc us pc lv st := by
  obtain ⟨p, e, s, m, args, below, meth, c, h0⟩ := X
  intro H locs ls hX hR hS hdm hL
  exact va_ldcS hX.1 hX.2.1 hX.2.2.2.1 (hX.2.2.2.2.2.2.2.1.2.2.2.2 j _ hj) hd (k H locs ls hX hR hS hdm hL)
theorem A_iload_n {q : Fin 4} {i : Nat} {x : Int32} (hd : decode cc pc = .ok (.iload_n q, 1)) (hi : (q : Nat) = i) (hl : lv[i]? = some (some (.int x))) (k : WA X G own cc ini ret Qp d mc ms h uc us (pc + 1) lv (.int x :: st)) : WA X G own cc ini ret Qp d mc ms h uc us pc lv st := by
  obtain ⟨p, e, s, m, args, below, meth, c, h0⟩ := X
  intro H locs ls hX hR hS hdm hL
  exact lv_iload_n hX.1 hX.2.1 hd hi (hL.2.2 _ _ hl) (k H locs ls hX hR hS hdm hL)
theorem A_iload {i : Nat} {x : Int32} (hd : decode cc pc = .ok (.iload i, 2)) (hl : lv[i]? = some (some (.int x))) (k : WA X G own cc ini ret Qp d mc ms h uc us (pc + 2) lv (.int x :: st)) : WA X G own cc ini ret Qp d mc ms h uc us pc lv st := by
  obtain ⟨p, e, s, m, args, below, meth, c, h0⟩ := X
  intro H locs ls hX hR hS hdm hL
  exact lv_iload hX.1 hX.2.1 hd (hL.2.2 _ _ hl) (k H locs ls hX hR hS hdm hL)
theorem A_lload_n {q : Fin 4} {i : Nat} {x : Int64} (hd : decode cc pc = .ok (.lload_n q, 1)) (hi : (q : Nat) = i) (hl : lv[i]? = some (some (.long x))) (k : WA X G own cc ini ret Qp d mc ms h uc us (pc + 1) lv (.long x :: st)) : WA X G own cc ini ret Qp d mc ms h uc us pc lv st := by
  obtain ⟨p, e, s, m, args, below, meth, c, h0⟩ := X
  intro H locs ls hX hR hS hdm hL
  exact lv_lload_n hX.1 hX.2.1 hd hi (hL.2.2 _ _ hl) (k H locs ls hX hR hS hdm hL)
theorem A_lload {i : Nat} {x : Int64} (hd : decode cc pc = .ok (.lload i, 2)) (hl : lv[i]? = some (some (.long x))) (k : WA X G own cc ini ret Qp d mc ms h uc us (pc + 2) lv (.long x :: st)) : WA X G own cc ini ret Qp d mc ms h uc us pc lv st := by
  obtain ⟨p, e, s, m, args, below, meth, c, h0⟩ := X
  intro H locs ls hX hR hS hdm hL
  exact lv_lload hX.1 hX.2.1 hd (hL.2.2 _ _ hl) (k H locs ls hX hR hS hdm hL)
theorem A_aload_n {q : Fin 4} {i : Nat} {x : Nat} (hd : decode cc pc = .ok (.aload_n q, 1)) (hi : (q : Nat) = i) (hl : lv[i]? = some (some (.ref x))) (k : WA X G own cc ini ret Qp d mc ms h uc us (pc + 1) lv (.ref x :: st)) : WA X G own cc ini ret Qp d mc ms h uc us pc lv st := by
  obtain ⟨p, e, s, m, args, below, meth, c, h0⟩ := X
  intro H locs ls hX hR hS hdm hL
  exact lv_aload_n hX.1 hX.2.1 hd hi (hL.2.2 _ _ hl) (k H locs ls hX hR hS hdm hL)
theorem A_aload {i : Nat} {x : Nat} (hd : decode cc pc = .ok (.aload i, 2)) (hl : lv[i]? = some (some (.ref x))) (k : WA X G own cc ini ret Qp d mc ms h uc us (pc + 2) lv (.ref x :: st)) : WA X G own cc ini ret Qp d mc ms h uc us pc lv st := by
  obtain ⟨p, e, s, m, args, below, meth, c, h0⟩ := X
  intro H locs ls hX hR hS hdm hL
  exact lv_aload hX.1 hX.2.1 hd (hL.2.2 _ _ hl) (k H locs ls hX hR hS hdm hL)
theorem A_aload_nN {q : Fin 4} {i : Nat} (hd : decode cc pc = .ok (.aload_n q, 1)) (hi : (q : Nat) = i) (hl : lv[i]? = some (some .null)) (k : WA X G own cc ini ret Qp d mc ms h uc us (pc + 1) lv (.null :: st)) : WA X G own cc ini ret Qp d mc ms h uc us pc lv st := by
  obtain ⟨p, e, s, m, args, below, meth, c, h0⟩ := X
  intro H locs ls hX hR hS hdm hL
  exact lv_aload_nN hX.1 hX.2.1 hd hi (hL.2.2 _ _ hl) (k H locs ls hX hR hS hdm hL)
theorem A_istore_n {q : Fin 4} {i : Nat} {x : Int32} {lv1 : List (Option Value)} (hd : decode cc pc = .ok (.istore_n q, 1)) (hi : (q : Nat) = i) (hn : i < lv.length) (ho : lvOk lv i = true) (h1 : lv.set i (some (.int x)) = lv1) (k : WA X G own cc ini ret Qp d mc ms h uc us (pc + 1) lv1 st) : WA X G own cc ini ret Qp d mc ms h uc us pc lv (.int x :: st) := by
  obtain ⟨p, e, s, m, args, below, meth, c, h0⟩ := X
  intro H locs ls hX hR hS hdm hL
  subst h1
  exact lv_istore_n hX.1 hX.2.1 hd hi hL.has hn rfl (fun ls1 h9 => k H locs ls1 (by simpa using hX) hR hS hdm (LV.st1 h9 ho))
theorem A_istore {i : Nat} {x : Int32} {lv1 : List (Option Value)} (hd : decode cc pc = .ok (.istore i, 2)) (hn : i < lv.length) (ho : lvOk lv i = true) (h1 : lv.set i (some (.int x)) = lv1) (k : WA X G own cc ini ret Qp d mc ms h uc us (pc + 2) lv1 st) : WA X G own cc ini ret Qp d mc ms h uc us pc lv (.int x :: st) := by
  obtain ⟨p, e, s, m, args, below, meth, c, h0⟩ := X
  intro H locs ls hX hR hS hdm hL
  subst h1
  exact lv_istore hX.1 hX.2.1 hd hL.has hn rfl (fun ls1 h9 => k H locs ls1 (by simpa using hX) hR hS hdm (LV.st1 h9 ho))
theorem A_astore_n {q : Fin 4} {i : Nat} {x : Nat} {lv1 : List (Option Value)} (hd : decode cc pc = .ok (.astore_n q, 1)) (hi : (q : Nat) = i) (hn : i < lv.length) (ho : lvOk lv i = true) (h1 : lv.set i (some (.ref x)) = lv1) (k : WA X G own cc ini ret Qp d mc ms h uc us (pc + 1) lv1 st) : WA X G own cc ini ret Qp d mc ms h uc us pc lv (.ref x :: st) := by
  obtain ⟨p, e, s, m, args, below, meth, c, h0⟩ := X
  intro H locs ls hX hR hS hdm hL
  subst h1
  exact lv_astore_n hX.1 hX.2.1 hd hi hL.has hn rfl (fun ls1 h9 => k H locs ls1 (by simpa using hX) hR hS hdm (LV.st1 h9 ho))
theorem A_astore {i : Nat} {x : Nat} {lv1 : List (Option Value)} (hd : decode cc pc = .ok (.astore i, 2)) (hn : i < lv.length) (ho : lvOk lv i = true) (h1 : lv.set i (some (.ref x)) = lv1) (k : WA X G own cc ini ret Qp d mc ms h uc us (pc + 2) lv1 st) : WA X G own cc ini ret Qp d mc ms h uc us pc lv (.ref x :: st) := by
  obtain ⟨p, e, s, m, args, below, meth, c, h0⟩ := X
  intro H locs ls hX hR hS hdm hL
  subst h1
  exact lv_astore hX.1 hX.2.1 hd hL.has hn rfl (fun ls1 h9 => k H locs ls1 (by simpa using hX) hR hS hdm (LV.st1 h9 ho))
theorem A_lstore_n {q : Fin 4} {i : Nat} {x : Int64} {lv1 : List (Option Value)} (hd : decode cc pc = .ok (.lstore_n q, 1)) (hi : (q : Nat) = i) (hn : i + 1 < lv.length) (ho : lvOk lv i = true) (h1 : (lv.set i (some (.long x))).set (i + 1) none = lv1) (k : WA X G own cc ini ret Qp d mc ms h uc us (pc + 1) lv1 st) : WA X G own cc ini ret Qp d mc ms h uc us pc lv (.long x :: st) := by
  obtain ⟨p, e, s, m, args, below, meth, c, h0⟩ := X
  intro H locs ls hX hR hS hdm hL
  subst h1
  exact lv_lstore_n hX.1 hX.2.1 hd hi hL.has hn rfl (fun ls1 h9 => k H locs ls1 (by simpa using hX) hR hS hdm (LV.st2 h9 ho))
theorem A_lstore {i : Nat} {x : Int64} {lv1 : List (Option Value)} (hd : decode cc pc = .ok (.lstore i, 2)) (hn : i + 1 < lv.length) (ho : lvOk lv i = true) (h1 : (lv.set i (some (.long x))).set (i + 1) none = lv1) (k : WA X G own cc ini ret Qp d mc ms h uc us (pc + 2) lv1 st) : WA X G own cc ini ret Qp d mc ms h uc us pc lv (.long x :: st) := by
  obtain ⟨p, e, s, m, args, below, meth, c, h0⟩ := X
  intro H locs ls hX hR hS hdm hL
  subst h1
  exact lv_lstore hX.1 hX.2.1 hd hL.has hn rfl (fun ls1 h9 => k H locs ls1 (by simpa using hX) hR hS hdm (LV.st2 h9 ho))
theorem A_iinc {i : Nat} {n : Int} {x v : Int32} {lv1 : List (Option Value)} (hd : decode cc pc = .ok (.iinc i n, 3)) (hl : lv[i]? = some (some (.int x))) (hv : x + Int32.ofInt n = v) (ho : lvOk lv i = true) (h1 : lv.set i (some (.int v)) = lv1) (k : WA X G own cc ini ret Qp d mc ms h uc us (pc + 3) lv1 st) : WA X G own cc ini ret Qp d mc ms h uc us pc lv st := by
  obtain ⟨p, e, s, m, args, below, meth, c, h0⟩ := X
  intro H locs ls hX hR hS hdm hL
  subst h1
  obtain ⟨q, hq⟩ := List.getElem?_of_mem (lvL_mem.mpr hl)
  exact lv_iinc hX.1 hX.2.1 hd hL.has hq hv (List.getElem?_eq_some_iff.mp hl).1 rfl (fun ls1 h9 => k H locs ls1 (by simpa using hX) hR hS hdm (LV.st1 h9 ho))
theorem A_iadd {x y : Int32} (hd : decode cc pc = .ok (.iadd, 1)) (k : WA X G own cc ini ret Qp d mc ms h uc us (pc + 1) lv (.int (x + y) :: st)) : WA X G own cc ini ret Qp d mc ms h uc us pc lv (.int y :: .int x :: st) := by
  obtain ⟨p, e, s, m, args, below, meth, c, h0⟩ := X
  intro H locs ls hX hR hS hdm hL
  exact lv_iadd hX.1 hX.2.1 hd (k H locs ls hX hR hS hdm hL)
theorem A_isub {x y : Int32} (hd : decode cc pc = .ok (.isub, 1)) (k : WA X G own cc ini ret Qp d mc ms h uc us (pc + 1) lv (.int (x - y) :: st)) : WA X G own cc ini ret Qp d mc ms h uc us pc lv (.int y :: .int x :: st) := by
  obtain ⟨p, e, s, m, args, below, meth, c, h0⟩ := X
  intro H locs ls hX hR hS hdm hL
  exact lv_isub hX.1 hX.2.1 hd (k H locs ls hX hR hS hdm hL)
theorem A_imul {x y : Int32} (hd : decode cc pc = .ok (.imul, 1)) (k : WA X G own cc ini ret Qp d mc ms h uc us (pc + 1) lv (.int (x * y) :: st)) : WA X G own cc ini ret Qp d mc ms h uc us pc lv (.int y :: .int x :: st) := by
  obtain ⟨p, e, s, m, args, below, meth, c, h0⟩ := X
  intro H locs ls hX hR hS hdm hL
  exact lv_imul hX.1 hX.2.1 hd (k H locs ls hX hR hS hdm hL)
theorem A_iand {x y : Int32} (hd : decode cc pc = .ok (.iand, 1)) (k : WA X G own cc ini ret Qp d mc ms h uc us (pc + 1) lv (.int (x &&& y) :: st)) : WA X G own cc ini ret Qp d mc ms h uc us pc lv (.int y :: .int x :: st) := by
  obtain ⟨p, e, s, m, args, below, meth, c, h0⟩ := X
  intro H locs ls hX hR hS hdm hL
  exact lv_iand hX.1 hX.2.1 hd (k H locs ls hX hR hS hdm hL)
theorem A_ior {x y : Int32} (hd : decode cc pc = .ok (.ior, 1)) (k : WA X G own cc ini ret Qp d mc ms h uc us (pc + 1) lv (.int (x ||| y) :: st)) : WA X G own cc ini ret Qp d mc ms h uc us pc lv (.int y :: .int x :: st) := by
  obtain ⟨p, e, s, m, args, below, meth, c, h0⟩ := X
  intro H locs ls hX hR hS hdm hL
  exact lv_ior hX.1 hX.2.1 hd (k H locs ls hX hR hS hdm hL)
theorem A_ladd {x y : Int64} (hd : decode cc pc = .ok (.ladd, 1)) (k : WA X G own cc ini ret Qp d mc ms h uc us (pc + 1) lv (.long (x + y) :: st)) : WA X G own cc ini ret Qp d mc ms h uc us pc lv (.long y :: .long x :: st) := by
  obtain ⟨p, e, s, m, args, below, meth, c, h0⟩ := X
  intro H locs ls hX hR hS hdm hL
  exact lv_ladd hX.1 hX.2.1 hd (k H locs ls hX hR hS hdm hL)
theorem A_lsub {x y : Int64} (hd : decode cc pc = .ok (.lsub, 1)) (k : WA X G own cc ini ret Qp d mc ms h uc us (pc + 1) lv (.long (x - y) :: st)) : WA X G own cc ini ret Qp d mc ms h uc us pc lv (.long y :: .long x :: st) := by
  obtain ⟨p, e, s, m, args, below, meth, c, h0⟩ := X
  intro H locs ls hX hR hS hdm hL
  exact lv_lsub hX.1 hX.2.1 hd (k H locs ls hX hR hS hdm hL)
theorem A_lmul {x y : Int64} (hd : decode cc pc = .ok (.lmul, 1)) (k : WA X G own cc ini ret Qp d mc ms h uc us (pc + 1) lv (.long (x * y) :: st)) : WA X G own cc ini ret Qp d mc ms h uc us pc lv (.long y :: .long x :: st) := by
  obtain ⟨p, e, s, m, args, below, meth, c, h0⟩ := X
  intro H locs ls hX hR hS hdm hL
  exact lv_lmul hX.1 hX.2.1 hd (k H locs ls hX hR hS hdm hL)
theorem A_land {x y : Int64} (hd : decode cc pc = .ok (.land, 1)) (k : WA X G own cc ini ret Qp d mc ms h uc us (pc + 1) lv (.long (x &&& y) :: st)) : WA X G own cc ini ret Qp d mc ms h uc us pc lv (.long y :: .long x :: st) := by
  obtain ⟨p, e, s, m, args, below, meth, c, h0⟩ := X
  intro H locs ls hX hR hS hdm hL
  exact lv_land hX.1 hX.2.1 hd (k H locs ls hX hR hS hdm hL)
theorem A_lor {x y : Int64} (hd : decode cc pc = .ok (.lor, 1)) (k : WA X G own cc ini ret Qp d mc ms h uc us (pc + 1) lv (.long (x ||| y) :: st)) : WA X G own cc ini ret Qp d mc ms h uc us pc lv (.long y :: .long x :: st) := by
  obtain ⟨p, e, s, m, args, below, meth, c, h0⟩ := X
  intro H locs ls hX hR hS hdm hL
  exact lv_lor hX.1 hX.2.1 hd (k H locs ls hX hR hS hdm hL)
theorem A_idiv {x y : Int32} (hd : decode cc pc = .ok (.idiv, 1)) (hne : ¬ y = 0) (k : WA X G own cc ini ret Qp d mc ms h uc us (pc + 1) lv (.int (x / y) :: st)) : WA X G own cc ini ret Qp d mc ms h uc us pc lv (.int y :: .int x :: st) := by
  obtain ⟨p, e, s, m, args, below, meth, c, h0⟩ := X
  intro H locs ls hX hR hS hdm hL
  exact lv_idiv hX.1 hX.2.1 hd hne (k H locs ls hX hR hS hdm hL)
theorem A_irem {x y : Int32} (hd : decode cc pc = .ok (.irem, 1)) (hne : ¬ y = 0) (k : WA X G own cc ini ret Qp d mc ms h uc us (pc + 1) lv (.int (x - x / y * y) :: st)) : WA X G own cc ini ret Qp d mc ms h uc us pc lv (.int y :: .int x :: st) := by
  obtain ⟨p, e, s, m, args, below, meth, c, h0⟩ := X
  intro H locs ls hX hR hS hdm hL
  exact lv_irem hX.1 hX.2.1 hd hne (k H locs ls hX hR hS hdm hL)
theorem A_ldiv {x y : Int64} (hd : decode cc pc = .ok (.ldiv, 1)) (hne : ¬ y = 0) (k : WA X G own cc ini ret Qp d mc ms h uc us (pc + 1) lv (.long (x / y) :: st)) : WA X G own cc ini ret Qp d mc ms h uc us pc lv (.long y :: .long x :: st) := by
  obtain ⟨p, e, s, m, args, below, meth, c, h0⟩ := X
  intro H locs ls hX hR hS hdm hL
  exact lv_ldiv hX.1 hX.2.1 hd hne (k H locs ls hX hR hS hdm hL)
theorem A_lrem {x y : Int64} (hd : decode cc pc = .ok (.lrem, 1)) (hne : ¬ y = 0) (k : WA X G own cc ini ret Qp d mc ms h uc us (pc + 1) lv (.long (x - x / y * y) :: st)) : WA X G own cc ini ret Qp d mc ms h uc us pc lv (.long y :: .long x :: st) := by
  obtain ⟨p, e, s, m, args, below, meth, c, h0⟩ := X
  intro H locs ls hX hR hS hdm hL
  exact lv_lrem hX.1 hX.2.1 hd hne (k H locs ls hX hR hS hdm hL)
theorem A_ineg {x : Int32} (hd : decode cc pc = .ok (.ineg, 1)) (k : WA X G own cc ini ret Qp d mc ms h uc us (pc + 1) lv (.int (-x) :: st)) : WA X G own cc ini ret Qp d mc ms h uc us pc lv (.int x :: st) := by
  obtain ⟨p, e, s, m, args, below, meth, c, h0⟩ := X
  intro H locs ls hX hR hS hdm hL
  exact lv_ineg hX.1 hX.2.1 hd (k H locs ls hX hR hS hdm hL)
theorem A_lneg {x : Int64} (hd : decode cc pc = .ok (.lneg, 1)) (k : WA X G own cc ini ret Qp d mc ms h uc us (pc + 1) lv (.long (-x) :: st)) : WA X G own cc ini ret Qp d mc ms h uc us pc lv (.long x :: st) := by
  obtain ⟨p, e, s, m, args, below, meth, c, h0⟩ := X
  intro H locs ls hX hR hS hdm hL
  exact lv_lneg hX.1 hX.2.1 hd (k H locs ls hX hR hS hdm hL)
theorem A_ishl {x y : Int32} (hd : decode cc pc = .ok (.ishl, 1)) (k : WA X G own cc ini ret Qp d mc ms h uc us (pc + 1) lv (.int (x <<< (y &&& 31)) :: st)) : WA X G own cc ini ret Qp d mc ms h uc us pc lv (.int y :: .int x :: st) := by
  obtain ⟨p, e, s, m, args, below, meth, c, h0⟩ := X
  intro H locs ls hX hR hS hdm hL
  exact lv_ishl hX.1 hX.2.1 hd (k H locs ls hX hR hS hdm hL)
theorem A_ishr {x y : Int32} (hd : decode cc pc = .ok (.ishr, 1)) (k : WA X G own cc ini ret Qp d mc ms h uc us (pc + 1) lv (.int (x >>> (y &&& 31)) :: st)) : WA X G own cc ini ret Qp d mc ms h uc us pc lv (.int y :: .int x :: st) := by
  obtain ⟨p, e, s, m, args, below, meth, c, h0⟩ := X
  intro H locs ls hX hR hS hdm hL
  exact lv_ishr hX.1 hX.2.1 hd (k H locs ls hX hR hS hdm hL)
theorem A_iushr {x y : Int32} (hd : decode cc pc = .ok (.iushr, 1)) (k : WA X G own cc ini ret Qp d mc ms h uc us (pc + 1) lv (.int (x.toUInt32 >>> (y.toUInt32 &&& Int32.toUInt32 31)).toInt32 :: st)) : WA X G own cc ini ret Qp d mc ms h uc us pc lv (.int y :: .int x :: st) := by
  obtain ⟨p, e, s, m, args, below, meth, c, h0⟩ := X
  intro H locs ls hX hR hS hdm hL
  exact lv_iushr hX.1 hX.2.1 hd rfl (k H locs ls hX hR hS hdm hL)
theorem A_lshl {x : Int64} {y : Int32} (hd : decode cc pc = .ok (.lshl, 1)) (k : WA X G own cc ini ret Qp d mc ms h uc us (pc + 1) lv (.long (x <<< (y.toInt64 &&& 63)) :: st)) : WA X G own cc ini ret Qp d mc ms h uc us pc lv (.int y :: .long x :: st) := by
  obtain ⟨p, e, s, m, args, below, meth, c, h0⟩ := X
  intro H locs ls hX hR hS hdm hL
  exact lv_lshl hX.1 hX.2.1 hd rfl (k H locs ls hX hR hS hdm hL)
theorem A_lshr {x : Int64} {y : Int32} (hd : decode cc pc = .ok (.lshr, 1)) (k : WA X G own cc ini ret Qp d mc ms h uc us (pc + 1) lv (.long (x >>> (y.toInt64 &&& 63)) :: st)) : WA X G own cc ini ret Qp d mc ms h uc us pc lv (.int y :: .long x :: st) := by
  obtain ⟨p, e, s, m, args, below, meth, c, h0⟩ := X
  intro H locs ls hX hR hS hdm hL
  exact lv_lshr hX.1 hX.2.1 hd rfl (k H locs ls hX hR hS hdm hL)
theorem A_i2l {x : Int32} (hd : decode cc pc = .ok (.i2l, 1)) (k : WA X G own cc ini ret Qp d mc ms h uc us (pc + 1) lv (.long x.toInt64 :: st)) : WA X G own cc ini ret Qp d mc ms h uc us pc lv (.int x :: st) := by
  obtain ⟨p, e, s, m, args, below, meth, c, h0⟩ := X
  intro H locs ls hX hR hS hdm hL
  exact lv_i2l hX.1 hX.2.1 hd rfl (k H locs ls hX hR hS hdm hL)
theorem A_l2i {x : Int64} (hd : decode cc pc = .ok (.l2i, 1)) (k : WA X G own cc ini ret Qp d mc ms h uc us (pc + 1) lv (.int x.toInt32 :: st)) : WA X G own cc ini ret Qp d mc ms h uc us pc lv (.long x :: st) := by
  obtain ⟨p, e, s, m, args, below, meth, c, h0⟩ := X
  intro H locs ls hX hR hS hdm hL
  exact lv_l2i hX.1 hX.2.1 hd rfl (k H locs ls hX hR hS hdm hL)
theorem A_i2b {x : Int32} (hd : decode cc pc = .ok (.i2b, 1)) (k : WA X G own cc ini ret Qp d mc ms h uc us (pc + 1) lv (.int x.toInt8.toInt32 :: st)) : WA X G own cc ini ret Qp d mc ms h uc us pc lv (.int x :: st) := by
  obtain ⟨p, e, s, m, args, below, meth, c, h0⟩ := X
  intro H locs ls hX hR hS hdm hL
  exact lv_i2b hX.1 hX.2.1 hd rfl (k H locs ls hX hR hS hdm hL)
theorem A_i2s {x : Int32} (hd : decode cc pc = .ok (.i2s, 1)) (k : WA X G own cc ini ret Qp d mc ms h uc us (pc + 1) lv (.int x.toInt16.toInt32 :: st)) : WA X G own cc ini ret Qp d mc ms h uc us pc lv (.int x :: st) := by
  obtain ⟨p, e, s, m, args, below, meth, c, h0⟩ := X
  intro H locs ls hX hR hS hdm hL
  exact lv_i2s hX.1 hX.2.1 hd rfl (k H locs ls hX hR hS hdm hL)
theorem A_i2c {x : Int32} (hd : decode cc pc = .ok (.i2c, 1)) (k : WA X G own cc ini ret Qp d mc ms h uc us (pc + 1) lv (.int (x.toUInt32 % 65536).toInt32 :: st)) : WA X G own cc ini ret Qp d mc ms h uc us pc lv (.int x :: st) := by
  obtain ⟨p, e, s, m, args, below, meth, c, h0⟩ := X
  intro H locs ls hX hR hS hdm hL
  exact lv_i2c hX.1 hX.2.1 hd rfl (k H locs ls hX hR hS hdm hL)
theorem A_lcmp {x y : Int64} (hd : decode cc pc = .ok (.lcmp, 1)) (k : WA X G own cc ini ret Qp d mc ms h uc us (pc + 1) lv (.int (lg_cmp x y) :: st)) : WA X G own cc ini ret Qp d mc ms h uc us pc lv (.long y :: .long x :: st) := by
  obtain ⟨p, e, s, m, args, below, meth, c, h0⟩ := X
  intro H locs ls hX hR hS hdm hL
  exact W.lcmp hX.1 hX.2.1 hd (k H locs ls hX hR hS hdm hL)
theorem A_dup {v : Value} (hd : decode cc pc = .ok (.dup, 1)) (hv : v.category = 1) (k : WA X G own cc ini ret Qp d mc ms h uc us (pc + 1) lv (v :: v :: st)) : WA X G own cc ini ret Qp d mc ms h uc us pc lv (v :: st) := by
  obtain ⟨p, e, s, m, args, below, meth, c, h0⟩ := X
  intro H locs ls hX hR hS hdm hL
  exact lv_dup hX.1 hX.2.1 hd hv (k H locs ls hX hR hS hdm hL)
theorem A_pop {v : Value} (hd : decode cc pc = .ok (.pop, 1)) (hv : v.category = 1) (k : WA X G own cc ini ret Qp d mc ms h uc us (pc + 1) lv st) : WA X G own cc ini ret Qp d mc ms h uc us pc lv (v :: st) := by
  obtain ⟨p, e, s, m, args, below, meth, c, h0⟩ := X
  intro H locs ls hX hR hS hdm hL
  exact lv_pop hX.1 hX.2.1 hd hv (k H locs ls hX hR hS hdm hL)
theorem A_dup2 {v w : Value} (hd : decode cc pc = .ok (.dup2, 1)) (hv : v.category = 1) (hw : w.category = 1) (k : WA X G own cc ini ret Qp d mc ms h uc us (pc + 1) lv (v :: w :: v :: w :: st)) : WA X G own cc ini ret Qp d mc ms h uc us pc lv (v :: w :: st) := by
  obtain ⟨p, e, s, m, args, below, meth, c, h0⟩ := X
  intro H locs ls hX hR hS hdm hL
  exact lv_dup2_11 hX.1 hX.2.1 hd hv hw (k H locs ls hX hR hS hdm hL)
theorem A_dup2L {v : Value} (hd : decode cc pc = .ok (.dup2, 1)) (hv : v.category = 2) (k : WA X G own cc ini ret Qp d mc ms h uc us (pc + 1) lv (v :: v :: st)) : WA X G own cc ini ret Qp d mc ms h uc us pc lv (v :: st) := by
  obtain ⟨p, e, s, m, args, below, meth, c, h0⟩ := X
  intro H locs ls hX hR hS hdm hL
  exact lv_dup2_2 hX.1 hX.2.1 hd hv (k H locs ls hX hR hS hdm hL)
theorem A_icmp_eq {x y : Int32} {off : Int} (tgt : Nat) (hd : decode cc pc = .ok (.if_icmp .eq off, 3)) (ht : (pc : Int) + off = (tgt : Int)) (kt : x = y → WA X G own cc ini ret Qp d mc ms h uc us tgt lv st) (kf : ¬ x = y → WA X G own cc ini ret Qp d mc ms h uc us (pc + 3) lv st) : WA X G own cc ini ret Qp d mc ms h uc us pc lv (.int y :: .int x :: st) := by
  obtain ⟨p, e, s, m, args, below, meth, c, h0⟩ := X
  intro H locs ls hX hR hS hdm hL
  exact lv_icmp_eq hX.1 hX.2.1 hd ht (fun z => kt z H locs ls hX hR hS hdm hL) (fun z => kf z H locs ls hX hR hS hdm hL)
theorem A_if_eq {x : Int32} {off : Int} (tgt : Nat) (hd : decode cc pc = .ok (.ifCond .eq off, 3)) (ht : (pc : Int) + off = (tgt : Int)) (kt : x = 0 → WA X G own cc ini ret Qp d mc ms h uc us tgt lv st) (kf : ¬ x = 0 → WA X G own cc ini ret Qp d mc ms h uc us (pc + 3) lv st) : WA X G own cc ini ret Qp d mc ms h uc us pc lv (.int x :: st) := by
  obtain ⟨p, e, s, m, args, below, meth, c, h0⟩ := X
  intro H locs ls hX hR hS hdm hL
  exact lv_if_eq hX.1 hX.2.1 hd ht (fun z => kt z H locs ls hX hR hS hdm hL) (fun z => kf z H locs ls hX hR hS hdm hL)
theorem A_icmp_ne {x y : Int32} {off : Int} (tgt : Nat) (hd : decode cc pc = .ok (.if_icmp .ne off, 3)) (ht : (pc : Int) + off = (tgt : Int)) (kt : ¬ x = y → WA X G own cc ini ret Qp d mc ms h uc us tgt lv st) (kf : x = y → WA X G own cc ini ret Qp d mc ms h uc us (pc + 3) lv st) : WA X G own cc ini ret Qp d mc ms h uc us pc lv (.int y :: .int x :: st) := by
  obtain ⟨p, e, s, m, args, below, meth, c, h0⟩ := X
  intro H locs ls hX hR hS hdm hL
  exact lv_icmp_ne hX.1 hX.2.1 hd ht (fun z => kt z H locs ls hX hR hS hdm hL) (fun z => kf z H locs ls hX hR hS hdm hL)
theorem A_if_ne {x : Int32} {off : Int} (tgt : Nat) (hd : decode cc pc = .ok (.ifCond .ne off, 3)) (ht : (pc : Int) + off = (tgt : Int)) (kt : ¬ x = 0 → WA X G own cc ini ret Qp d mc ms h uc us tgt lv st) (kf : x = 0 → WA X G own cc ini ret Qp d mc ms h uc us (pc + 3) lv st) : WA X G own cc ini ret Qp d mc ms h uc us pc lv (.int x :: st) := by
  obtain ⟨p, e, s, m, args, below, meth, c, h0⟩ := X
  intro H locs ls hX hR hS hdm hL
  exact lv_if_ne hX.1 hX.2.1 hd ht (fun z => kt z H locs ls hX hR hS hdm hL) (fun z => kf z H locs ls hX hR hS hdm hL)
theorem A_icmp_lt {x y : Int32} {off : Int} (tgt : Nat) (hd : decode cc pc = .ok (.if_icmp .lt off, 3)) (ht : (pc : Int) + off = (tgt : Int)) (kt : x < y → WA X G own cc ini ret Qp d mc ms h uc us tgt lv st) (kf : ¬ x < y → WA X G own cc ini ret Qp d mc ms h uc us (pc + 3) lv st) : WA X G own cc ini ret Qp d mc ms h uc us pc lv (.int y :: .int x :: st) := by
  obtain ⟨p, e, s, m, args, below, meth, c, h0⟩ := X
  intro H locs ls hX hR hS hdm hL
  exact lv_icmp_lt hX.1 hX.2.1 hd ht (fun z => kt z H locs ls hX hR hS hdm hL) (fun z => kf z H locs ls hX hR hS hdm hL)
theorem A_if_lt {x : Int32} {off : Int} (tgt : Nat) (hd : decode cc pc = .ok (.ifCond .lt off, 3)) (ht : (pc : Int) + off = (tgt : Int)) (kt : x < 0 → WA X G own cc ini ret Qp d mc ms h uc us tgt lv st) (kf : ¬ x < 0 → WA X G own cc ini ret Qp d mc ms h uc us (pc + 3) lv st) : WA X G own cc ini ret Qp d mc ms h uc us pc lv (.int x :: st) := by
  obtain ⟨p, e, s, m, args, below, meth, c, h0⟩ := X
  intro H locs ls hX hR hS hdm hL
  exact lv_if_lt hX.1 hX.2.1 hd ht (fun z => kt z H locs ls hX hR hS hdm hL) (fun z => kf z H locs ls hX hR hS hdm hL)
theorem A_icmp_ge {x y : Int32} {off : Int} (tgt : Nat) (hd : decode cc pc = .ok (.if_icmp .ge off, 3)) (ht : (pc : Int) + off = (tgt : Int)) (kt : y ≤ x → WA X G own cc ini ret Qp d mc ms h uc us tgt lv st) (kf : ¬ y ≤ x → WA X G own cc ini ret Qp d mc ms h uc us (pc + 3) lv st) : WA X G own cc ini ret Qp d mc ms h uc us pc lv (.int y :: .int x :: st) := by
  obtain ⟨p, e, s, m, args, below, meth, c, h0⟩ := X
  intro H locs ls hX hR hS hdm hL
  exact lv_icmp_ge hX.1 hX.2.1 hd ht (fun z => kt z H locs ls hX hR hS hdm hL) (fun z => kf z H locs ls hX hR hS hdm hL)
theorem A_if_ge {x : Int32} {off : Int} (tgt : Nat) (hd : decode cc pc = .ok (.ifCond .ge off, 3)) (ht : (pc : Int) + off = (tgt : Int)) (kt : 0 ≤ x → WA X G own cc ini ret Qp d mc ms h uc us tgt lv st) (kf : ¬ 0 ≤ x → WA X G own cc ini ret Qp d mc ms h uc us (pc + 3) lv st) : WA X G own cc ini ret Qp d mc ms h uc us pc lv (.int x :: st) := by
  obtain ⟨p, e, s, m, args, below, meth, c, h0⟩ := X
  intro H locs ls hX hR hS hdm hL
  exact lv_if_ge hX.1 hX.2.1 hd ht (fun z => kt z H locs ls hX hR hS hdm hL) (fun z => kf z H locs ls hX hR hS hdm hL)
theorem A_icmp_gt {x y : Int32} {off : Int} (tgt : Nat) (hd : decode cc pc = .ok (.if_icmp .gt off, 3)) (ht : (pc : Int) + off = (tgt : Int)) (kt : y < x → WA X G own cc ini ret Qp d mc ms h uc us tgt lv st) (kf : ¬ y < x → WA X G own cc ini ret Qp d mc ms h uc us (pc + 3) lv st) : WA X G own cc ini ret Qp d mc ms h uc us pc lv (.int y :: .int x :: st) := by
  obtain ⟨p, e, s, m, args, below, meth, c, h0⟩ := X
  intro H locs ls hX hR hS hdm hL
  exact lv_icmp_gt hX.1 hX.2.1 hd ht (fun z => kt z H locs ls hX hR hS hdm hL) (fun z => kf z H locs ls hX hR hS hdm hL)
theorem A_if_gt {x : Int32} {off : Int} (tgt : Nat) (hd : decode cc pc = .ok (.ifCond .gt off, 3)) (ht : (pc : Int) + off = (tgt : Int)) (kt : 0 < x → WA X G own cc ini ret Qp d mc ms h uc us tgt lv st) (kf : ¬ 0 < x → WA X G own cc ini ret Qp d mc ms h uc us (pc + 3) lv st) : WA X G own cc ini ret Qp d mc ms h uc us pc lv (.int x :: st) := by
  obtain ⟨p, e, s, m, args, below, meth, c, h0⟩ := X
  intro H locs ls hX hR hS hdm hL
  exact lv_if_gt hX.1 hX.2.1 hd ht (fun z => kt z H locs ls hX hR hS hdm hL) (fun z => kf z H locs ls hX hR hS hdm hL)
theorem A_icmp_le {x y : Int32} {off : Int} (tgt : Nat) (hd : decode cc pc = .ok (.if_icmp .le off, 3)) (ht : (pc : Int) + off = (tgt : Int)) (kt : x ≤ y → WA X G own cc ini ret Qp d mc ms h uc us tgt lv st) (kf : ¬ x ≤ y → WA X G own cc ini ret Qp d mc ms h uc us (pc + 3) lv st) : WA X G own cc ini ret Qp d mc ms h uc us pc lv (.int y :: .int x :: st) := by
  obtain ⟨p, e, s, m, args, below, meth, c, h0⟩ := X
  intro H locs ls hX hR hS hdm hL
  exact lv_icmp_le hX.1 hX.2.1 hd ht (fun z => kt z H locs ls hX hR hS hdm hL) (fun z => kf z H locs ls hX hR hS hdm hL)
theorem A_if_le {x : Int32} {off : Int} (tgt : Nat) (hd : decode cc pc = .ok (.ifCond .le off, 3)) (ht : (pc : Int) + off = (tgt : Int)) (kt : x ≤ 0 → WA X G own cc ini ret Qp d mc ms h uc us tgt lv st) (kf : ¬ x ≤ 0 → WA X G own cc ini ret Qp d mc ms h uc us (pc + 3) lv st) : WA X G own cc ini ret Qp d mc ms h uc us pc lv (.int x :: st) := by
  obtain ⟨p, e, s, m, args, below, meth, c, h0⟩ := X
  intro H locs ls hX hR hS hdm hL
  exact lv_if_le hX.1 hX.2.1 hd ht (fun z => kt z H locs ls hX hR hS hdm hL) (fun z => kf z H locs ls hX hR hS hdm hL)
theorem A_goto {off : Int} (tgt : Nat) (hd : decode cc pc = .ok (.goto off, 3)) (ht : (pc : Int) + off = (tgt : Int)) (k : WA X G own cc ini ret Qp d mc ms h uc us tgt lv st) : WA X G own cc ini ret Qp d mc ms h uc us pc lv st := by
  obtain ⟨p, e, s, m, args, below, meth, c, h0⟩ := X
  intro H locs ls hX hR hS hdm hL
  exact lv_goto hX.1 hX.2.1 hd ht (k H locs ls hX hR hS hdm hL)
theorem A_ifnull {off : Int} {x : Nat} (hd : decode cc pc = .ok (.ifnull off, 3)) (k : WA X G own cc ini ret Qp d mc ms h uc us (pc + 3) lv st) : WA X G own cc ini ret Qp d mc ms h uc us pc lv (.ref x :: st) := by
  obtain ⟨p, e, s, m, args, below, meth, c, h0⟩ := X
  intro H locs ls hX hR hS hdm hL
  exact lv_ifnull hX.1 hX.2.1 hd (k H locs ls hX hR hS hdm hL)
theorem A_ifnullN {off : Int} (tgt : Nat) (hd : decode cc pc = .ok (.ifnull off, 3)) (ht : (pc : Int) + off = (tgt : Int)) (k : WA X G own cc ini ret Qp d mc ms h uc us tgt lv st) : WA X G own cc ini ret Qp d mc ms h uc us pc lv (.null :: st) := by
  obtain ⟨p, e, s, m, args, below, meth, c, h0⟩ := X
  intro H locs ls hX hR hS hdm hL
  exact lv_ifnullN hX.1 hX.2.1 hd ht (k H locs ls hX hR hS hdm hL)
theorem A_ifnonnull {off : Int} {x : Nat} (tgt : Nat) (hd : decode cc pc = .ok (.ifnonnull off, 3)) (ht : (pc : Int) + off = (tgt : Int)) (k : WA X G own cc ini ret Qp d mc ms h uc us tgt lv st) : WA X G own cc ini ret Qp d mc ms h uc us pc lv (.ref x :: st) := by
  obtain ⟨p, e, s, m, args, below, meth, c, h0⟩ := X
  intro H locs ls hX hR hS hdm hL
  exact lv_ifnonnull hX.1 hX.2.1 hd ht (k H locs ls hX hR hS hdm hL)
theorem A_ifnonnullN {off : Int} (hd : decode cc pc = .ok (.ifnonnull off, 3)) (k : WA X G own cc ini ret Qp d mc ms h uc us (pc + 3) lv st) : WA X G own cc ini ret Qp d mc ms h uc us pc lv (.null :: st) := by
  obtain ⟨p, e, s, m, args, below, meth, c, h0⟩ := X
  intro H locs ls hX hR hS hdm hL
  exact lv_ifnonnullN hX.1 hX.2.1 hd (k H locs ls hX hR hS hdm hL)
theorem A_tableIn {dflt lo hi : Int} {offs : Array Int} {len : Nat} {x : Int32} {off : Int} (tgt : Nat) (hd : decode cc pc = .ok (.tableswitch dflt lo hi offs, len)) (h1 : ¬ x.toInt < lo) (h2 : ¬ hi < x.toInt) (ho : offs[(x.toInt - lo).toNat]? = some off) (ht : (pc : Int) + off = (tgt : Int)) (k : WA X G own cc ini ret Qp d mc ms h uc us tgt lv st) : WA X G own cc ini ret Qp d mc ms h uc us pc lv (.int x :: st) := by
  obtain ⟨p, e, s, m, args, below, meth, c, h0⟩ := X
  intro H locs ls hX hR hS hdm hL
  exact lv_tableIn hX.1 hX.2.1 hd h1 h2 ho ht (k H locs ls hX hR hS hdm hL)
theorem A_tableOut {dflt lo hi : Int} {offs : Array Int} {len : Nat} {x : Int32} (tgt : Nat) (hd : decode cc pc = .ok (.tableswitch dflt lo hi offs, len)) (h1 : x.toInt < lo ∨ hi < x.toInt) (ht : (pc : Int) + dflt = (tgt : Int)) (k : WA X G own cc ini ret Qp d mc ms h uc us tgt lv st) : WA X G own cc ini ret Qp d mc ms h uc us pc lv (.int x :: st) := by
  obtain ⟨p, e, s, m, args, below, meth, c, h0⟩ := X
  intro H locs ls hX hR hS hdm hL
  exact lv_tableOut hX.1 hX.2.1 hd h1 ht (k H locs ls hX hR hS hdm hL)
theorem A_lookup {dflt : Int} {ps : Array (Int × Int)} {len : Nat} {x : Int32} {off : Int} (tgt : Nat) (hd : decode cc pc = .ok (.lookupswitch dflt ps, len)) (hp : (ps.toList.zip (ps.toList.drop 1)).all (fun (a, next) => a.1 < next.1) = true) (ho : Op.lookupswitch.offset ps.toList dflt x.toInt = off) (ht : (pc : Int) + off = (tgt : Int)) (k : WA X G own cc ini ret Qp d mc ms h uc us tgt lv st) : WA X G own cc ini ret Qp d mc ms h uc us pc lv (.int x :: st) := by
  obtain ⟨p, e, s, m, args, below, meth, c, h0⟩ := X
  intro H locs ls hX hR hS hdm hL
  exact lv_lookup hX.1 hX.2.1 hd hp ho ht (k H locs ls hX hR hS hdm hL)
/-- a field's entry in a class's pool: which class's field it is, which place -/
def FA (own : String) (idx ci k : Nat) : Prop := ∃ r : vw_C, vwCl[ci]? = some r ∧ k < r.2.2 ∧ Cond.fieldLink own idx (r.2.1 k).1 (r.2.1 k).2.1 (r.2.1 k).2.2.1 ∈ wsG
theorem A_get {i ci k a : Nat} {fs : List Value} {v : Value} (hd : decode cc pc = .ok (.getfield i, 3)) (F : FA own i ci k) (ha : h.1 a = some (ob ci fs)) (hv : fs[k]? = some v) (kk : WA X G own cc ini ret Qp d mc ms h uc us (pc + 3) lv (v :: st)) : WA X G own cc ini ret Qp d mc ms h uc us pc lv (.ref a :: st) := by
  obtain ⟨p, e, s, m, args, below, meth, c, h0⟩ := X
  intro H locs ls hX hR hS hdm hL
  obtain ⟨r, hr, hk, hw⟩ := F
  exact va_get (C := r.1) (T := r.2.1) (N := r.2.2) hX.1 hX.2.1 hX.2.2.2.2.1 (inG ci r hr) hX.2.2.2.1 hX.2.2.2.2.2.2.2.1.1 (hR.P1 ha) 0 rfl hr k hk (hX.2.2.2.2.1 _ hw) (fun _ h9 => h9) hv hd (kk H locs ls hX hR hS hdm hL)
/-- a field that may be stored: what it is -/
def FP (own : String) (idx ci k : Nat) (ty : FieldType) (fin : Bool) : Prop := FA own idx ci k ∧ ∀ r : vw_C, vwCl[ci]? = some r → parseFieldDescriptor (r.2.1 k).2.2.1 = some ty ∧ (r.2.1 k).2.2.2 = fin ∧ (fin = true → (r.2.1 k).1 = own)
theorem A_put {i ci k a : Nat} {fs : List Value} {v : Value} {ty : FieldType} (hd : decode cc pc = .ok (.putfield i, 3)) (F : FP own i ci k ty false) (ha : h.1 a = some (ob ci fs)) (hl : k < fs.length) (hn : narrow ty v = v) (hfit : fits ty v = true) (kk : WA X G own cc ini ret Qp d mc ms (upH h a (ob ci (fs.set k v))) uc us (pc + 3) lv st) : WA X G own cc ini ret Qp d mc ms h uc us pc lv (v :: .ref a :: st) := by
  obtain ⟨p, e, s, m, args, below, meth, c, h0⟩ := X
  intro H locs ls hX hR hS hdm hL
  obtain ⟨⟨r, hr, hk, hw⟩, hF⟩ := F
  obtain ⟨hpd, hfin, -⟩ := hF r hr
  have hK := hX.2.2.2.2.2.2.2.1.1
  have hts := hX.2.2.2.2.1
  have hin := inG ci r hr
  have hP := hR.P1 ha
  obtain ⟨hty, hnm⟩ := tyG ci r hr
  obtain ⟨ty0, hty⟩ := hty
  have hap := va_apart (own := own) hts hin ty0 hty hnm hK hr
  obtain ⟨r', h1, cell, q1, q2, q3, q4⟩ := hR.2 a _ ha
  cases hr.symm.trans h1
  obtain ⟨hSl, hfc, kC, hkC, hkind⟩ := hK.1 ci _ hr
  obtain ⟨cf, kf, fi, f, hi, hsl⟩ := hSl k hk
  have hlay := hts _ (hin _ (u_in_lay hk))
  unfold u_lay at hlay
  rw [if_neg (by rw [hfin]; decide)] at hlay
  have hst := (u_facts hfc hkC (u_lays hts hin hk) hi).1
  have h6 := u_store hfc hkC hkind hlay hi hpd hn hfit
  refine W.putK hX.1 hX.2.1 (f := f) ⟨hX.2.2.2.1, hts _ hw, ⟨_, _, _, hi⟩, hst⟩ (by rw [q2]; exact h6) q1 q3 (by rw [hsl]; exact k2_hasslot (q4 k hk)) rfl rfl hd fun H' e1 e2 e3 => ?_
  rw [hsl] at e1 ⊢
  exact kk H' _ ls hX (hR.put e2 e3 ⟨_, hr, t_OB.to (V := updV (vp_V fs) k v) ⟨_, e1, q2, q3, t_set q4 hap hk v⟩ (fun j _ => vp_updV_set hl v j)⟩) (hS.put e2 e3 (hdm a (Or.inl ⟨_, ha⟩))) (fun q hq => hdm q (dmA_up ha q hq)) hL
theorem A_putF {i ci k a : Nat} {fs : List Value} {v : Value} {ty : FieldType} (hini : ini = true) (hd : decode cc pc = .ok (.putfield i, 3)) (F : FP own i ci k ty true) (ha : h.1 a = some (ob ci fs)) (hl : k < fs.length) (hn : narrow ty v = v) (hfit : fits ty v = true) (kk : WA X G own cc ini ret Qp d mc ms (upH h a (ob ci (fs.set k v))) uc us (pc + 3) lv st) : WA X G own cc ini ret Qp d mc ms h uc us pc lv (v :: .ref a :: st) := by
  obtain ⟨p, e, s, m, args, below, meth, c, h0⟩ := X
  intro H locs ls hX hR hS hdm hL
  obtain ⟨⟨r, hr, hk, hw⟩, hF⟩ := F
  obtain ⟨hpd, hfin, hdecl⟩ := hF r hr
  have hdecl := hdecl rfl
  have hK := hX.2.2.2.2.2.2.2.1.1
  have hts := hX.2.2.2.2.1
  have hin := inG ci r hr
  obtain ⟨hty, hnm⟩ := tyG ci r hr
  obtain ⟨ty0, hty⟩ := hty
  have hap := va_apart (own := own) hts hin ty0 hty hnm hK hr
  obtain ⟨r', h1, cell, q1, q2, q3, q4⟩ := hR.2 a _ ha
  cases hr.symm.trans h1
  obtain ⟨hSl, hfc, kC, hkC, hkind⟩ := hK.1 ci _ hr
  obtain ⟨cf, kf, fi, f, hi, hsl⟩ := hSl k hk
  have hlay := hts _ (hin _ (u_in_lay hk))
  unfold u_lay at hlay
  rw [if_pos hfin] at hlay
  have hst := (u_facts hfc hkC (u_lays hts hin hk) hi).1
  have hcf : m.cls = cf := by
    obtain ⟨_, _, c', _, _, _, -, -, hf', -, -, -, hown2, -⟩ := Cond.laysFinal_spec hlay
    have e1 : c' = cf := by have := hi.symm.trans hf'; simp at this; exact this.1.symm
    rw [hdecl] at hown2
    rw [← e1]; exact Option.some.inj (hX.2.2.2.1.symm.trans hown2)
  have h6 := u_fits hfc hkC hkind (Or.inr hlay) hi hpd hn hfit
  refine W.putFinK hX.1 hX.2.1 hX.2.2.2.1 (hts _ hw) hi hst hcf (hX.2.2.2.2.2.2.1 hini) (by rw [q2]; exact h6) q1 q3 (by rw [hsl]; exact k2_hasslot (q4 k hk)) rfl rfl hd fun H' e1 e2 e3 => ?_
  rw [hsl] at e1 ⊢
  exact kk H' _ ls hX (hR.put e2 e3 ⟨_, hr, t_OB.to (V := updV (vp_V fs) k v) ⟨_, e1, q2, q3, t_set q4 hap hk v⟩ (fun j _ => vp_updV_set hl v j)⟩) (hS.put e2 e3 (hdm a (Or.inl ⟨_, ha⟩))) (fun q hq => hdm q (dmA_up ha q hq)) hL
theorem A_iald {a n : Nat} {f : Nat → Int32} {i : Int32} (hd : decode cc pc = .ok (.iaload, 1)) (ha : h.1 a = some (aI n f)) (hin : vp_in i n) (kk : WA X G own cc ini ret Qp d mc ms h uc us (pc + 1) lv (.int (f i.toNatClampNeg) :: st)) : WA X G own cc ini ret Qp d mc ms h uc us pc lv (.int i :: .ref a :: st) := by
  obtain ⟨p, e, s, m, args, below, meth, c, h0⟩ := X
  intro H locs ls hX hR hS hdm hL
  exact va_iald hX.1 hX.2.1 hX.2.2.2.2.2.2.2.1.1 (hR.P1 ha) 0 0 rfl rfl hin hd (kk H locs ls hX hR hS hdm hL)
theorem A_bald {a n : Nat} {f : Nat → Int32} {i : Int32} (hd : decode cc pc = .ok (.baload, 1)) (ha : h.1 a = some (aB n f)) (hin : vp_in i n) (kk : WA X G own cc ini ret Qp d mc ms h uc us (pc + 1) lv (.int (f i.toNatClampNeg) :: st)) : WA X G own cc ini ret Qp d mc ms h uc us pc lv (.int i :: .ref a :: st) := by
  obtain ⟨p, e, s, m, args, below, meth, c, h0⟩ := X
  intro H locs ls hX hR hS hdm hL
  exact va_bald hX.1 hX.2.1 hX.2.2.2.2.2.2.2.1.1 (hR.P1 ha) 0 2 rfl rfl hin hd (kk H locs ls hX hR hS hdm hL)
theorem A_zald {a n : Nat} {f : Nat → Int32} {i : Int32} (hd : decode cc pc = .ok (.baload, 1)) (ha : h.1 a = some (aZ n f)) (hin : vp_in i n) (kk : WA X G own cc ini ret Qp d mc ms h uc us (pc + 1) lv (.int (f i.toNatClampNeg) :: st)) : WA X G own cc ini ret Qp d mc ms h uc us pc lv (.int i :: .ref a :: st) := by
  obtain ⟨p, e, s, m, args, below, meth, c, h0⟩ := X
  intro H locs ls hX hR hS hdm hL
  exact va_zald hX.1 hX.2.1 hX.2.2.2.2.2.2.2.1.1 (hR.P1 ha) 0 3 rfl rfl hin hd (kk H locs ls hX hR hS hdm hL)
theorem A_lald {a n : Nat} {f : Nat → Int64} {i : Int32} (hd : decode cc pc = .ok (.laload, 1)) (ha : h.1 a = some (aJ n f)) (hin : vp_in i n) (kk : WA X G own cc ini ret Qp d mc ms h uc us (pc + 1) lv (.long (f i.toNatClampNeg) :: st)) : WA X G own cc ini ret Qp d mc ms h uc us pc lv (.int i :: .ref a :: st) := by
  obtain ⟨p, e, s, m, args, below, meth, c, h0⟩ := X
  intro H locs ls hX hR hS hdm hL
  exact va_lald hX.1 hX.2.1 hX.2.2.2.2.2.2.2.1.1 (hR.P1 ha) 0 1 rfl rfl hin hd (kk H locs ls hX hR hS hdm hL)
theorem A_aald {a n k : Nat} {C : String} {f : Nat → Option Nat} {i : Int32} (hd : decode cc pc = .ok (.aaload, 1)) (ha : h.1 a = some (aQ k n f)) (hk : tysL[k]? = some (.object C)) (hin : vp_in i n) (kk : WA X G own cc ini ret Qp d mc ms h uc us (pc + 1) lv (va_rf (f i.toNatClampNeg) :: st)) : WA X G own cc ini ret Qp d mc ms h uc us pc lv (.int i :: .ref a :: st) := by
  obtain ⟨p, e, s, m, args, below, meth, c, h0⟩ := X
  intro H locs ls hX hR hS hdm hL
  exact va_aldq (C := C) hX.1 hX.2.1 hX.2.2.2.2.2.2.2.1.1 (hR.P1 ha) 0 k rfl (tysG_at hk) hin hd (kk H locs ls hX hR hS hdm hL)
theorem A_alenI {a n : Nat} {f : Nat → Int32} {v : Int32} (hd : decode cc pc = .ok (.arraylength, 1)) (ha : h.1 a = some (aI n f)) (hv : Int32.ofNat n = v) (kk : WA X G own cc ini ret Qp d mc ms h uc us (pc + 1) lv (.int v :: st)) : WA X G own cc ini ret Qp d mc ms h uc us pc lv (.ref a :: st) := by
  obtain ⟨p, e, s, m, args, below, meth, c, h0⟩ := X
  intro H locs ls hX hR hS hdm hL
  exact va_alen hX.1 hX.2.1 hX.2.2.2.2.2.2.2.1.1 (hR.P1 ha) 0 0 rfl rfl hv hd (kk H locs ls hX hR hS hdm hL)
theorem A_alenJ {a n : Nat} {f : Nat → Int64} {v : Int32} (hd : decode cc pc = .ok (.arraylength, 1)) (ha : h.1 a = some (aJ n f)) (hv : Int32.ofNat n = v) (kk : WA X G own cc ini ret Qp d mc ms h uc us (pc + 1) lv (.int v :: st)) : WA X G own cc ini ret Qp d mc ms h uc us pc lv (.ref a :: st) := by
  obtain ⟨p, e, s, m, args, below, meth, c, h0⟩ := X
  intro H locs ls hX hR hS hdm hL
  exact va_alen hX.1 hX.2.1 hX.2.2.2.2.2.2.2.1.1 (hR.P1 ha) 0 1 rfl rfl hv hd (kk H locs ls hX hR hS hdm hL)
theorem A_iast {a n : Nat} {f : Nat → Int32} {i x : Int32} (hd : decode cc pc = .ok (.iastore, 1)) (ha : h.1 a = some (aI n f)) (hin : vp_in i n) (kk : WA X G own cc ini ret Qp d mc ms (upH h a (aI n (upd f i.toNatClampNeg x))) uc us (pc + 1) lv st) : WA X G own cc ini ret Qp d mc ms h uc us pc lv (.int x :: .int i :: .ref a :: st) := by
  obtain ⟨p, e, s, m, args, below, meth, c, h0⟩ := X
  intro H locs ls hX hR hS hdm hL
  have hK := hX.2.2.2.2.2.2.2.1.1
  refine W.iast hX.1 hX.2.1 (hR.2 a _ ha) ((hK.2 0 _ rfl).1 n (fun j => .int (f j))) (fun q => by cases q) (by show ¬ (i < 0 ∨ (arrV _ _ _).slots.size ≤ _); rw [arrV_size]; exact hin) rfl rfl hd fun H1 e z oq => ?_
  refine kk H1 _ ls hX (hR.put z oq ?_) (hS.put z oq (hdm a (Or.inl ⟨_, ha⟩))) (fun q hq => hdm q (dmA_up ha q hq)) hL
  show H1[a]? = some (vp_cell _ _)
  rw [e]
  show some (Cell.setSlot (vp_cell _ (n, .inl f)) _ _) = some (vp_cell _ (n, .inl _))
  rw [vp_cell_i, vp_cell_i, arrV_store]
  congr 2
  funext q
  by_cases hq : q = i.toNatClampNeg
  · subst hq
    simp [updV, upd]
  · simp [updV, upd, hq]
theorem A_bast {a n : Nat} {f : Nat → Int32} {i x : Int32} (hd : decode cc pc = .ok (.bastore, 1)) (ha : h.1 a = some (aB n f)) (hin : vp_in i n) (kk : WA X G own cc ini ret Qp d mc ms (upH h a (aB n (upd f i.toNatClampNeg (vp_nar .byte x)))) uc us (pc + 1) lv st) : WA X G own cc ini ret Qp d mc ms h uc us pc lv (.int x :: .int i :: .ref a :: st) := by
  obtain ⟨p, e, s, m, args, below, meth, c, h0⟩ := X
  intro H locs ls hX hR hS hdm hL
  have hK := hX.2.2.2.2.2.2.2.1.1
  refine W.bast hX.1 hX.2.1 (hR.2 a _ ha) ((hK.2 2 _ rfl).1 n (fun j => .int (f j))) (fun q => by cases q) (by show ¬ (i < 0 ∨ (arrV _ _ _).slots.size ≤ _); rw [arrV_size]; exact hin) rfl rfl hd fun H1 e z oq => ?_
  refine kk H1 _ ls hX (hR.put z oq ?_) (hS.put z oq (hdm a (Or.inl ⟨_, ha⟩))) (fun q hq => hdm q (dmA_up ha q hq)) hL
  show H1[a]? = some (vp_cell _ _)
  rw [e]
  show some (Cell.setSlot (vp_cell _ (n, .inl f)) _ _) = some (vp_cell _ (n, .inl _))
  rw [vp_cell_i, vp_cell_i, arrV_store]
  congr 2
  funext q
  by_cases hq : q = i.toNatClampNeg
  · subst hq
    simp [updV, upd, vp_nar]
    try rfl
  · simp [updV, upd, hq]
theorem A_zast {a n : Nat} {f : Nat → Int32} {i x : Int32} (hd : decode cc pc = .ok (.bastore, 1)) (ha : h.1 a = some (aZ n f)) (hin : vp_in i n) (kk : WA X G own cc ini ret Qp d mc ms (upH h a (aZ n (upd f i.toNatClampNeg (vp_nar .boolean x)))) uc us (pc + 1) lv st) : WA X G own cc ini ret Qp d mc ms h uc us pc lv (.int x :: .int i :: .ref a :: st) := by
  obtain ⟨p, e, s, m, args, below, meth, c, h0⟩ := X
  intro H locs ls hX hR hS hdm hL
  have hK := hX.2.2.2.2.2.2.2.1.1
  refine W.zast hX.1 hX.2.1 (hR.2 a _ ha) ((hK.2 3 _ rfl).1 n (fun j => .int (f j))) (fun q => by cases q) (by show ¬ (i < 0 ∨ (arrV _ _ _).slots.size ≤ _); rw [arrV_size]; exact hin) rfl rfl hd fun H1 e z oq => ?_
  refine kk H1 _ ls hX (hR.put z oq ?_) (hS.put z oq (hdm a (Or.inl ⟨_, ha⟩))) (fun q hq => hdm q (dmA_up ha q hq)) hL
  show H1[a]? = some (vp_cell _ _)
  rw [e]
  show some (Cell.setSlot (vp_cell _ (n, .inl f)) _ _) = some (vp_cell _ (n, .inl _))
  rw [vp_cell_i, vp_cell_i, arrV_store]
  congr 2
  funext q
  by_cases hq : q = i.toNatClampNeg
  · subst hq
    simp [updV, upd, vp_nar]
    try rfl
  · simp [updV, upd, hq]
theorem A_last {a n : Nat} {f : Nat → Int64} {i : Int32} {x : Int64} (hd : decode cc pc = .ok (.lastore, 1)) (ha : h.1 a = some (aJ n f)) (hin : vp_in i n) (kk : WA X G own cc ini ret Qp d mc ms (upH h a (aJ n (vp_updL f i.toNatClampNeg x))) uc us (pc + 1) lv st) : WA X G own cc ini ret Qp d mc ms h uc us pc lv (.long x :: .int i :: .ref a :: st) := by
  obtain ⟨p, e, s, m, args, below, meth, c, h0⟩ := X
  intro H locs ls hX hR hS hdm hL
  have hK := hX.2.2.2.2.2.2.2.1.1
  refine W.last hX.1 hX.2.1 (hR.2 a _ ha) ((hK.2 1 _ rfl).1 n (fun j => .long (f j))) (fun q => by cases q) (by show ¬ (i < 0 ∨ (arrV _ _ _).slots.size ≤ _); rw [arrV_size]; exact hin) rfl rfl hd fun H1 e z oq => ?_
  refine kk H1 _ ls hX (hR.put z oq ?_) (hS.put z oq (hdm a (Or.inl ⟨_, ha⟩))) (fun q hq => hdm q (dmA_up ha q hq)) hL
  show H1[a]? = some (vp_cell _ _)
  rw [e]
  show some (Cell.setSlot (vp_cell _ (n, .inr (.inl f))) _ _) = some (vp_cell _ (n, .inr (.inl _)))
  rw [vp_cell_l, vp_cell_l, arrV_store]
  congr 2
  funext q
  by_cases hq : q = i.toNatClampNeg
  · subst hq
    simp [updV, vp_updL]
  · simp [updV, vp_updL, hq]
/-- a new object of class ci, its fields as made -/
theorem A_new {i ci : Nat} {r : vw_C} {fs : List Value} (hd : decode cc pc = .ok (.new i, 3)) (hr : vwCl[ci]? = some r) (hw : Cond.classLink own i r.1 ∈ wsG ∧ Cond.instantiable r.1 r.2.2 ∈ wsG ∧ Cond.initialized r.1 ∈ wsG) (ty : Nat → FieldType) (hty : ∀ k, k < r.2.2 → parseFieldDescriptor (r.2.1 k).2.2.1 = some (ty k)) (hfs : ∀ j, j < r.2.2 → defaultValue (ty j) = vp_V fs j) (hc : uc + 1 ≤ mc) (hs : us + r.2.2 ≤ ms) (kk : WA X G own cc ini ret Qp d mc ms (nwH h (ob ci fs)) (uc + 1) (us + r.2.2) (pc + 3) lv (.ref h.2 :: st)) : WA X G own cc ini ret Qp d mc ms h uc us pc lv st := by
  obtain ⟨p, e, s, m, args, below, meth, c, h0⟩ := X
  intro H locs ls hX hR hS hdm hL
  have hts := hX.2.2.2.2.1
  have hKn := hX.2.2.2.2.2.2.2.1.1.1 ci _ hr
  refine W.newcK hX.1 hX.2.1 hX.2.2.2.1 (hts _ hw.1) (hts _ hw.2.1) (hts _ hw.2.2) rfl hd hc hs hKn.2.1 rfl fun H1 kC hkC e1 z1 o1 => ?_
  have key := kk H1 locs ls hX (hR.new z1 o1 ⟨_, hr, (u_born ty hts (inG ci r hr) hKn hkC e1 hty).to hfs⟩) ⟨Nat.le_trans hS.1 (by omega), fun x g1 g2 => (o1 x (Nat.lt_of_lt_of_le g1 hS.1)).trans (hS.2.1 x g1 g2), hS.2.2⟩ (fun q hq => hdm q (dmA_nw q hq)) hL
  rw [← hR.1] at key
  exact key
theorem A_newI {n : Int32} {N : Nat} (hd : decode cc pc = .ok (.newarray .int, 2)) (hw : Cond.arrayClass .int ∈ wsG) (hn : ¬ n < 0) (hN : n.toNatClampNeg = N) (hb : N * 4 ≤ 536870912) (hc : uc + 1 ≤ mc) (hs : us + N ≤ ms) (kk : WA X G own cc ini ret Qp d mc ms (nwH h (aI N (fun _ => 0))) (uc + 1) (us + N) (pc + 2) lv (.ref h.2 :: st)) : WA X G own cc ini ret Qp d mc ms h uc us pc lv (.int n :: st) := by
  obtain ⟨p, e, s, m, args, below, meth, c, h0⟩ := X
  intro H locs ls hX hR hS hdm hL
  have hK := hX.2.2.2.2.2.2.2.1.1
  refine va_newaK (atype := .int) hX.1 hX.2.1 (hX.2.2.2.2.1 _ hw) rfl hd rfl hn hN hb hc hs rfl fun H1 cA e1 z1 o1 hAr hNm => ?_
  have hcA : gC G 0 = cA := Option.some.inj ((hK.2 0 _ rfl).2.symm.trans hNm)
  have key := kk H1 locs ls hX (hR.new z1 o1 (by show H1[H.size]? = some (vp_cell (gC G 0) (N, .inl (fun _ => 0))); rw [hcA]; exact e1)) ⟨Nat.le_trans hS.1 (by omega), fun x g1 g2 => (o1 x (Nat.lt_of_lt_of_le g1 hS.1)).trans (hS.2.1 x g1 g2), hS.2.2⟩ (fun q hq => hdm q (dmA_nw q hq)) hL
  rw [← hR.1] at key
  exact key
theorem A_newB {n : Int32} {N : Nat} (hd : decode cc pc = .ok (.newarray .byte, 2)) (hw : Cond.arrayClass .byte ∈ wsG) (hn : ¬ n < 0) (hN : n.toNatClampNeg = N) (hb : N * 1 ≤ 536870912) (hc : uc + 1 ≤ mc) (hs : us + N ≤ ms) (kk : WA X G own cc ini ret Qp d mc ms (nwH h (aB N (fun _ => 0))) (uc + 1) (us + N) (pc + 2) lv (.ref h.2 :: st)) : WA X G own cc ini ret Qp d mc ms h uc us pc lv (.int n :: st) := by
  obtain ⟨p, e, s, m, args, below, meth, c, h0⟩ := X
  intro H locs ls hX hR hS hdm hL
  have hK := hX.2.2.2.2.2.2.2.1.1
  refine va_newaK (atype := .byte) hX.1 hX.2.1 (hX.2.2.2.2.1 _ hw) rfl hd rfl hn hN hb hc hs rfl fun H1 cA e1 z1 o1 hAr hNm => ?_
  have hcA : gC G 2 = cA := Option.some.inj ((hK.2 2 _ rfl).2.symm.trans hNm)
  have key := kk H1 locs ls hX (hR.new z1 o1 (by show H1[H.size]? = some (vp_cell (gC G 2) (N, .inl (fun _ => 0))); rw [hcA]; exact e1)) ⟨Nat.le_trans hS.1 (by omega), fun x g1 g2 => (o1 x (Nat.lt_of_lt_of_le g1 hS.1)).trans (hS.2.1 x g1 g2), hS.2.2⟩ (fun q hq => hdm q (dmA_nw q hq)) hL
  rw [← hR.1] at key
  exact key
theorem A_newZ {n : Int32} {N : Nat} (hd : decode cc pc = .ok (.newarray .boolean, 2)) (hw : Cond.arrayClass .boolean ∈ wsG) (hn : ¬ n < 0) (hN : n.toNatClampNeg = N) (hb : N * 1 ≤ 536870912) (hc : uc + 1 ≤ mc) (hs : us + N ≤ ms) (kk : WA X G own cc ini ret Qp d mc ms (nwH h (aZ N (fun _ => 0))) (uc + 1) (us + N) (pc + 2) lv (.ref h.2 :: st)) : WA X G own cc ini ret Qp d mc ms h uc us pc lv (.int n :: st) := by
  obtain ⟨p, e, s, m, args, below, meth, c, h0⟩ := X
  intro H locs ls hX hR hS hdm hL
  have hK := hX.2.2.2.2.2.2.2.1.1
  refine va_newaK (atype := .boolean) hX.1 hX.2.1 (hX.2.2.2.2.1 _ hw) rfl hd rfl hn hN hb hc hs rfl fun H1 cA e1 z1 o1 hAr hNm => ?_
  have hcA : gC G 3 = cA := Option.some.inj ((hK.2 3 _ rfl).2.symm.trans hNm)
  have key := kk H1 locs ls hX (hR.new z1 o1 (by show H1[H.size]? = some (vp_cell (gC G 3) (N, .inl (fun _ => 0))); rw [hcA]; exact e1)) ⟨Nat.le_trans hS.1 (by omega), fun x g1 g2 => (o1 x (Nat.lt_of_lt_of_le g1 hS.1)).trans (hS.2.1 x g1 g2), hS.2.2⟩ (fun q hq => hdm q (dmA_nw q hq)) hL
  rw [← hR.1] at key
  exact key
theorem A_newJ {n : Int32} {N : Nat} (hd : decode cc pc = .ok (.newarray .long, 2)) (hw : Cond.arrayClass .long ∈ wsG) (hn : ¬ n < 0) (hN : n.toNatClampNeg = N) (hb : N * 8 ≤ 536870912) (hc : uc + 1 ≤ mc) (hs : us + N ≤ ms) (kk : WA X G own cc ini ret Qp d mc ms (nwH h (aJ N (fun _ => 0))) (uc + 1) (us + N) (pc + 2) lv (.ref h.2 :: st)) : WA X G own cc ini ret Qp d mc ms h uc us pc lv (.int n :: st) := by
  obtain ⟨p, e, s, m, args, below, meth, c, h0⟩ := X
  intro H locs ls hX hR hS hdm hL
  have hK := hX.2.2.2.2.2.2.2.1.1
  refine va_newaK (atype := .long) hX.1 hX.2.1 (hX.2.2.2.2.1 _ hw) rfl hd rfl hn hN hb hc hs rfl fun H1 cA e1 z1 o1 hAr hNm => ?_
  have hcA : gC G 1 = cA := Option.some.inj ((hK.2 1 _ rfl).2.symm.trans hNm)
  have key := kk H1 locs ls hX (hR.new z1 o1 (by show H1[H.size]? = some (vp_cell (gC G 1) (N, .inr (.inl (fun _ => 0)))); rw [hcA]; exact e1)) ⟨Nat.le_trans hS.1 (by omega), fun x g1 g2 => (o1 x (Nat.lt_of_lt_of_le g1 hS.1)).trans (hS.2.1 x g1 g2), hS.2.2⟩ (fun q hq => hdm q (dmA_nw q hq)) hL
  rw [← hR.1] at key
  exact key
/-- a new row of references -/
theorem A_newQ {i k : Nat} {C : String} {n : Int32} {N : Nat} (hd : decode cc pc = .ok (.anewarray i, 3)) (hw : Cond.classLink own i C ∈ wsG) (hk : tysL[k]? = some (.object C)) (hn : ¬ n < 0) (hN : n.toNatClampNeg = N) (hb : N * 4 ≤ 536870912) (hc : uc + 1 ≤ mc) (hs : us + N ≤ ms) (kk : WA X G own cc ini ret Qp d mc ms (nwH h (aQ k N (fun _ => none))) (uc + 1) (us + N) (pc + 3) lv (.ref h.2 :: st)) : WA X G own cc ini ret Qp d mc ms h uc us pc lv (.int n :: st) := by
  obtain ⟨p, e, s, m, args, below, meth, c, h0⟩ := X
  intro H locs ls hX hR hS hdm hL
  have hE := hX.2.2.2.2.2.2.2.1
  have hK := hE.1
  have hAO : va_AO C s := tysL_AO hE hk
  subst hN
  refine W.anew hX.1 hX.2.1 hX.2.2.2.1 (hX.2.2.2.2.1 _ hw) (va_AO.use hAO) rfl hd rfl hn hb hc hs fun cA kA comp f1 f2 f3 f4 => ?_
  generalize hH1 : H.push ({ cls := cA, slots := Array.replicate n.toNatClampNeg .null, vm := .none } : Cell) = H1
  have z1 : H1.size = H.size + 1 := by rw [← hH1, Array.size_push]
  have e1 : H1[H.size]? = some (arrV cA n.toNatClampNeg (fun _ => .null)) := by rw [← hH1, Array.getElem?_push_size, ← arrV_new]
  have o1 : ∀ q : Nat, q < H.size → H1[q]? = H[q]? := fun q hq => by rw [← hH1, Array.getElem?_push, if_neg (Nat.ne_of_lt hq)]
  have hRA := (hK.2 k _ (tysG_at hk)).2
  obtain ⟨kA2, comp2, g1, g2, g3, g4⟩ := hRA
  have hcA : gC G k = cA := Option.some.inj (g4.symm.trans f1)
  have key := kk H1 locs ls hX (hR.new z1 o1 (by show H1[H.size]? = some (vp_cell (gC G k) (_, .inr (.inr (.inr (.inr (fun _ => none)))))); rw [hcA, vp_cell_q]; exact e1)) ⟨Nat.le_trans hS.1 (by omega), fun x g1 g2 => (o1 x (Nat.lt_of_lt_of_le g1 hS.1)).trans (hS.2.1 x g1 g2), hS.2.2⟩ (fun q hq => hdm q (dmA_nw q hq)) hL
  rw [← hR.1] at key
  exact key
theorem A_aast {a n k v ci : Nat} {f : Nat → Option Nat} {i : Int32} {r : vw_C} {vs : List Value} (hd : decode cc pc = .ok (.aastore, 1)) (ha : h.1 a = some (aQ k n f)) (hk : tysL[k]? = some (.object r.1)) (hv : h.1 v = some (ob ci vs)) (hr : vwCl[ci]? = some r) (hin : vp_in i n) (kk : WA X G own cc ini ret Qp d mc ms (upH h a (aQ k n (va_up f i.toNatClampNeg (some v)))) uc us (pc + 1) lv st) : WA X G own cc ini ret Qp d mc ms h uc us pc lv (.ref v :: .int i :: .ref a :: st) := by
  obtain ⟨p, e, s, m, args, below, meth, c, h0⟩ := X
  intro H locs ls hX hR hS hdm hL
  have hK := hX.2.2.2.2.2.2.2.1.1
  have hlt : i.toNatClampNeg < n := Nat.not_le.mp fun q => hin (Or.inr q)
  have h0' : ¬ i < 0 := fun q => hin (Or.inl q)
  obtain ⟨r', hr', cellV, g1, g2, g3, -⟩ := hR.2 v _ hv
  have hcls := (hK.1 ci r hr).2
  obtain ⟨kA, comp, k1, k2, k3, -⟩ := (hK.2 k _ (tysG_at hk)).2
  have hcomp : comp = (gD G).1 ci := Option.some.inj (k3.symm.trans hcls.1)
  subst hcomp
  obtain ⟨kC, hkC, -⟩ := hcls.2
  refine W.aast hX.1 hX.2.1 (hR.2 a _ ha) (fun q h => by cases h) (fun h => by cases h) k1 k2 rfl hkC ⟨h0', by show _ < (arrV _ _ _).slots.size; rw [arrV_size]; exact hlt⟩ g1 (fun q h => by rw [g3] at h; cases h) (by rw [g2]; exact hkC) (by rw [g2]; exact va_assign hcls) rfl rfl hd fun H1 e z oq => ?_
  refine kk H1 _ ls hX (hR.put z oq ?_) (hS.put z oq (hdm a (Or.inl ⟨_, ha⟩))) (fun q hq => hdm q (dmA_up ha q hq)) hL
  show H1[a]? = some (vp_cell _ _)
  rw [e]
  show some (Cell.setSlot (vp_cell _ (n, .inr (.inr (.inr (.inr f))))) _ _) = some (vp_cell _ (n, .inr (.inr (.inr (.inr _)))))
  rw [vp_cell_q, vp_cell_q, arrV_store]
  congr 2
  funext q
  by_cases hq : q = i.toNatClampNeg
  · subst hq
    simp [updV, va_up, va_rf]
  · simp [updV, va_up, hq]
theorem A_copyI {a0 a n0 n1 i : Nat} {f g : Nat → Int32} {sp dp n : Int32} (hd : decode cc pc = .ok (.invokestatic i, 3)) (hw : Cond.methodLink own i arraycopyName ∈ wsG) (ha0 : h.1 a0 = some (aI n0 f)) (ha : h.1 a = some (aI n1 g)) (h1 : ¬ sp < 0) (h2 : ¬ dp < 0) (h3 : ¬ n < 0) (h4 : sp.toNatClampNeg + n.toNatClampNeg ≤ n0) (h5 : dp.toNatClampNeg + n.toNatClampNeg ≤ n1) (hfr : 1 ≤ d) (hcat : (st.map fun v => v.category).sum + (nativeFrameWords "java/lang/System" "arraycopy" 5 + 11) ≤ 64 * d) (kk : WA X G own cc ini ret Qp d mc ms (upH h a (aI n1 (va_cpy f g sp.toNatClampNeg dp.toNatClampNeg n.toNatClampNeg))) uc us (pc + 3) lv st) : WA X G own cc ini ret Qp d mc ms h uc us pc lv (.int n :: .int dp :: .ref a :: .int sp :: .ref a0 :: st) := by
  obtain ⟨p, e, s, m, args, below, meth, c, h0⟩ := X
  intro H locs ls hX hR hS hdm hL
  have hts := hX.2.2.2.2.1
  have hK := hX.2.2.2.2.2.2.2.1.1
  have nn : ∀ z : Int32, ¬ z < 0 → z.toInt = (z.toNatClampNeg : Int) := by
    intro z hz
    have hz0 : (0 : Int) ≤ z.toInt := by
      have := Int32.not_lt.mp hz
      simpa using Int32.le_iff_toInt_le.mp this
    show z.toInt = ((z.toInt.toNat : Nat) : Int)
    omega
  intro T hT X
  have hc0 : H[a0]? = some (vp_cell (gC G 0) (n0, .inl f)) := hR.2 a0 _ ha0
  have hc1 : H[a]? = some (vp_cell (gC G 0) (n1, .inl g)) := hR.2 a _ ha
  obtain ⟨-, k0, hk0, cm0, hkk0⟩ := (hK.2 0 _ rfl).1 n0 (fun j => .int (f j))
  obtain ⟨-, k1, hk1, cm1, hkk1⟩ := (hK.2 0 _ rfl).1 n1 (fun j => .int (g j))
  obtain ⟨vm', X', step⟩ := X.arraycopy hX.1 hX.2.2.2.1 (hts _ hw) (hts _ w_acNative) (hts _ w_acStatic) (hts _ w_acInit) (src := a0) (dst := a) (cs := vp_cell (gC G 0) (n0, .inl f)) (cd := vp_cell (gC G 0) (n1, .inl g)) (srcPos := sp) (destPos := dp) (n := n) (by rw [hT]; exact hc0) (by rw [hT]; exact hc1)
    (fun _ h => by cases h) (fun _ h => by cases h) (fun h => by cases h) (fun h => by cases h) hk0 hk1 hkk0 hkk1 (by simp [refKind]) h1 h2 h3
    (by rw [nn sp h1, nn n h3]; show ¬ _ > ((arrV (gC G 0) n0 (fun j => .int (f j))).slots.size : Int); rw [arrV_size]; omega)
    (by rw [nn dp h2, nn n h3]; show ¬ _ > ((arrV (gC G 0) n1 (fun j => .int (g j))).slots.size : Int); rw [arrV_size]; omega)
    (fun vm₁ _ i hi => by
      have e : (vp_cell (gC G 0) (n0, .inl f)).slots.getD (sp.toNatClampNeg + i) .null = .int (f (sp.toNatClampNeg + i)) := by
        show (arrV (gC G 0) n0 (fun j => .int (f j))).slots.getD _ _ = _
        rw [Array.getD_eq_getD_getElem?, arrV_read _ _ (by omega)]
        rfl
      refine ⟨?_, ?_⟩
      · rw [e]
        rfl
      · rw [e]
        exact trivial)
    (g := F0 m pc ls (.int n :: .int dp :: .ref a :: .int sp :: .ref a0 :: st)) rfl (hL.1.trans hX.2.2.2.2.2.2.2.2.2.2.1.symm) (rest := st) rfl (by rw [hX.2.1]; exact hd) hfr (by show 2 * 0 + _ + _ ≤ _; simp only [rmD]; omega)
  have e1 : copied (vp_cell (gC G 0) (n0, .inl f)) (vp_cell (gC G 0) (n1, .inl g)) sp dp n = vp_cell (gC G 0) (n1, .inl (va_cpy f g sp.toNatClampNeg dp.toNatClampNeg n.toNatClampNeg)) := va_copied (fun z => .int z) (gC G 0) (gC G 0) f g h4
  rw [e1] at X' step
  have hl : a < H.size := (Array.getElem?_eq_some_iff.mp hc1).1
  have hheap : ((T.setVm vm').setCell a (vp_cell (gC G 0) (n1, .inl (va_cpy f g sp.toNatClampNeg dp.toNatClampNeg n.toNatClampNeg)))).heap = H.setIfInBounds a (vp_cell (gC G 0) (n1, .inl (va_cpy f g sp.toNatClampNeg dp.toNatClampNeg n.toNatClampNeg))) := by rw [← hT]; rfl
  have oq : ∀ q : Nat, q ≠ a → (H.setIfInBounds a (vp_cell (gC G 0) (n1, .inl (va_cpy f g sp.toNatClampNeg dp.toNatClampNeg n.toNatClampNeg))))[q]? = H[q]? := fun q hq => by simp [Array.getElem?_setIfInBounds, Ne.symm hq]
  have hdA := hdm a (Or.inl ⟨_, ha⟩)
  obtain ⟨t, a1, b1⟩ := kk _ _ ls hX (hR.put (by simp) oq (show (H.setIfInBounds a _)[a]? = some _ by simp [Array.getElem?_setIfInBounds, hl])) ⟨by simp; exact hS.1, fun q g1 g2 => by
      rw [oq q (fun e => g2 (by rw [e]; exact hdA))]
      exact hS.2.1 q g1 g2, fun q hq => by
      rcases List.mem_append.mp hq with h | h
      · exact hS.2.2 q h
      · obtain ⟨z, -, hz⟩ := List.mem_map.mp h
        rw [← hz]
        exact hdA⟩ (fun q hq => hdm q (dmA_up ha q hq)) hL _ hheap X'
  exact ⟨t, step t a1, b1⟩
theorem A_copyJ {a0 a n0 n1 i : Nat} {f g : Nat → Int64} {sp dp n : Int32} (hd : decode cc pc = .ok (.invokestatic i, 3)) (hw : Cond.methodLink own i arraycopyName ∈ wsG) (ha0 : h.1 a0 = some (aJ n0 f)) (ha : h.1 a = some (aJ n1 g)) (h1 : ¬ sp < 0) (h2 : ¬ dp < 0) (h3 : ¬ n < 0) (h4 : sp.toNatClampNeg + n.toNatClampNeg ≤ n0) (h5 : dp.toNatClampNeg + n.toNatClampNeg ≤ n1) (hfr : 1 ≤ d) (hcat : (st.map fun v => v.category).sum + (nativeFrameWords "java/lang/System" "arraycopy" 5 + 11) ≤ 64 * d) (kk : WA X G own cc ini ret Qp d mc ms (upH h a (aJ n1 (va_cpy f g sp.toNatClampNeg dp.toNatClampNeg n.toNatClampNeg))) uc us (pc + 3) lv st) : WA X G own cc ini ret Qp d mc ms h uc us pc lv (.int n :: .int dp :: .ref a :: .int sp :: .ref a0 :: st) := by
  obtain ⟨p, e, s, m, args, below, meth, c, h0⟩ := X
  intro H locs ls hX hR hS hdm hL
  have hts := hX.2.2.2.2.1
  have hK := hX.2.2.2.2.2.2.2.1.1
  have nn : ∀ z : Int32, ¬ z < 0 → z.toInt = (z.toNatClampNeg : Int) := by
    intro z hz
    have hz0 : (0 : Int) ≤ z.toInt := by
      have := Int32.not_lt.mp hz
      simpa using Int32.le_iff_toInt_le.mp this
    show z.toInt = ((z.toInt.toNat : Nat) : Int)
    omega
  intro T hT X
  have hc0 : H[a0]? = some (vp_cell (gC G 1) (n0, .inr (.inl f))) := hR.2 a0 _ ha0
  have hc1 : H[a]? = some (vp_cell (gC G 1) (n1, .inr (.inl g))) := hR.2 a _ ha
  obtain ⟨-, k0, hk0, cm0, hkk0⟩ := (hK.2 1 _ rfl).1 n0 (fun j => .long (f j))
  obtain ⟨-, k1, hk1, cm1, hkk1⟩ := (hK.2 1 _ rfl).1 n1 (fun j => .long (g j))
  obtain ⟨vm', X', step⟩ := X.arraycopy hX.1 hX.2.2.2.1 (hts _ hw) (hts _ w_acNative) (hts _ w_acStatic) (hts _ w_acInit) (src := a0) (dst := a) (cs := vp_cell (gC G 1) (n0, .inr (.inl f))) (cd := vp_cell (gC G 1) (n1, .inr (.inl g))) (srcPos := sp) (destPos := dp) (n := n) (by rw [hT]; exact hc0) (by rw [hT]; exact hc1)
    (fun _ h => by cases h) (fun _ h => by cases h) (fun h => by cases h) (fun h => by cases h) hk0 hk1 hkk0 hkk1 (by simp [refKind]) h1 h2 h3
    (by rw [nn sp h1, nn n h3]; show ¬ _ > ((arrV (gC G 1) n0 (fun j => .long (f j))).slots.size : Int); rw [arrV_size]; omega)
    (by rw [nn dp h2, nn n h3]; show ¬ _ > ((arrV (gC G 1) n1 (fun j => .long (g j))).slots.size : Int); rw [arrV_size]; omega)
    (fun vm₁ _ i hi => by
      have e : (vp_cell (gC G 1) (n0, .inr (.inl f))).slots.getD (sp.toNatClampNeg + i) .null = .long (f (sp.toNatClampNeg + i)) := by
        show (arrV (gC G 1) n0 (fun j => .long (f j))).slots.getD _ _ = _
        rw [Array.getD_eq_getD_getElem?, arrV_read _ _ (by omega)]
        rfl
      refine ⟨?_, ?_⟩
      · rw [e]
        rfl
      · rw [e]
        exact trivial)
    (g := F0 m pc ls (.int n :: .int dp :: .ref a :: .int sp :: .ref a0 :: st)) rfl (hL.1.trans hX.2.2.2.2.2.2.2.2.2.2.1.symm) (rest := st) rfl (by rw [hX.2.1]; exact hd) hfr (by show 2 * 0 + _ + _ ≤ _; simp only [rmD]; omega)
  have e1 : copied (vp_cell (gC G 1) (n0, .inr (.inl f))) (vp_cell (gC G 1) (n1, .inr (.inl g))) sp dp n = vp_cell (gC G 1) (n1, .inr (.inl (va_cpy f g sp.toNatClampNeg dp.toNatClampNeg n.toNatClampNeg))) := va_copied (fun z => .long z) (gC G 1) (gC G 1) f g h4
  rw [e1] at X' step
  have hl : a < H.size := (Array.getElem?_eq_some_iff.mp hc1).1
  have hheap : ((T.setVm vm').setCell a (vp_cell (gC G 1) (n1, .inr (.inl (va_cpy f g sp.toNatClampNeg dp.toNatClampNeg n.toNatClampNeg))))).heap = H.setIfInBounds a (vp_cell (gC G 1) (n1, .inr (.inl (va_cpy f g sp.toNatClampNeg dp.toNatClampNeg n.toNatClampNeg)))) := by rw [← hT]; rfl
  have oq : ∀ q : Nat, q ≠ a → (H.setIfInBounds a (vp_cell (gC G 1) (n1, .inr (.inl (va_cpy f g sp.toNatClampNeg dp.toNatClampNeg n.toNatClampNeg)))))[q]? = H[q]? := fun q hq => by simp [Array.getElem?_setIfInBounds, Ne.symm hq]
  have hdA := hdm a (Or.inl ⟨_, ha⟩)
  obtain ⟨t, a1, b1⟩ := kk _ _ ls hX (hR.put (by simp) oq (show (H.setIfInBounds a _)[a]? = some _ by simp [Array.getElem?_setIfInBounds, hl])) ⟨by simp; exact hS.1, fun q g1 g2 => by
      rw [oq q (fun e => g2 (by rw [e]; exact hdA))]
      exact hS.2.1 q g1 g2, fun q hq => by
      rcases List.mem_append.mp hq with h | h
      · exact hS.2.2 q h
      · obtain ⟨z, -, hz⟩ := List.mem_map.mp h
        rw [← hz]
        exact hdA⟩ (fun q hq => hdm q (dmA_up ha q hq)) hL _ hheap X'
  exact ⟨t, step t a1, b1⟩
theorem A_min {x y : Int32} {i : Nat} (hd : decode cc pc = .ok (.invokestatic i, 3)) (hw : Cond.methodLink own i Lib.Math.min.name ∈ wsG) (hfr : 1 ≤ d) (hcat : (st.map fun v => v.category).sum + 13 ≤ 64 * d) (hb : uc ≤ mc ∧ us ≤ ms) (kk : WA X G own cc ini ret Qp d mc ms h uc us (pc + 3) lv (.int (if y < x then y else x) :: st)) : WA X G own cc ini ret Qp d mc ms h uc us pc lv (.int y :: .int x :: st) := by
  obtain ⟨p, e, s, m, args, below, meth, c, h0⟩ := X
  intro H locs ls hX hR hS hdm hL
  have hts := hX.2.2.2.2.1
  exact va_mmin hX.1 hX.2.1 (hX.2.2.2.2.2.2.2.2.2.2.1.trans hL.1.symm) hX.2.2.2.1 (hts _ hw) (hts _ w_minS) (hts _ w_mathI) (hts _ w_minC) hfr hcat hb.1 hb.2 hd (kk H locs ls hX hR hS hdm hL)
theorem A_max {x y : Int32} {i : Nat} (hd : decode cc pc = .ok (.invokestatic i, 3)) (hw : Cond.methodLink own i Lib.Math.max.name ∈ wsG) (hfr : 1 ≤ d) (hcat : (st.map fun v => v.category).sum + 13 ≤ 64 * d) (hb : uc ≤ mc ∧ us ≤ ms) (kk : WA X G own cc ini ret Qp d mc ms h uc us (pc + 3) lv (.int (if x < y then y else x) :: st)) : WA X G own cc ini ret Qp d mc ms h uc us pc lv (.int y :: .int x :: st) := by
  obtain ⟨p, e, s, m, args, below, meth, c, h0⟩ := X
  intro H locs ls hX hR hS hdm hL
  have hts := hX.2.2.2.2.1
  exact va_mmax hX.1 hX.2.1 (hX.2.2.2.2.2.2.2.2.2.2.1.trans hL.1.symm) hX.2.2.2.1 (hts _ hw) (hts _ w_maxS) (hts _ w_mathI) (hts _ w_maxC) hfr hcat hb.1 hb.2 hd (kk H locs ls hX hR hS hdm hL)
theorem A_maxL {x y : Int64} {i : Nat} (hd : decode cc pc = .ok (.invokestatic i, 3)) (hw : Cond.methodLink own i Lib.MathLoose.max_long.x ∈ wsG) (hfr : 1 ≤ d) (hcat : (st.map fun v => v.category).sum + 15 ≤ 64 * d) (hb : uc ≤ mc ∧ us ≤ ms) (kk : WA X G own cc ini ret Qp d mc ms h uc us (pc + 3) lv (.long (if y < x then x else y) :: st)) : WA X G own cc ini ret Qp d mc ms h uc us pc lv (.long y :: .long x :: st) := by
  obtain ⟨p, e, s, m, args, below, meth, c, h0⟩ := X
  intro H locs ls hX hR hS hdm hL
  have hts := hX.2.2.2.2.1
  exact va_mmax_long hX.1 hX.2.1 (hX.2.2.2.2.2.2.2.2.2.2.1.trans hL.1.symm) hX.2.2.2.1 (hts _ hw) (hts _ w_maxLS) (hts _ w_mathI) (hts _ w_maxLC) hfr hcat hb.1 hb.2 hd (kk H locs ls hX hR hS hdm hL)
theorem A_absL {x : Int64} {i : Nat} (hd : decode cc pc = .ok (.invokestatic i, 3)) (hw : Cond.methodLink own i Lib.MathLoose.abs_long.x ∈ wsG) (hfr : 1 ≤ d) (hcat : (st.map fun v => v.category).sum + 13 ≤ 64 * d) (hb : uc ≤ mc ∧ us ≤ ms) (kk : WA X G own cc ini ret Qp d mc ms h uc us (pc + 3) lv (.long (if 0 < x then x else -x) :: st)) : WA X G own cc ini ret Qp d mc ms h uc us pc lv (.long x :: st) := by
  obtain ⟨p, e, s, m, args, below, meth, c, h0⟩ := X
  intro H locs ls hX hR hS hdm hL
  have hts := hX.2.2.2.2.1
  exact va_mabs_long hX.1 hX.2.1 (hX.2.2.2.2.2.2.2.2.2.2.1.trans hL.1.symm) hX.2.2.2.1 (hts _ hw) (hts _ w_absLS) (hts _ w_mathI) (hts _ w_absLC) hfr hcat hb.1 hb.2 hd (kk H locs ls hX hR hS hdm hL)
theorem A_iret {Q : Int32 → AH → Prop} {x : Int32} (hd : decode cc pc = .ok (.ireturn, 1)) (hq : Q x h) (hb : uc ≤ mc ∧ us ≤ ms) : WA X G own cc ini (some .int) (qI Q) d mc ms h uc us pc lv [.int x] := by
  obtain ⟨p, e, s, m, args, below, meth, c, h0⟩ := X
  intro H locs ls hX hR hS hdm hL
  have hlocks := hX.2.2.2.2.2.1
  exact W.widen hb.1 hb.2 (W.iret hX.1 hX.2.1 hX.2.2.1 (fun t ht hW => ⟨⟨_, h, rfl, ⟨x, rfl, hq⟩, by rw [ht]; exact hR, hdm⟩, hS.F ht⟩) hS.2.2 hd hlocks)
theorem A_zret {Q : Int32 → AH → Prop} {x : Int32} {rt : FieldType} (hd : decode cc pc = .ok (.ireturn, 1)) (hn : narrow rt (.int x) = .int x) (hq : Q x h) (hb : uc ≤ mc ∧ us ≤ ms) : WA X G own cc ini (some rt) (qI Q) d mc ms h uc us pc lv [.int x] := by
  obtain ⟨p, e, s, m, args, below, meth, c, h0⟩ := X
  intro H locs ls hX hR hS hdm hL
  have hlocks := hX.2.2.2.2.2.1
  exact W.widen hb.1 hb.2 (W.zret hX.1 hX.2.1 hX.2.2.1 hn (fun t ht hW => ⟨⟨_, h, rfl, ⟨x, rfl, hq⟩, by rw [ht]; exact hR, hdm⟩, hS.F ht⟩) hS.2.2 hd hlocks)
theorem A_lret {Q : Int64 → AH → Prop} {x : Int64} (hd : decode cc pc = .ok (.lreturn, 1)) (hq : Q x h) (hb : uc ≤ mc ∧ us ≤ ms) : WA X G own cc ini (some .long) (qL Q) d mc ms h uc us pc lv [.long x] := by
  obtain ⟨p, e, s, m, args, below, meth, c, h0⟩ := X
  intro H locs ls hX hR hS hdm hL
  have hlocks := hX.2.2.2.2.2.1
  exact W.widen hb.1 hb.2 (W.lret hX.1 hX.2.1 hX.2.2.1 (fun t ht hW => ⟨⟨_, h, rfl, ⟨x, rfl, hq⟩, by rw [ht]; exact hR, hdm⟩, hS.F ht⟩) hS.2.2 hd hlocks)
theorem A_vret {Q : AH → Prop} (hd : decode cc pc = .ok (.return_, 1)) (hq : Q h) (hb : uc ≤ mc ∧ us ≤ ms) : WA X G own cc ini none (qV Q) d mc ms h uc us pc lv [] := by
  obtain ⟨p, e, s, m, args, below, meth, c, h0⟩ := X
  intro H locs ls hX hR hS hdm hL
  have hlocks := hX.2.2.2.2.2.1
  exact W.widen hb.1 hb.2 (W.vret hX.1 hX.2.1 hX.2.2.1 (fun t ht hW => ⟨⟨_, h, rfl, ⟨rfl, hq⟩, by rw [ht]; exact hR, hdm⟩, hS.F ht⟩) hS.2.2 hd hlocks)
theorem A_aret {Q : Nat → AH → Prop} {x : Nat} {nm : String} (hd : decode cc pc = .ok (.areturn, 1)) (hq : Q x h) (hb : uc ≤ mc ∧ us ≤ ms) : WA X G own cc ini (some (.object nm)) (qR Q) d mc ms h uc us pc lv [.ref x] := by
  obtain ⟨p, e, s, m, args, below, meth, c, h0⟩ := X
  intro H locs ls hX hR hS hdm hL
  have hlocks := hX.2.2.2.2.2.1
  exact W.widen hb.1 hb.2 (W.aret hX.1 hX.2.1 hX.2.2.1 (Or.inl ⟨_, rfl⟩) (Or.inr ⟨_, rfl⟩) (fun t ht hW => ⟨⟨_, h, rfl, ⟨x, rfl, hq⟩, by rw [ht]; exact hR, hdm⟩, hS.F ht⟩) hS.2.2 hd hlocks)
end WARULES
def CB (y : MethodName) (bytes : ByteArray) (maxL : Nat) (ret : Option FieldType) (n : Nat) : Prop := Cond.code y bytes maxL ret ∈ wsG ∧ Cond.initialized y.cls ∈ wsG ∧ y.cls ≠ "java/lang/invoke/MethodHandle" ∧ y.cls ≠ "java/lang/invoke/VarHandle" ∧ (parseMethodDescriptor y.desc).map (fun d => d.parameters.length) = some n
def CV (own : String) (i : Nat) (y : MethodName) : Prop := Cond.methodLink own i y ∈ wsG ∧ Cond.instanceMethod y ∈ wsG ∧ Cond.selects y.cls y y ∈ wsG
def CS (own : String) (i : Nat) (y : MethodName) : Prop := Cond.methodLink own i y ∈ wsG ∧ Cond.static y ∈ wsG
def CI (own : String) (i : Nat) (y : MethodName) : Prop := Cond.methodLink own i y ∈ wsG ∧ y.name = "<init>" ∧ Cond.instanceMethod y ∈ wsG
def CSN (own : String) (i : Nat) (y : MethodName) : Prop := Cond.methodLinkNest own i y "FloodLent" ∈ nestW ∧ Cond.static y ∈ wsG
def CIN (own : String) (i : Nat) (y : MethodName) : Prop := Cond.methodLinkNest own i y "FloodLent" ∈ nestW ∧ y.name = "<init>" ∧ Cond.instanceMethod y ∈ wsG
theorem goodG {y : MethodName} {bytes : ByteArray} {maxL : Nat} {ret : Option FieldType} (h : Cond.code y bytes maxL ret ∈ wsG) : GoodIn wsG (.code y bytes maxL ret :: wsG) := by
  intro w hw
  rcases List.mem_cons.mp hw with rfl | hw
  · exact ⟨h, wsG_good h⟩
  · exact ⟨hw, wsG_good hw⟩
section WACALLS
variable {p : Program} {e : Env} {s : State} {m : MethodId} {args : Array Value} {below : List Frame} {meth : Method} {c : Code} {h0 : AH} {G : GX} {own : String} {cc : ByteArray} {ini : Bool} {ret : Option FieldType} {Qp : Option Value → AH → Prop} {d mc ms : Nat} {h : AH} {uc us pc : Nat} {lv : List (Option Value)} {st st0 : List Value}
theorem pre_at {H : Heap} {locs : List Loc} {nL : Nat} {av : List Value} (hX : XOk p s m args meth c h0 G own cc ini ret nL) (hR : Rep G h H) (hS : va_S (dmA h0) s.heap H locs) (hdm : ∀ q, dmA h q → dmA h0 q) {U : State} (hU : U.heap = H) (hW : s.WarmedH U.vm) : PA G h av av.toArray U := by
  refine ⟨rfl, by rw [hU]; exact hR, hX.2.2.2.2.2.2.2.1.warm hW, ?_, fun q hq => hX.2.2.2.2.2.2.2.2.2.1 q (hdm q hq)⟩
  rw [hU]
  exact EnvH.moved hW.alike (hX.2.2.2.2.2.2.2.2.1.kept fun a ha hb => hS.2.1 a ha (fun z => hb (hX.2.2.2.2.2.2.2.2.2.1 a z)))
theorem room_at {dc mL : Nat} (h1 : dc + 1 ≤ d) (h2 : mL ≤ 45) {mcc msc : Nat} : (rmD dc mcc msc).frames + 1 ≤ (rmD d mc ms).frames ∧ 8 + (mL + 11) + (rmD dc mcc msc).locals ≤ (rmD d mc ms).locals := by
  refine ⟨h1, ?_⟩
  show 8 + (mL + 11) + 64 * dc ≤ 64 * d
  omega
theorem A_run {H : Heap} {locs : List Loc} {ls : Array Slot} {mcc msc : Nat} {a : Array Value} {Qc : Option Value → AH → Prop} (hX : XOk p s m args meth c h0 G own cc ini ret lv.length) (hS : va_S (dmA h0) s.heap H locs) (hdm : ∀ q, dmA h q → dmA h0 q) (hL : LV lv ls) (hr : va_Run p (gL G) e (rmD d mc ms) s m args below meth c H locs uc us mcc msc (F0 m pc ls st0) st (QA G h Qc a) (dmA h))
    (kk : ∀ (rv : Option Value) (h' : AH), Qc rv h' → WA (p, e, s, m, args, below, meth, c, h0) G own cc ini ret Qp d mc ms h' (uc + mcc) (us + msc) (pc + 3) lv (rv.toList ++ st)) :
    W p (gL G) e (rmD d mc ms) s m args below meth c H locs uc us (MQ below (QA G h0 Qp) args s mc ms (dmA h0)) (F0 m pc ls st0) := by
  intro T hT X
  obtain ⟨v, st₀, t, T', L, g0, X', hL', e1, e2, ⟨⟨rv, h', hv, hq, hR', hdm'⟩, hz, hk⟩, stp⟩ := hr T hT X
  cases hv
  rw [g0] at hz hk
  obtain ⟨t2, a1, b1⟩ := kk _ h' hq T'.heap (locs ++ L) ls hX (by rw [e1]; exact hR') ⟨Nat.le_trans hS.1 (by rw [e1]; exact hz), fun q h1 h2 => by rw [e1, hk q (Nat.lt_of_lt_of_le h1 hS.1) (fun z => h2 (hdm q z))]; exact hS.2.1 q h1 h2, fun q hq => by
      rcases List.mem_append.mp hq with h | h
      · exact hS.2.2 q h
      · exact hdm _ (hL' q h)⟩ (fun q hq => hdm q (hdm' q hq)) hL T' rfl X'
  exact ⟨t2, stp t2 a1, b1⟩
end WACALLS
section WACALL
variable {X : XC} {G : GX} {own : String} {cc : ByteArray} {ini : Bool} {ret : Option FieldType} {Qp : Option Value → AH → Prop} {d mc ms : Nat} {h : AH} {uc us pc : Nat} {lv : List (Option Value)} {st st0 : List Value}
variable {i n dc mL mcc msc : Nat} {y : MethodName} {bc : ByteArray} {rc : Option FieldType} {As : List Value} {Qc : Option Value → AH → Prop}
theorem A_callV {b ci : Nat} {fs : List Value} (hd : decode cc pc = .ok (.invokevirtual i, 3)) (cw : CV own i y) (cb : CB y bc mL rc n) (hst : st0 = As.reverse ++ .ref b :: st) (hrcv : h.1 b = some (ob ci fs)) (hcl : (vwCl[ci]?).map (fun q => q.1) = some y.cls) (M : MA G dc y bc mL rc mcc msc (.ref b :: As) h Qc) (hn : As.length = n) (hroom : dc + 1 ≤ d ∧ mL ≤ 45) (hcat : (st.map fun v => v.category).sum ≤ 8) (hbud : uc + mcc ≤ mc ∧ us + msc ≤ ms) (kk : ∀ (rv : Option Value) (h1 : AH), Qc rv h1 → WA X G own cc ini ret Qp d mc ms h1 (uc + mcc) (us + msc) (pc + 3) lv (rv.toList ++ st)) : WA X G own cc ini ret Qp d mc ms h uc us pc lv st0 := by
  obtain ⟨p, e, s, m, args, below, meth, c, h0⟩ := X
  intro H locs ls hX hR hS hdm hL
  have hts := hX.2.2.2.2.1
  subst hst
  obtain ⟨r, hr, hrc⟩ := Option.map_eq_some_iff.mp hcl
  have hrv := va_recv hX.2.2.2.2.2.2.2.1.1 (hR.P1 hrcv) (ci := ci) (q0 := 0) hr rfl
  rw [hrc] at hrv
  exact A_run hX hS hdm hL (va_runV (As := As) (rest := st) ⟨hX.1, hX.2.1, hX.2.2.2.2.2.2.2.2.2.2.1, hX.2.2.2.1, hts⟩ M ⟨callB_of n hts (goodG cb.1) rfl rfl rfl (hts _ cb.2.1) (hts _ cw.1) ⟨cb.2.2.1, cb.2.2.2.1, cb.2.2.2.2⟩ (room_at hroom.1 hroom.2), hts _ cw.2.1, hts _ cw.2.2⟩ ⟨PA.blind, hrv, fun U hU hW => pre_at hX hR hS hdm hU hW⟩ rfl hn hL.1 rfl (lv_room hcat) hd hbud) kk
theorem A_callS (hd : decode cc pc = .ok (.invokestatic i, 3)) (cw : CS own i y) (cb : CB y bc mL rc n) (hst : st0 = As.reverse ++ st) (M : MA G dc y bc mL rc mcc msc As h Qc) (hn : As.length = n) (hroom : dc + 1 ≤ d ∧ mL ≤ 45) (hcat : (st.map fun v => v.category).sum ≤ 8) (hbud : uc + mcc ≤ mc ∧ us + msc ≤ ms) (kk : ∀ (rv : Option Value) (h1 : AH), Qc rv h1 → WA X G own cc ini ret Qp d mc ms h1 (uc + mcc) (us + msc) (pc + 3) lv (rv.toList ++ st)) : WA X G own cc ini ret Qp d mc ms h uc us pc lv st0 := by
  obtain ⟨p, e, s, m, args, below, meth, c, h0⟩ := X
  intro H locs ls hX hR hS hdm hL
  have hts := hX.2.2.2.2.1
  subst hst
  exact A_run hX hS hdm hL (va_runS (As := As) (rest := st) ⟨hX.1, hX.2.1, hX.2.2.2.2.2.2.2.2.2.2.1, hX.2.2.2.1, hts⟩ M ⟨callB_of n hts (goodG cb.1) rfl rfl rfl (hts _ cb.2.1) (hts _ cw.1) ⟨cb.2.2.1, cb.2.2.2.1, cb.2.2.2.2⟩ (room_at hroom.1 hroom.2), hts _ cw.2⟩ ⟨PA.blind, fun U hU hW => pre_at hX hR hS hdm hU hW⟩ rfl hn hL.1 rfl (lv_room hcat) hd hbud) kk
theorem A_callI {b : Nat} (hd : decode cc pc = .ok (.invokespecial i, 3)) (cw : CI own i y) (cb : CB y bc mL none n) (hst : st0 = As.reverse ++ .ref b :: st) (M : MA G dc y bc mL none mcc msc (.ref b :: As) h Qc) (hn : As.length = n) (hroom : dc + 1 ≤ d ∧ mL ≤ 45) (hcat : (st.map fun v => v.category).sum ≤ 8) (hbud : uc + mcc ≤ mc ∧ us + msc ≤ ms) (kk : ∀ (rv : Option Value) (h1 : AH), Qc rv h1 → WA X G own cc ini ret Qp d mc ms h1 (uc + mcc) (us + msc) (pc + 3) lv (rv.toList ++ st)) : WA X G own cc ini ret Qp d mc ms h uc us pc lv st0 := by
  obtain ⟨p, e, s, m, args, below, meth, c, h0⟩ := X
  intro H locs ls hX hR hS hdm hL
  have hts := hX.2.2.2.2.1
  subst hst
  exact A_run hX hS hdm hL (va_runI (As := As) (rest := st) ⟨hX.1, hX.2.1, hX.2.2.2.2.2.2.2.2.2.2.1, hX.2.2.2.1, hts⟩ M ⟨callB_of n hts (goodG cb.1) rfl rfl rfl (hts _ cb.2.1) (hts _ cw.1) ⟨cb.2.2.1, cb.2.2.2.1, cb.2.2.2.2⟩ (room_at hroom.1 hroom.2), cw.2.1, hts _ cw.2.2⟩ ⟨PA.blind, fun U hU hW => pre_at hX hR hS hdm hU hW⟩ rfl hn hL.1 rfl (lv_room hcat) hd hbud) kk
theorem A_callSN (hd : decode cc pc = .ok (.invokestatic i, 3)) (cw : CSN own i y) (cb : CB y bc mL rc n) (hst : st0 = As.reverse ++ st) (M : MA G dc y bc mL rc mcc msc As h Qc) (hn : As.length = n) (hroom : dc + 1 ≤ d ∧ mL ≤ 45) (hcat : (st.map fun v => v.category).sum ≤ 8) (hbud : uc + mcc ≤ mc ∧ us + msc ≤ ms) (kk : ∀ (rv : Option Value) (h1 : AH), Qc rv h1 → WA X G own cc ini ret Qp d mc ms h1 (uc + mcc) (us + msc) (pc + 3) lv (rv.toList ++ st)) : WA X G own cc ini ret Qp d mc ms h uc us pc lv st0 := by
  obtain ⟨p, e, s, m, args, below, meth, c, h0⟩ := X
  intro H locs ls hX hR hS hdm hL
  have hts := hX.2.2.2.2.1
  subst hst
  exact A_run hX hS hdm hL (va_runSN (As := As) (rest := st) ⟨hX.1, hX.2.1, hX.2.2.2.2.2.2.2.2.2.2.1, hX.2.2.2.1, hts⟩ M ⟨va_cnB n hts (goodG cb.1) rfl rfl rfl (hX.2.2.2.2.2.2.2.1.2.1 _ cw.1) (hts _ cb.2.1) ⟨cb.2.2.1, cb.2.2.2.1, cb.2.2.2.2⟩ (room_at hroom.1 hroom.2), hts _ cw.2, trivial⟩ ⟨PA.blind, fun U hU hW => pre_at hX hR hS hdm hU hW⟩ rfl hn hL.1 rfl (lv_room hcat) hd hbud) kk
theorem A_callIN {b : Nat} (hd : decode cc pc = .ok (.invokespecial i, 3)) (cw : CIN own i y) (cb : CB y bc mL none n) (hst : st0 = As.reverse ++ .ref b :: st) (M : MA G dc y bc mL none mcc msc (.ref b :: As) h Qc) (hn : As.length = n) (hroom : dc + 1 ≤ d ∧ mL ≤ 45) (hcat : (st.map fun v => v.category).sum ≤ 8) (hbud : uc + mcc ≤ mc ∧ us + msc ≤ ms) (kk : ∀ (rv : Option Value) (h1 : AH), Qc rv h1 → WA X G own cc ini ret Qp d mc ms h1 (uc + mcc) (us + msc) (pc + 3) lv (rv.toList ++ st)) : WA X G own cc ini ret Qp d mc ms h uc us pc lv st0 := by
  obtain ⟨p, e, s, m, args, below, meth, c, h0⟩ := X
  intro H locs ls hX hR hS hdm hL
  have hts := hX.2.2.2.2.1
  subst hst
  exact A_run hX hS hdm hL (va_runIN (As := As) (rest := st) ⟨hX.1, hX.2.1, hX.2.2.2.2.2.2.2.2.2.2.1, hX.2.2.2.1, hts⟩ M ⟨va_cnB n hts (goodG cb.1) rfl rfl rfl (hX.2.2.2.2.2.2.2.1.2.1 _ cw.1) (hts _ cb.2.1) ⟨cb.2.2.1, cb.2.2.2.1, cb.2.2.2.2⟩ (room_at hroom.1 hroom.2), cw.2.1, hts _ cw.2.2⟩ ⟨PA.blind, fun U hU hW => pre_at hX hR hS hdm hU hW⟩ rfl hn hL.1 rfl (lv_room hcat) hd hbud) kk
theorem A_callVi {Q : Int32 → AH → Prop} {b ci : Nat} {fs : List Value} (hd : decode cc pc = .ok (.invokevirtual i, 3)) (cw : CV own i y) (cb : CB y bc mL rc n) (hst : st0 = As.reverse ++ .ref b :: st) (hrcv : h.1 b = some (ob ci fs)) (hcl : (vwCl[ci]?).map (fun q => q.1) = some y.cls) (M : MA G dc y bc mL rc mcc msc (.ref b :: As) h (qI Q)) (hn : As.length = n) (hroom : dc + 1 ≤ d ∧ mL ≤ 45) (hcat : (st.map fun v => v.category).sum ≤ 8) (hbud : uc + mcc ≤ mc ∧ us + msc ≤ ms) (kk : ∀ (x : Int32) (h1 : AH), Q x h1 → WA X G own cc ini ret Qp d mc ms h1 (uc + mcc) (us + msc) (pc + 3) lv (.int x :: st)) : WA X G own cc ini ret Qp d mc ms h uc us pc lv st0 := by
  refine A_callV hd cw cb hst hrcv hcl M hn hroom hcat hbud ?_
  rintro rv h1 ⟨x, rfl, hq⟩; exact kk x h1 hq
theorem A_callVl {Q : Int64 → AH → Prop} {b ci : Nat} {fs : List Value} (hd : decode cc pc = .ok (.invokevirtual i, 3)) (cw : CV own i y) (cb : CB y bc mL rc n) (hst : st0 = As.reverse ++ .ref b :: st) (hrcv : h.1 b = some (ob ci fs)) (hcl : (vwCl[ci]?).map (fun q => q.1) = some y.cls) (M : MA G dc y bc mL rc mcc msc (.ref b :: As) h (qL Q)) (hn : As.length = n) (hroom : dc + 1 ≤ d ∧ mL ≤ 45) (hcat : (st.map fun v => v.category).sum ≤ 8) (hbud : uc + mcc ≤ mc ∧ us + msc ≤ ms) (kk : ∀ (x : Int64) (h1 : AH), Q x h1 → WA X G own cc ini ret Qp d mc ms h1 (uc + mcc) (us + msc) (pc + 3) lv (.long x :: st)) : WA X G own cc ini ret Qp d mc ms h uc us pc lv st0 := by
  refine A_callV hd cw cb hst hrcv hcl M hn hroom hcat hbud ?_
  rintro rv h1 ⟨x, rfl, hq⟩; exact kk x h1 hq
theorem A_callVv {Q : AH → Prop} {b ci : Nat} {fs : List Value} (hd : decode cc pc = .ok (.invokevirtual i, 3)) (cw : CV own i y) (cb : CB y bc mL rc n) (hst : st0 = As.reverse ++ .ref b :: st) (hrcv : h.1 b = some (ob ci fs)) (hcl : (vwCl[ci]?).map (fun q => q.1) = some y.cls) (M : MA G dc y bc mL rc mcc msc (.ref b :: As) h (qV Q)) (hn : As.length = n) (hroom : dc + 1 ≤ d ∧ mL ≤ 45) (hcat : (st.map fun v => v.category).sum ≤ 8) (hbud : uc + mcc ≤ mc ∧ us + msc ≤ ms) (kk : ∀ (h1 : AH), Q h1 → WA X G own cc ini ret Qp d mc ms h1 (uc + mcc) (us + msc) (pc + 3) lv st) : WA X G own cc ini ret Qp d mc ms h uc us pc lv st0 := by
  refine A_callV hd cw cb hst hrcv hcl M hn hroom hcat hbud ?_
  rintro rv h1 ⟨rfl, hq⟩; exact kk h1 hq
theorem A_callSi {Q : Int32 → AH → Prop} (hd : decode cc pc = .ok (.invokestatic i, 3)) (cw : CS own i y) (cb : CB y bc mL rc n) (hst : st0 = As.reverse ++ st) (M : MA G dc y bc mL rc mcc msc As h (qI Q)) (hn : As.length = n) (hroom : dc + 1 ≤ d ∧ mL ≤ 45) (hcat : (st.map fun v => v.category).sum ≤ 8) (hbud : uc + mcc ≤ mc ∧ us + msc ≤ ms) (kk : ∀ (x : Int32) (h1 : AH), Q x h1 → WA X G own cc ini ret Qp d mc ms h1 (uc + mcc) (us + msc) (pc + 3) lv (.int x :: st)) : WA X G own cc ini ret Qp d mc ms h uc us pc lv st0 := by
  refine A_callS hd cw cb hst M hn hroom hcat hbud ?_
  rintro rv h1 ⟨x, rfl, hq⟩; exact kk x h1 hq
theorem A_callSl {Q : Int64 → AH → Prop} (hd : decode cc pc = .ok (.invokestatic i, 3)) (cw : CS own i y) (cb : CB y bc mL rc n) (hst : st0 = As.reverse ++ st) (M : MA G dc y bc mL rc mcc msc As h (qL Q)) (hn : As.length = n) (hroom : dc + 1 ≤ d ∧ mL ≤ 45) (hcat : (st.map fun v => v.category).sum ≤ 8) (hbud : uc + mcc ≤ mc ∧ us + msc ≤ ms) (kk : ∀ (x : Int64) (h1 : AH), Q x h1 → WA X G own cc ini ret Qp d mc ms h1 (uc + mcc) (us + msc) (pc + 3) lv (.long x :: st)) : WA X G own cc ini ret Qp d mc ms h uc us pc lv st0 := by
  refine A_callS hd cw cb hst M hn hroom hcat hbud ?_
  rintro rv h1 ⟨x, rfl, hq⟩; exact kk x h1 hq
theorem A_callSv {Q : AH → Prop} (hd : decode cc pc = .ok (.invokestatic i, 3)) (cw : CS own i y) (cb : CB y bc mL rc n) (hst : st0 = As.reverse ++ st) (M : MA G dc y bc mL rc mcc msc As h (qV Q)) (hn : As.length = n) (hroom : dc + 1 ≤ d ∧ mL ≤ 45) (hcat : (st.map fun v => v.category).sum ≤ 8) (hbud : uc + mcc ≤ mc ∧ us + msc ≤ ms) (kk : ∀ (h1 : AH), Q h1 → WA X G own cc ini ret Qp d mc ms h1 (uc + mcc) (us + msc) (pc + 3) lv st) : WA X G own cc ini ret Qp d mc ms h uc us pc lv st0 := by
  refine A_callS hd cw cb hst M hn hroom hcat hbud ?_
  rintro rv h1 ⟨rfl, hq⟩; exact kk h1 hq
theorem A_callSr {Q : Nat → AH → Prop} (hd : decode cc pc = .ok (.invokestatic i, 3)) (cw : CS own i y) (cb : CB y bc mL rc n) (hst : st0 = As.reverse ++ st) (M : MA G dc y bc mL rc mcc msc As h (qR Q)) (hn : As.length = n) (hroom : dc + 1 ≤ d ∧ mL ≤ 45) (hcat : (st.map fun v => v.category).sum ≤ 8) (hbud : uc + mcc ≤ mc ∧ us + msc ≤ ms) (kk : ∀ (x : Nat) (h1 : AH), Q x h1 → WA X G own cc ini ret Qp d mc ms h1 (uc + mcc) (us + msc) (pc + 3) lv (.ref x :: st)) : WA X G own cc ini ret Qp d mc ms h uc us pc lv st0 := by
  refine A_callS hd cw cb hst M hn hroom hcat hbud ?_
  rintro rv h1 ⟨x, rfl, hq⟩; exact kk x h1 hq
theorem A_callIv {Q : AH → Prop} {b : Nat} (hd : decode cc pc = .ok (.invokespecial i, 3)) (cw : CI own i y) (cb : CB y bc mL none n) (hst : st0 = As.reverse ++ .ref b :: st) (M : MA G dc y bc mL none mcc msc (.ref b :: As) h (qV Q)) (hn : As.length = n) (hroom : dc + 1 ≤ d ∧ mL ≤ 45) (hcat : (st.map fun v => v.category).sum ≤ 8) (hbud : uc + mcc ≤ mc ∧ us + msc ≤ ms) (kk : ∀ (h1 : AH), Q h1 → WA X G own cc ini ret Qp d mc ms h1 (uc + mcc) (us + msc) (pc + 3) lv st) : WA X G own cc ini ret Qp d mc ms h uc us pc lv st0 := by
  refine A_callI hd cw cb hst M hn hroom hcat hbud ?_
  rintro rv h1 ⟨rfl, hq⟩; exact kk h1 hq
theorem A_callSNi {Q : Int32 → AH → Prop} (hd : decode cc pc = .ok (.invokestatic i, 3)) (cw : CSN own i y) (cb : CB y bc mL rc n) (hst : st0 = As.reverse ++ st) (M : MA G dc y bc mL rc mcc msc As h (qI Q)) (hn : As.length = n) (hroom : dc + 1 ≤ d ∧ mL ≤ 45) (hcat : (st.map fun v => v.category).sum ≤ 8) (hbud : uc + mcc ≤ mc ∧ us + msc ≤ ms) (kk : ∀ (x : Int32) (h1 : AH), Q x h1 → WA X G own cc ini ret Qp d mc ms h1 (uc + mcc) (us + msc) (pc + 3) lv (.int x :: st)) : WA X G own cc ini ret Qp d mc ms h uc us pc lv st0 := by
  refine A_callSN hd cw cb hst M hn hroom hcat hbud ?_
  rintro rv h1 ⟨x, rfl, hq⟩; exact kk x h1 hq
theorem A_callINv {Q : AH → Prop} {b : Nat} (hd : decode cc pc = .ok (.invokespecial i, 3)) (cw : CIN own i y) (cb : CB y bc mL none n) (hst : st0 = As.reverse ++ .ref b :: st) (M : MA G dc y bc mL none mcc msc (.ref b :: As) h (qV Q)) (hn : As.length = n) (hroom : dc + 1 ≤ d ∧ mL ≤ 45) (hcat : (st.map fun v => v.category).sum ≤ 8) (hbud : uc + mcc ≤ mc ∧ us + msc ≤ ms) (kk : ∀ (h1 : AH), Q h1 → WA X G own cc ini ret Qp d mc ms h1 (uc + mcc) (us + msc) (pc + 3) lv st) : WA X G own cc ini ret Qp d mc ms h uc us pc lv st0 := by
  refine A_callIN hd cw cb hst M hn hroom hcat hbud ?_
  rintro rv h1 ⟨rfl, hq⟩; exact kk h1 hq
theorem A_objInit {i b : Nat} (hd : decode cc pc = .ok (.invokespecial i, 3)) (hw : Cond.methodLink own i objectInit ∈ wsG) (hfr : 1 ≤ d) (hb : uc ≤ mc ∧ us ≤ ms) (kk : WA X G own cc ini ret Qp d mc ms h uc us (pc + 3) lv []) : WA X G own cc ini ret Qp d mc ms h uc us pc lv [.ref b] := by
  obtain ⟨p, e, s, m, args, below, meth, c, h0⟩ := X
  intro H locs ls hX hR hS hdm hL
  have hts := hX.2.2.2.2.1
  refine W.objInit hX.1 hX.2.1 hX.2.2.2.1 (hts _ hw) (hts _ w_objI) (hts _ w_objC) rfl (by rw [hX.2.2.2.2.2.2.2.2.2.2.1]; exact hL.1) rfl hd ?_ ?_ (W.eq (g2 := F0 m (pc + 3) ls []) rfl (kk H locs ls hX hR hS hdm hL))
  · exact hfr
  · exact Nat.le_trans (show _ ≤ 64 from Nat.le_of_ble_eq_true rfl) (by show 64 ≤ 64 * d; omega)
end WACALL
