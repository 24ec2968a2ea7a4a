/-! THE ABSTRACT HEAP AND THE WALK OVER IT: cells by address, as a function; a method's walk with the machine's parts packed away -/
def wsG : List Cond := lw_tbl.filter goodWord
theorem mG {w : Cond} (i : Nat) (h : lw_tbl[i]? = some w) (g : goodWord w = true) : w ∈ wsG := List.mem_filter.mpr ⟨List.mem_of_getElem? h, g⟩
theorem wsG_good {w : Cond} (h : w ∈ wsG) : (w.onTables && w.keeps) = true ∨ ∃ ty, w = .arrayClass ty := good_of_word (List.mem_filter.mp h).2
abbrev AE : Type := (Nat × vp_A) ⊕ (Nat × List Value)
abbrev AH : Type := (Nat → Option AE) × Nat
abbrev GX : Type := Launch × va_G × (Nat → ClassId) × (Nat → Nat) × (Nat → Nat) × Nat
def gL (G : GX) : Launch := G.1
def gD (G : GX) : va_G := G.2.1
def gC (G : GX) : Nat → ClassId := G.2.2.1
def gK (G : GX) : Nat → Nat := G.2.2.2.1
def gV (G : GX) : Nat → Nat := G.2.2.2.2.1
def gB (G : GX) : Nat := G.2.2.2.2.2
def aI (n : Nat) (f : Nat → Int32) : AE := .inl (0, n, .inl f)
def aJ (n : Nat) (f : Nat → Int64) : AE := .inl (1, n, .inr (.inl f))
def aB (n : Nat) (f : Nat → Int32) : AE := .inl (2, n, .inl f)
def aZ (n : Nat) (f : Nat → Int32) : AE := .inl (3, n, .inl f)
def aQ (k n : Nat) (f : Nat → Option Nat) : AE := .inl (k, n, .inr (.inr (.inr (.inr f))))
def ob (c : Nat) (fs : List Value) : AE := .inr (c, fs)
def tE (G : GX) (e : AE) : va_E := match e with
  | .inl a => .inl (gC G a.1, a.2)
  | .inr o => .inr o
def tysL : List FieldType := [.int, .long, .byte, .boolean, .object "FloodLent$Plain", .object "FloodLent$Slot"]
def tysG (G : GX) : List (ClassId × FieldType) := [(gC G 0, .int), (gC G 1, .long), (gC G 2, .byte), (gC G 3, .boolean), (gC G 4, .object "FloodLent$Plain"), (gC G 5, .object "FloodLent$Slot")]
def Rep (G : GX) (h : AH) (H : Heap) : Prop := H.size = h.2 ∧ ∀ (a : Nat) (e : AE), h.1 a = some e → va_at (gD G) vwCl (a, tE G e) H
def upH (h : AH) (a : Nat) (e : AE) : AH := (fun q => if q = a then some e else h.1 q, h.2)
def nwH (h : AH) (e : AE) : AH := (fun q => if q = h.2 then some e else h.1 q, h.2 + 1)
def dmA (h : AH) : Nat → Prop := fun q => (∃ e, h.1 q = some e) ∨ h.2 ≤ q
theorem Rep.P1 {G : GX} {h : AH} {H : Heap} (R : Rep G h H) {a : Nat} {e : AE} (ha : h.1 a = some e) : va_P (gD G) vwCl [(a, tE G e)] H := by
  intro k q hq
  match k, hq with
  | 0, hq => cases hq; exact R.2 a e ha
  | k + 1, hq => simp at hq
theorem Rep.put {G : GX} {h : AH} {H H1 : Heap} {a : Nat} {e : AE} (R : Rep G h H) (z : H1.size = H.size) (oq : ∀ q : Nat, q ≠ a → H1[q]? = H[q]?) (he : va_at (gD G) vwCl (a, tE G e) H1) : Rep G (upH h a e) H1 := by
  refine ⟨z.trans R.1, fun b e' hb => ?_⟩
  by_cases hq : b = a
  · subst hq
    simp [upH] at hb
    subst hb
    exact he
  · simp only [upH, if_neg hq] at hb
    exact (R.2 b e' hb).kept (oq b hq)
theorem Rep.new {G : GX} {h : AH} {H H1 : Heap} {e : AE} (R : Rep G h H) (z : H1.size = H.size + 1) (oq : ∀ q : Nat, q < H.size → H1[q]? = H[q]?) (he : va_at (gD G) vwCl (H.size, tE G e) H1) : Rep G (nwH h e) H1 := by
  refine ⟨by rw [z, R.1]; rfl, fun b e' hb => ?_⟩
  by_cases hq : b = h.2
  · subst hq
    simp [nwH] at hb
    subst hb
    rw [R.1] at he
    exact he
  · simp only [nwH, if_neg hq] at hb
    have h1 := R.2 b e' hb
    exact h1.kept (oq b h1.lt)
theorem dmA_up {h : AH} {a : Nat} {e e0 : AE} (ha : h.1 a = some e0) : ∀ q, dmA (upH h a e) q → dmA h q := by
  intro q hq
  rcases hq with ⟨e', hq⟩ | hq
  · by_cases hqa : q = a
    · subst hqa; exact Or.inl ⟨_, ha⟩
    · simp only [upH, if_neg hqa] at hq; exact Or.inl ⟨_, hq⟩
  · exact Or.inr hq
theorem dmA_nw {h : AH} {e : AE} : ∀ q, dmA (nwH h e) q → dmA h q := by
  intro q hq
  rcases hq with ⟨e', hq⟩ | hq
  · by_cases hqa : q = h.2
    · subst hqa; exact Or.inr (Nat.le_refl _)
    · simp only [nwH, if_neg hqa] at hq; exact Or.inl ⟨_, hq⟩
  · exact Or.inr (Nat.le_of_succ_le hq)
theorem up_eq {h : AH} {a : Nat} {e : AE} : (upH h a e).1 a = some e := by simp [upH]
theorem up_ne {h : AH} {a b : Nat} {e : AE} (hb : b ≠ a) : (upH h a e).1 b = h.1 b := by simp [upH, hb]
theorem nw_eq {h : AH} {e : AE} : (nwH h e).1 h.2 = some e := by simp [nwH]
theorem nw_ne {h : AH} {b : Nat} {e : AE} (hb : b ≠ h.2) : (nwH h e).1 b = h.1 b := by simp [nwH, hb]
/-- the locals: what is known of each place -/
def LV (lv : List (Option Value)) (ls : Array Slot) : Prop := ls.size = lv.length ∧ lv_wf ls ∧ ∀ (i : Nat) (v : Value), lv[i]? = some (some v) → ls[i]? = some (.val v)
def lvL (lv : List (Option Value)) : List (Nat × Value) := (List.range lv.length).filterMap (fun i => match lv[i]? with | some (some v) => some (i, v) | _ => none)
theorem lvL_mem {lv : List (Option Value)} {i : Nat} {v : Value} : (i, v) ∈ lvL lv ↔ lv[i]? = some (some v) := by
  unfold lvL
  rw [List.mem_filterMap]
  constructor
  · rintro ⟨j, hj, h⟩
    split at h
    · next w hw => cases h; exact hw
    · cases h
  · intro h
    refine ⟨i, List.mem_range.mpr (List.getElem?_eq_some_iff.mp h).1, ?_⟩
    rw [h]
theorem LV.has {lv : List (Option Value)} {ls : Array Slot} (h : LV lv ls) : lv_has ls lv.length (lvL lv) := ⟨h.1, h.2.1, fun q hq => h.2.2 q.1 q.2 (lvL_mem.mp hq)⟩
def lvArgs (av : List Value) (n : Nat) : List (Option Value) := (List.range n).map (fun i => ((lv_args 0 av).find? (fun q => q.1 == i)).map (fun q => q.2))
theorem LV.of_args {av : List Value} {n : Nat} {ls : Array Slot} (h : lv_has ls n (lv_args 0 av)) : LV (lvArgs av n) ls := by
  refine ⟨by simp [lvArgs, h.1], h.2.1, fun i v hv => ?_⟩
  simp only [lvArgs, List.getElem?_map, Option.map_eq_some_iff] at hv
  obtain ⟨j, hj, q, hq, hqv⟩ := hv
  have hij : j = i := by
    have := List.getElem?_eq_some_iff.mp hj
    obtain ⟨h1, h2⟩ := this
    simpa using h2.symm
  subst hij
  have h1 := List.mem_of_find?_eq_some hq
  have h2 := List.find?_some hq
  simp at h2
  have := h.2.2 q h1
  rw [h2, hqv] at this
  exact this
/-- storing: no long stands just ahead of the place -/
def lvOk (lv : List (Option Value)) : Nat → Bool
  | 0 => true
  | k + 1 => match lv[k]? with
    | some (some v) => decide (v.category ≠ 2)
    | _ => true
theorem LV.st1 {lv : List (Option Value)} {ls' : Array Slot} {i : Nat} {v : Value} (h : lv_has ls' lv.length ((i, v) :: (lvL lv).filter (fun q => !(q.1 == i) && !(q.1 + 1 == i && q.2.category == 2)))) (ho : lvOk lv i = true) : LV (lv.set i (some v)) ls' := by
  refine ⟨by simp [h.1], h.2.1, fun j w hw => ?_⟩
  by_cases hj : i = j
  · subst hj
    by_cases hl : i < lv.length
    · rw [List.getElem?_set_self hl] at hw
      cases hw
      exact h.2.2 (i, v) List.mem_cons_self
    · have := (List.getElem?_eq_some_iff.mp hw).1
      simp at this
      omega
  · rw [List.getElem?_set_ne hj] at hw
    refine h.2.2 (j, w) (List.mem_cons_of_mem _ (List.mem_filter.mpr ⟨lvL_mem.mpr hw, ?_⟩))
    have h1 : ¬ j = i := fun q => hj q.symm
    have h2 : ¬ (j + 1 = i ∧ w.category = 2) := by
      rintro ⟨rfl, h2⟩
      simp only [lvOk, hw] at ho
      simp [h2] at ho
    simp [h1]
    exact Decidable.not_and_iff_or_not.mp h2
theorem LV.st2 {lv : List (Option Value)} {ls' : Array Slot} {i : Nat} {v : Value} (h : lv_has ls' lv.length ((i, v) :: (lvL lv).filter (fun q => !(q.1 == i) && (!(q.1 == i + 1) && !(q.1 + 1 == i && q.2.category == 2))))) (ho : lvOk lv i = true) : LV ((lv.set i (some v)).set (i + 1) none) ls' := by
  refine ⟨by simp [h.1], h.2.1, fun j w hw => ?_⟩
  by_cases hk : i + 1 = j
  · subst hk
    exfalso
    by_cases hl : i + 1 < lv.length
    · rw [List.getElem?_set_self (by simpa using hl)] at hw
      cases hw
    · have := (List.getElem?_eq_some_iff.mp hw).1
      simp at this
      omega
  · rw [List.getElem?_set_ne hk] at hw
    by_cases hj : i = j
    · subst hj
      by_cases hl : i < lv.length
      · rw [List.getElem?_set_self hl] at hw
        cases hw
        exact h.2.2 (i, v) List.mem_cons_self
      · have := (List.getElem?_eq_some_iff.mp hw).1
        simp at this
        omega
    · rw [List.getElem?_set_ne hj] at hw
      refine h.2.2 (j, w) (List.mem_cons_of_mem _ (List.mem_filter.mpr ⟨lvL_mem.mpr hw, ?_⟩))
      have h1 : ¬ j = i := fun q => hj q.symm
      have h1' : ¬ j = i + 1 := fun q => hk q.symm
      have h2 : ¬ (j + 1 = i ∧ w.category = 2) := by
        rintro ⟨rfl, h2⟩
        simp only [lvOk, hw] at ho
        simp [h2] at ho
      simp [h1, h1']
      exact Decidable.not_and_iff_or_not.mp h2
/-- what stands outside the abstract heap: the tables, the literals, two statics -/
def nestW : List Cond := [.methodLinkNest "FloodLent" 9 ⟨"FloodLent$Tape", "<init>", "()V"⟩ "FloodLent", .methodLinkNest "FloodLent" 27 ⟨"FloodLent$Plain", "<init>", "()V"⟩ "FloodLent", .methodLinkNest "FloodLent$Debts" 11 ⟨"FloodLent$Pairs", "<init>", "()V"⟩ "FloodLent", .methodLinkNest "FloodLent$Outcomes" 83 ⟨"FloodLent", "together", "([I)I"⟩ "FloodLent", .methodLinkNest "FloodLent$Year" 133 ⟨"FloodLent", "together", "([I)I"⟩ "FloodLent", .methodLinkNest "FloodLent$Pairs" 27 ⟨"FloodLent", "together", "([I)I"⟩ "FloodLent", .methodLinkNest "FloodLent" 413 ⟨"FloodLent$Slot", "<init>", "()V"⟩ "FloodLent"]
def txB (t : String) : List Int32 := t.toList.map (fun c => Int32.ofNat c.toNat)
def StrH (G : GX) (i : Nat) (t : String) (U : State) (H : Heap) : Prop :=
  va_O "java/lang/String" (gK G i) (fun q => gB G ≤ q) U H ∧ va_OF "java/lang/String" "coder" "B" (.int 0) (gK G i) (fun q => gB G ≤ q) U H ∧ va_OF "java/lang/String" "value" "[B" (.ref (gV G i)) (gK G i) (fun q => gB G ≤ q) U H ∧ va_T .byte (gV G i) (txB t).length (fun j => .int ((txB t).getD j 0)) (fun q => gB G ≤ q) U H
def litJS : List (String × Nat × String) := [("FloodLent$Scribe", 119, "river weeks N more N back N"), ("FloodLent$Scribe", 121, "village pond N water N face N seep N"), ("FloodLent$Scribe", 123, "crop N drinks N brings N from N to N"), ("FloodLent$Scribe", 125, "sun N is N"), ("FloodLent$Scribe", 127, "flood N brings N odds N"), ("FloodLent$Scribe", 129, "loan N to N of N on N till N"), ("FloodLent$Scribe", 131, "canal N costs N"), ("FloodLentModel", 227, "river"), ("FloodLentModel", 229, "weeks"), ("FloodLentModel", 231, "more"), ("FloodLentModel", 233, "back"), ("FloodLentModel", 200, "village"), ("FloodLentModel", 202, "crop"), ("FloodLentModel", 204, "sun"), ("FloodLentModel", 206, "flood"), ("FloodLentModel", 208, "loan"), ("FloodLentModel", 210, "canal"), ("FloodLentModel", 171, "pond"), ("FloodLentModel", 177, "water"), ("FloodLentModel", 178, "face"), ("FloodLentModel", 180, "seep"), ("FloodLentModel", 185, "drinks"), ("FloodLentModel", 187, "brings"), ("FloodLentModel", 189, "from"), ("FloodLentModel", 190, "to"), ("FloodLentModel", 218, "is"), ("FloodLentModel", 192, "odds"), ("FloodLentModel", 194, "of"), ("FloodLentModel", 196, "on"), ("FloodLentModel", 198, "till"), ("FloodLentModel", 225, "costs")]
def EnvK (G : GX) (U : State) : Prop := va_K (gD G) vwCl (tysG G) U ∧ (∀ w ∈ nestW, va_Nw w U) ∧ va_AO "FloodLent$Plain" U ∧ va_AO "FloodLent$Slot" U ∧ (∀ (i : Nat) (q : String × Nat × String), litJS[i]? = some q → vk_R q.1 q.2.1 q.2.2 (gK G i) U)
def EnvH (G : GX) (U : State) (H : Heap) : Prop := (∀ (i : Nat) (q : String × Nat × String), litJS[i]? = some q → StrH G i q.2.2 U H) ∧ va_Z "java/lang/String" "COMPACT_STRINGS" "Z" (.int 1) (fun q => gB G ≤ q) U H ∧ va_Zq "jdk/internal/util/Preconditions" "SIOOBE_FORMATTER" "Ljava/util/function/BiFunction;" (fun q => gB G ≤ q) U H
theorem nestW_warm {s U : State} (hW : s.WarmedH U.vm) : ∀ w ∈ nestW, va_Nw w s → va_Nw w U := by
  intro w hw h
  simp only [nestW, List.mem_cons, List.not_mem_nil, or_false] at hw
  rcases hw with rfl | rfl | rfl | rfl | rfl | rfl | rfl <;> exact va_Nw.warmM hW h
theorem EnvK.warm {G : GX} {s U : State} (h : EnvK G s) (hW : s.WarmedH U.vm) : EnvK G U :=
  ⟨va_K.moved hW.alike h.1, fun w hw => nestW_warm hW w hw (h.2.1 w hw), va_AO.moved hW.alike h.2.2.1, va_AO.moved hW.alike h.2.2.2.1, fun i q hq => vk_R.warm hW (h.2.2.2.2 i q hq)⟩
theorem EnvK.calling {G : GX} {U : State} {g : JFrame} {mk : MethodId} {a : Array Value} (h : EnvK G U) : EnvK G (U.calling g mk a) :=
  ⟨va_K.moved (u := U) (U := U.calling g mk a) (Vm.Alike.refl U.vm) h.1, fun w hw => (by
    have h1 := h.2.1 w hw
    simp only [nestW, List.mem_cons, List.not_mem_nil, or_false] at hw
    rcases hw with rfl | rfl | rfl | rfl | rfl | rfl | rfl <;> exact va_Nw.same (u := U) (U := U.calling g mk a) rfl rfl h1), va_AO.moved (u := U) (U := U.calling g mk a) (Vm.Alike.refl U.vm) h.2.2.1, va_AO.moved (u := U) (U := U.calling g mk a) (Vm.Alike.refl U.vm) h.2.2.2.1, fun i q hq => vk_R.same (u := U) (U := U.calling g mk a) rfl (h.2.2.2.2 i q hq)⟩
theorem StrH.moved {G : GX} {i : Nat} {t : String} {u U : State} {H : Heap} (hvm : u.vm.Alike U.vm) (h : StrH G i t u H) : StrH G i t U H := ⟨va_O.moved hvm h.1, va_OF.moved hvm h.2.1, va_OF.moved hvm h.2.2.1, va_T.moved hvm h.2.2.2⟩
theorem StrH.kept {G : GX} {i : Nat} {t : String} {U : State} {H H1 : Heap} (h : StrH G i t U H) (hq : ∀ a : Nat, a < H.size → ¬ gB G ≤ a → H1[a]? = H[a]?) : StrH G i t U H1 := ⟨h.1.kept hq, h.2.1.kept hq, h.2.2.1.kept hq, h.2.2.2.kept hq⟩
theorem EnvH.moved {G : GX} {u U : State} {H : Heap} (hvm : u.vm.Alike U.vm) (h : EnvH G u H) : EnvH G U H := ⟨fun i q hq => (h.1 i q hq).moved hvm, va_Z.moved hvm h.2.1, va_Zq.moved hvm h.2.2⟩
theorem EnvH.kept {G : GX} {U : State} {H H1 : Heap} (h : EnvH G U H) (hq : ∀ a : Nat, a < H.size → ¬ gB G ≤ a → H1[a]? = H[a]?) : EnvH G U H1 := ⟨fun i q hk => (h.1 i q hk).kept hq, va_Z.kept h.2.1 hq, va_Zq.kept h.2.2 hq⟩
def rmD (d mc ms : Nat) : Room := { frames := d, cells := mc, slots := ms, locals := 64 * d }
def PA (G : GX) (h : AH) (av : List Value) : Array Value → State → Prop := fun v U => v = av.toArray ∧ Rep G h U.heap ∧ EnvK G U ∧ EnvH G U U.heap ∧ ∀ q, dmA h q → gB G ≤ q
def QA (G : GX) (h0 : AH) (Qp : Option Value → AH → Prop) : Array Value → State → Outcome → State → Prop := fun _ st oc t => (∃ (rv : Option Value) (h' : AH), oc = .returned rv ∧ Qp rv h' ∧ Rep G h' t.heap ∧ ∀ q, dmA h' q → dmA h0 q) ∧ va_F (dmA h0) st t
def MA (G : GX) (d : Nat) (y : MethodName) (bytes : ByteArray) (maxL : Nat) (ret : Option FieldType) (mc ms : Nat) (av : List Value) (h : AH) (Qp : Option Value → AH → Prop) : Prop :=
  Met (gL G) y (.code y bytes maxL ret :: wsG) (rmD d mc ms) (PA G h av) (QA G h Qp) mc ms (dmA h)
def qV (Q : AH → Prop) : Option Value → AH → Prop := fun rv h => rv = none ∧ Q h
def qI (Q : Int32 → AH → Prop) : Option Value → AH → Prop := fun rv h => ∃ x, rv = some (.int x) ∧ Q x h
def qL (Q : Int64 → AH → Prop) : Option Value → AH → Prop := fun rv h => ∃ x, rv = some (.long x) ∧ Q x h
def qR (Q : Nat → AH → Prop) : Option Value → AH → Prop := fun rv h => ∃ x, rv = some (.ref x) ∧ Q x h
theorem PA.blind {G : GX} {h : AH} {av : List Value} : FrameBlind (PA G h av) := by
  intro a U g mk hp
  obtain ⟨h1, h2, h3, h4, h5⟩ := hp
  exact ⟨h1, h2, h3.calling, EnvH.moved (u := U) (U := U.calling g mk a) (Vm.Alike.refl U.vm) h4, h5⟩
abbrev XC : Type := Program × Env × State × MethodId × Array Value × List Frame × Method × Code × AH
def XOk (p : Program) (s : State) (m : MethodId) (args : Array Value) (meth : Method) (c : Code) (h0 : AH) (G : GX) (own : String) (cc : ByteArray) (ini : Bool) (ret : Option FieldType) (nL : Nat) : Prop :=
  p.tables.exec = Jvm.exec ∧ c.code = cc ∧ meth.sig.returnType = ret ∧ s.vm.findClass own = some m.cls ∧ (∀ w ∈ wsG, w.before args s = true) ∧ meth.locks = false ∧ (ini = true → meth.name = "<init>") ∧ EnvK G s ∧ EnvH G s s.heap ∧ (∀ q, dmA h0 q → gB G ≤ q) ∧ c.maxLocals = nL ∧ ∀ q : Nat, s.heap.size ≤ q → dmA h0 q
/-- the walk: at pc, with these locals, this stack, over this abstract heap, the method comes to its end as Qp says -/
def WA (X : XC) (G : GX) (own : String) (cc : ByteArray) (ini : Bool) (ret : Option FieldType) (Qp : Option Value → AH → Prop) (d mc ms : Nat) (h : AH) (uc us pc : Nat) (lv : List (Option Value)) (st : List Value) : Prop :=
  match X with
  | (p, e, s, m, args, below, meth, c, h0) => ∀ (H : Heap) (locs : List Loc) (ls : Array Slot), XOk p s m args meth c h0 G own cc ini ret lv.length → Rep G h H → va_S (dmA h0) s.heap H locs → (∀ q, dmA h q → dmA h0 q) → LV lv ls →
    W p (gL G) e (rmD d mc ms) s m args below meth c H locs uc us (MQ below (QA G h0 Qp) args s mc ms (dmA h0)) (F0 m pc ls st)
theorem MA.of {G : GX} {d : Nat} {y : MethodName} {own : String} {bytes : ByteArray} {maxL : Nat} {ret : Option FieldType} {mc ms : Nat} {av : List Value} {h : AH} {Qp : Option Value → AH → Prop} (ini : Bool) (lv : List (Option Value)) (hy : plainName y.cls = true) (ho : y.cls = own) (hini : ini = true → y.name = "<init>") (hlen : (lg_sl av).length ≤ maxL) (hlv : lvArgs av maxL = lv)
    (k : ∀ X : XC, WA X G own bytes ini ret Qp d mc ms h 0 0 0 lv []) : MA G d y bytes maxL ret mc ms av h Qp := by
  refine Met.ofW (cc := bytes) (maxL := maxL) (ret := ret) hy rfl ?_
  intro p e s m args below meth c s₁ B hml hv
  obtain ⟨rfl, hR, hK, hH, hB⟩ := hv
  have hts := atoms_spec (ws := .code y bytes maxL ret :: wsG) B.pre
  have hown : s.vm.findClass y.cls = some m.cls := findClass_of_methodNamed B.named
  have hl := lv_entry av (n := maxL) hlen
  rw [lg_entry_eq]
  generalize (lg_sl av ++ List.replicate (maxL - (lg_sl av).length) Slot.unset).toArray = ls at hl ⊢
  have hLV := LV.of_args hl
  rw [hlv] at hLV
  have hlen2 : lv.length = maxL := by rw [← hlv]; simp [lvArgs]
  exact k (p, e, s, m, av.toArray, below, meth, c, h) s.heap [] ls ⟨B.exec, B.bytes, B.returns, ho ▸ hown, fun w hw => hts w (List.mem_cons_of_mem _ hw), B.notSynchronized, fun hi => (name_of_methodNamed B.named B.method).1.trans (hini hi), hK, hH, hB, by rw [hlen2]; exact hml, fun q hq => Or.inr (by rw [← hR.1]; exact hq)⟩ hR va_S.rf (fun _ hq => hq) hLV
