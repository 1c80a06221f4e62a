/-! What a throw stands on, beside the good words -/
abbrev nISE : String := "java/lang/IllegalStateException"
abbrev nNSE : String := "java/util/NoSuchElementException"
abbrev nIAE : String := "java/lang/IllegalArgumentException"
abbrev nRTE : String := "java/lang/RuntimeException"
abbrev upX : List String := ["java/lang/Exception"]
abbrev bxN : ByteArray := ⟨#[0x2a, 0x2b, 0xb7, 0x00, 0x0d, 0xb1]⟩
def exD : List MethodName := [Bundle.initS "java/lang/RuntimeException", Bundle.initS "java/lang/Exception", Bundle.initS "java/lang/Throwable"]
def exC : List (String × String) := [(nISE, nISE), (nNSE, nNSE), (nIAE, nIAE)]
def exN : List (String × String) := [(nISE, nNSE), (nIAE, nNSE)]
def exS : List (Nat × String) := [(46, "there are six dates"), (164, "there is no such date"), (166, "there is no such year"), (63, "the weight is not 0 .. 999"), (70, "the share is not 0 .. below of 1 .. 10"), (76, "not 0 <= least <= most <= 11"), (170, "there is no such digit"), (168, "there is no such bound"), (114, "there are no members"), (127, "not 1 <= above <= below <= 1000"), (148, "k is below 0"), (162, "there is no such count")]
def exT : List (String × String) := [("UNASSIGNED_STACK", Bundle.steD), ("SUPPRESSED_SENTINEL", Bundle.listD)]
def EX (U : State) : Prop :=
  (∀ x ∈ exD, (Cond.declares x).before #[] U = true) ∧ (∀ q ∈ exC, (Cond.castable q.1 q.2).before #[] U = true) ∧ (∀ q ∈ exN, (Cond.not (.castable q.1 q.2)).before #[] U = true) ∧
  (∀ q ∈ exS, (Cond.stringRef "OrderPassing" q.1 q.2).before #[] U = true) ∧ ∀ q ∈ exT, (Cond.laysStatic Bundle.tN q.1 q.2).before #[] U = true ∧ (Cond.isRef (.static Bundle.tN q.1 q.2)).before #[] U = true
section EXM
variable {u U : State} {a a' : Array Value}
theorem ex_dec (hW : u.WarmedH U.vm) {x : MethodName} (h : (Cond.declares x).before a u = true) : (Cond.declares x).before a' U = true := by
  have h1 := Cond.faceAtom_setVm (args := a) hW.alike (.declares x) rfl h
  exact h1
theorem ex_cast (hW : u.WarmedH U.vm) {x y : String} (h : (Cond.castable x y).before a u = true) : (Cond.castable x y).before a' U = true := by
  have h1 := Cond.faceAtom_setVm (args := a) hW.alike (.castable x y) rfl h
  exact h1
theorem ex_ncast (hW : u.WarmedH U.vm) {x y : String} (h : (Cond.not (.castable x y)).before a u = true) : (Cond.not (.castable x y)).before a' U = true := by
  simp only [Cond.before, Cond.holds, Cond.value] at h ⊢
  rw [hW.alike.findClass, hW.alike.findClass]
  simpa only [hW.alike.assignable] using h
theorem ex_str (hW : u.WarmedH U.vm) {x y : String} {i : Nat} (h : (Cond.stringRef x i y).before a u = true) : (Cond.stringRef x i y).before a' U = true := by
  have h1 := Cond.stringRef_warmed (args := a) hW h
  exact h1
theorem ex_two (hW : u.WarmedH U.vm) (hst : ∀ (z : Addr) (cell : Cell), u.heap[z]? = some cell → cell.vm.isStatics = true → U.heap[z]? = some cell) {O N D : String} (h1 : (Cond.laysStatic O N D).before a u = true) (h2 : (Cond.isRef (.static O N D)).before a u = true) : (Cond.laysStatic O N D).before a' U = true ∧ (Cond.isRef (.static O N D)).before a' U = true := by
  have g1 : (Cond.laysStatic O N D).holds a (u.setVm U.vm) none (u.setVm U.vm) [] = true := Cond.holds_shifted (State.Shifted.of_warmed hW) _ [] rfl h1
  have g2 : (Cond.isRef (.static O N D)).holds a (u.setVm U.vm) none (u.setVm U.vm) [] = true := Cond.holds_shifted (State.Shifted.of_warmed hW) _ [] rfl h2
  obtain ⟨cc, k, i, f, z, cell, q1, q2, q3, q4, q5, q6, q7, q8, q9⟩ := Cond.laysStatic_spec g1
  obtain ⟨v, ev, hv⟩ := Cond.isRef_spec g2
  have q1' : U.vm.findClass O = some cc := q1
  have q2' : U.fieldFound? O N D = some (cc, k, i, f) := q2
  have q5' : U.heap[z]? = some cell := hst z cell q5 q6
  have e1 : (Term.static O N D).eval a (u.setVm U.vm) none [] (u.setVm U.vm) = cell.slots[f.slot]? := by
    have q5u : u.heap[z]? = some cell := q5
    simp [Term.eval, State.fieldNamed?, q2, q3, q4, q5u, q6]
  have e2 : (Term.static O N D).eval a' U none [] U = cell.slots[f.slot]? := by
    simp [Term.eval, State.fieldNamed?, q2', q3, q4, q5', q6]
  refine ⟨?_, ?_⟩
  · simp [Cond.before, Cond.holds, Cond.value, q1', q2', q3, q4, q5', q6, q7, q8, q9]
  · rw [e1] at ev
    rw [ev] at e2
    simp only [Cond.before, Cond.holds, Cond.value, e2]
    cases v <;> simp_all [Value.isRef]
theorem EX.move (hW : u.WarmedH U.vm) (hst : ∀ (z : Addr) (cell : Cell), u.heap[z]? = some cell → cell.vm.isStatics = true → U.heap[z]? = some cell) (h : EX u) : EX U :=
  ⟨fun x hx => ex_dec hW (h.1 x hx), fun x hx => ex_cast hW (h.2.1 x hx), fun x hx => ex_ncast hW (h.2.2.1 x hx), fun x hx => ex_str hW (h.2.2.2.1 x hx), fun x hx => ex_two hW hst (h.2.2.2.2 x hx).1 (h.2.2.2.2 x hx).2⟩
theorem EX.blind {g : JFrame} {mk : MethodId} (h : EX U) : EX (U.calling g mk a) :=
  EX.move (State.WarmedH.refl _) (fun _ _ h _ => h) h
end EXM
/-- the good words and these are all that an exception asks -/
def exAll : List Cond := exD.map .declares ++ exT.map (fun q => .laysStatic Bundle.tN q.1 q.2) ++ exT.map (fun q => .isRef (.static Bundle.tN q.1 q.2))
theorem ownI_in : ∀ a ∈ ownA "OrderPassing" 48 nISE 7 Bundle.six nRTE upX, a ∈ gw ∨ a ∈ exAll := by decide +kernel
theorem ownN_in : ∀ a ∈ ownA "OrderPassing" 150 nNSE 13 bxN nRTE upX, a ∈ gw ∨ a ∈ exAll := by decide +kernel
theorem ownA_in : ∀ a ∈ ownA "OrderPassing" 65 nIAE 7 Bundle.six nRTE upX, a ∈ gw ∨ a ∈ exAll := by decide +kernel
theorem own_ok {args : Array Value} {s : State} {kc : Cond} {L : List Cond} (hts : ∀ w ∈ kc :: gw, w.before args s = true) (hE : EX s) (hL : ∀ a ∈ L, a ∈ gw ∨ a ∈ exAll) : ∀ a ∈ L, a.before args s = true := by
  intro w hw
  rcases hL w hw with h | h
  · exact hts w (mw h)
  · simp only [exAll, List.mem_append, List.mem_map] at h
    rcases h with (⟨x, hx, rfl⟩ | ⟨x, hx, rfl⟩) | ⟨x, hx, rfl⟩
    · exact ex_dec (State.WarmedH.refl _) (hE.1 x hx)
    · exact (ex_two (State.WarmedH.refl _) (fun _ _ h _ => h) (hE.2.2.2.2 x hx).1 (hE.2.2.2.2 x hx).2).1
    · exact (ex_two (State.WarmedH.refl _) (fun _ _ h _ => h) (hE.2.2.2.2 x hx).1 (hE.2.2.2.2 x hx).2).2
