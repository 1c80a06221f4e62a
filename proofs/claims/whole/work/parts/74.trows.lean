/-! Contracts of methods that may throw, over a world by number -/
/-- an object of the class X lies there, and no statics -/
def tTh (X : String) (a : Addr) (t : State) : Prop := ∃ (cX : ClassId) (ce : Cell), t.vm.findClass X = some cX ∧ t.heap[a]? = some ce ∧ ce.cls = cX ∧ ce.vm = .none
def tQ (D : va_G) (b N : Nat) (A : Nat → Prop) (post : Option Value → (Nat → va_E) → Prop) (thr : String → Prop) : Array Value → State → Outcome → State → Prop := fun _ st oc t =>
  (∃ (v : Option Value) (C : Nat → va_E), oc = .returned v ∧ post v C ∧ va_P D classes (wl b N C) t.heap ∧ va_F A st t) ∨ (∃ (a : Addr) (X : String), oc = .threw a ∧ thr X ∧ tTh X a t ∧ va_F (fun _ => False) st t)
def tPc (D : va_G) (ca : Nat → ClassId) (b N : Nat) (C : Nat → va_E) (av : List Value) : Array Value → State → Prop := va_Pc av (fun U => va_P D classes (wl b N C) U.heap ∧ va_K D classes (tysA ca) U ∧ EX U)
theorem tPc_blind {D : va_G} {ca : Nat → ClassId} {b N : Nat} {C : Nat → va_E} {av : List Value} : FrameBlind (tPc D ca b N C av) := by
  intro a U g mk q
  obtain ⟨q0, qP, qK, qE⟩ := q
  exact ⟨q0, qP, va_K.moved (u := U) (U := U.calling g mk a) (Vm.Alike.refl U.vm) qK, EX.blind qE⟩
/-- nothing of what was there has changed -/
abbrev nCh (H0 H : Heap) : Prop := va_S (fun _ => False) H0 H []
theorem nCh.to {A : Nat → Prop} {H0 H : Heap} (h : nCh H0 H) : va_S A H0 H [] := ⟨h.1, fun q hq _ => h.2.1 q hq (fun x => x), fun _ hl => by cases hl⟩
theorem nCh.tr {H0 H : Heap} {st t : State} (h : nCh H0 H) (h0 : st.heap = H) (hF : va_F (fun _ => False) st t) : nCh H0 t.heap :=
  ⟨Nat.le_trans h.1 (by rw [← h0]; exact hF.1), fun q hq _ => (hF.2 q (by rw [h0]; exact Nat.lt_of_lt_of_le hq h.1) (fun x => x)).trans (by rw [h0]; exact h.2.1 q hq (fun x => x)), fun _ hl => by cases hl⟩
theorem nCh.P {D : va_G} {ws : va_W} {H0 H : Heap} (h : nCh H0 H) (hP : va_P D classes ws H0) : va_P D classes ws H := fun k q hk => (hP k q hk).kept (h.2.1 q.1 (hP k q hk).lt (fun x => x))
theorem nCh.E {s U : State} {H : Heap} (h : nCh s.heap H) (hU : U.heap = H) (hW : s.WarmedH U.vm) (hE : EX s) : EX U :=
  EX.move hW (fun z cell hz _ => by rw [hU, h.2.1 z (Array.getElem?_eq_some_iff.mp hz).1 (fun x => x)]; exact hz) hE
/-- the same heap, cell by cell, where no place was written -/
theorem same_cells {s t : State} {k n : Nat} (h : s.sameButNew t [] k n) : nCh s.heap t.heap := by
  obtain ⟨-, h2, -, -, -, h6⟩ := h
  refine ⟨h2, fun q hq _ => ?_, fun _ hl => by cases hl⟩
  obtain ⟨c', g1, g2, g3, g4⟩ := h6 q _ (Array.getElem?_eq_getElem hq)
  have e1 : c'.slots = (s.heap[q]).slots := by
    apply Array.ext_getElem?
    intro i
    exact g4 i (by simp)
  have e2 : c' = s.heap[q] := by rw [g2, e1]
  rw [g1, e2, Array.getElem?_eq_getElem hq]
section TR
variable {p : Program} {l : Launch} {e : Env} {R : Room} {s : State} {m : MethodId} {args : Array Value} {below : List Frame} {meth : Method} {c : Code} {H : Heap} {locs : List Loc} {cells slots : Nat}
variable {cc : ByteArray} {pc : Nat} {ls : Array Slot} {rest st0 : List Value} {D : va_G} {ca : Nat → ClassId} {b N : Nat} {C C0 : Nat → va_E} {post : Option Value → (Nat → va_E) → Prop} {thr : String → Prop} {A : Nat → Prop} {MC MS : Nat} {free : Addr → Prop}
theorem xt_iret {v : Int32} (hexec : p.tables.exec = Jvm.exec) (hb : c.code = cc) (hr : meth.sig.returnType = some .int) (hlocks : meth.locks = false) (hP : va_P D classes (wl b N C) H) (hS : va_S A s.heap H locs) (hc : cells ≤ MC) (hs : slots ≤ MS) (hf : ∀ q, A q → free q) (hq : post (some (.int v)) C) (hdg : decode cc pc = .ok (.ireturn, 1)) : W p l e R s m args below meth c H locs cells slots (TQ below (tQ D b N A post thr) args s MC MS free) (F0 m pc ls [.int v]) :=
  W.widen hc hs (xt_wk mq_tq (W.iret hexec hb hr (fun t ht _ => Or.inl ⟨_, C, rfl, hq, by rw [ht]; exact hP, hS.F ht⟩) (fun q hq => hf _ (hS.2.2 q hq)) hdg))
theorem xt_vret (hexec : p.tables.exec = Jvm.exec) (hb : c.code = cc) (hr : meth.sig.returnType = none) (hlocks : meth.locks = false) (hP : va_P D classes (wl b N C) H) (hS : va_S A s.heap H locs) (hc : cells ≤ MC) (hs : slots ≤ MS) (hf : ∀ q, A q → free q) (hq : post none C) (hdg : decode cc pc = .ok (.return_, 1)) : W p l e R s m args below meth c H locs cells slots (TQ below (tQ D b N A post thr) args s MC MS free) (F0 m pc ls []) :=
  W.widen hc hs (xt_wk mq_tq (W.vret hexec hb hr (fun t ht _ => Or.inl ⟨_, C, rfl, hq, by rw [ht]; exact hP, hS.F ht⟩) (fun q hq => hf _ (hS.2.2 q hq)) hdg))
/-- a call of a method that may throw and changes nothing: what it throws leaves -/
theorem xt_go {post1 : Option Value → (Nat → va_E) → Prop} {thr1 : String → Prop} {a : Array Value} {mc ms : Nat} (hr : tRun p l e R s m args below meth c H [] cells slots mc ms (F0 m pc ls st0) rest (tQ D b N (fun _ => False) post1 thr1 a) (fun _ => False)) (hnoh : c.exceptionTable.isEmpty = true) (hlocks : meth.locks = false) (hN : nCh s.heap H)
    (hc : cells + mc ≤ MC) (hs : slots + ms ≤ MS)
    (kk : ∀ (v : Option Value) (C1 : Nat → va_E) (H1 : Heap), post1 v C1 → va_P D classes (wl b N C1) H1 → nCh s.heap H1 → W p l e R s m args below meth c H1 [] (cells + mc) (slots + ms) (TQ below (tQ D b N A post thr) args s MC MS free) (F0 m (pc + 3) ls (v.toList ++ rest)))
    (kt : ∀ X, thr1 X → thr X) : W p l e R s m args below meth c H [] cells slots (TQ below (tQ D b N A post thr) args s MC MS free) (F0 m pc ls st0) := by
  intro T hT X
  obtain ⟨o, st₀, t, T', L, h0, hw0, X', hL, e1, e2, hq, st⟩ := hr T hT X
  have hLn : L = [] := by
    cases L with
    | nil => rfl
    | cons q r => exact (hL q List.mem_cons_self).elim
  subst hLn
  have X' : Stand p l e R s m args below meth c T' [] (cells + mc) (slots + ms) := X'
  rcases hq with ⟨v, C1, rfl, hp, hP1, hF⟩ | ⟨x, Xn, rfl, hth, ⟨cX, ce, q1, q2, q3, q4⟩, hF⟩
  · obtain ⟨t2, a1, b1⟩ := kk v C1 T'.heap hp (by rw [e1]; exact hP1) (by rw [e1]; exact hN.tr h0 hF) T' rfl X'
    exact ⟨t2, st t2 a1, b1⟩
  · obtain ⟨hwalk, hrun, hended, hW, hsame⟩ := X'.leaveThrown x (g := F0 m pc ls rest) rfl rfl rfl (covers_of_empty hnoh _) hlocks
    refine ⟨_, st _ hwalk, .threw x, hrun, hended, Or.inr ⟨x, Xn, rfl, kt Xn hth, ⟨cX, ce, ?_, ?_, q3, q4⟩, ?_⟩, [], ⟨hW, hsame.mono hc hs⟩, fun q hq => by cases hq⟩
    · show T'.vm.findClass Xn = some cX
      rw [e2]; exact q1
    · show T'.heap[x]? = some ce
      rw [e1]; exact q2
    · have hz : nCh s.heap T'.heap := by rw [e1]; exact hN.tr h0 hF
      exact ⟨hz.1, hz.2.1⟩
/-- new, dup, ldc, <init>, athrow: an exception is made and leaves -/
theorem xt_throw {nL inew istr ic ix : Nat} {X0 text : String} {bx : ByteArray} {lv : List (Nat × Value)} (hexec : p.tables.exec = Jvm.exec) (hb : c.code = cc) (hml : c.maxLocals = nL) (hown : s.vm.findClass "OrderPassing" = some m.cls) (htr : e.platform.stackTraces = false) (hlocks : meth.locks = false) (hnoh : c.exceptionTable.isEmpty = true)
    (hlinkC : (Cond.classLink "OrderPassing" inew X0).before args s = true) (hinst : (Cond.instantiable X0 6).before args s = true) (hini : (Cond.initialized X0).before args s = true) (hstr : (Cond.stringRef "OrderPassing" istr text).before args s = true)
    (hatoms : ∀ w ∈ ownA "OrderPassing" ic X0 ix bx nRTE upX, w.before args s = true) (hfit : Bundle.fit X0 = true)
    (hbx : decode bx 0 = .ok (.aload_n 0, 1) ∧ decode bx 1 = .ok (.aload_n 1, 1) ∧ decode bx 2 = .ok (.invokespecial ix, 3) ∧ decode bx 5 = .ok (.return_, 1))
    (d0 : decode cc pc = .ok (.new inew, 3)) (d1 : decode cc (pc + 3) = .ok (.dup, 1)) (d2 : decode cc (pc + 4) = .ok (.ldc istr, 2)) (d3 : decode cc (pc + 6) = .ok (.invokespecial ic, 3)) (d4 : decode cc (pc + 9) = .ok (.athrow, 1))
    (hN : nCh s.heap H) (hl : lv_has ls nL lv) (hthr : thr X0) (hR : 5 < R.frames ∧ 90 ≤ R.locals) (hRc : MC ≤ R.cells ∧ MS ≤ R.slots) (hc : cells + 1 ≤ MC) (hs : slots + 6 ≤ MS) :
    W p l e R s m args below meth c H [] cells slots (TQ below (tQ D b N A post thr) args s MC MS free) (F0 m pc ls []) := by
  intro T hT X
  obtain ⟨vm₁, cX, kX, hfX, hkX, -, -, X₁, st1⟩ := X.newCold hexec hown hlinkC hinst hini (g := F0 m pc ls []) rfl (by rw [hb]; exact d0) (by omega) (by omega)
  generalize hT1 : (T.setVm vm₁).pushCell { cls := cX, slots := kX.instanceTypes.map defaultValue, vm := .none } = T1 at X₁ st1
  have hcellA : T1.heap[T.heap.size]? = some (freshCell cX kX) := by rw [← hT1]; exact State.heap_pushCell_size _ _
  obtain ⟨-, -, -, sa, -, -, -, -, -, hev⟩ := Cond.stringRef_spec hown hstr
  obtain ⟨U, hsteps, hrun, hend, hW, hsame, ce, hce, k1, k2⟩ := xt_ctor X₁ hexec htr hown hfit (by decide +kernel) (by decide +kernel) hbx.1 hbx.2.1 hbx.2.2.1 hbx.2.2.2 hatoms (fun y hy => by cases hy) hfX hkX hcellA (by rw [hT]; exact hN.1) (msg := .ref sa) rfl
    (g := F0 m (pc + 6) ls [.ref sa, .ref T.heap.size, .ref T.heap.size]) rfl (by rw [hml]; exact hl.1) rfl rfl (rest := []) rfl (by rw [hb]; exact d3) (by rw [hb]; exact d4) (covers_of_empty hnoh _) (by simp; omega) (by simp [Value.category]; omega) hlocks
  refine ⟨U, st1 _ ?_, .threw T.heap.size, hrun, hend, Or.inr ⟨_, X0, rfl, hthr, ⟨cX, ce, ?_, hce, k1, k2⟩, ?_⟩, [], ⟨hW, hsame.mono hc hs⟩, fun q hq => by cases hq⟩
  · show Steps p.tables e below (T1.setTop (F0 m (pc + 3) ls [.ref T.heap.size])) U
    jvm_step X₁.here [X₁.here.top, hexec, hb, d1, Value.category]
    exact X₁.ldcString hexec (own := "OrderPassing") (text := text) (index := istr) (a := sa) hown hstr hev (g := F0 m (pc + 4) ls [.ref T.heap.size, .ref T.heap.size]) rfl (by rw [hb]; exact d2) _ hsteps
  · rw [hW.alike.findClass]; exact hfX
  · have hz : nCh s.heap U.heap := same_cells (t := ({ U with vm := s.vm } : State)) hsame
    exact ⟨hz.1, hz.2.1⟩
end TR
