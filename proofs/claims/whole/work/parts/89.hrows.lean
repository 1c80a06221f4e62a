/-! The law's helpers: a call whose throws are caught -/
section HR
variable {p : Program} {l : Launch} {e : Env} {R : Room} {s : State} {m : MethodId} {args : Array Value} {below : List Frame} {meth : Method} {c : Code} {H : Heap} {cells slots : Nat} {Q : State → Prop}
variable {cc : ByteArray} {pc : Nat} {ls : Array Slot} {rest st0 : List Value} {D : va_G} {ca : Nat → ClassId} {b N : Nat} {C : Nat → va_E} {post : Option Value → (Nat → va_E) → Prop} {thr : String → Prop} {a : Array Value} {mc ms : Nat}
theorem cls_of (hown : s.vm.findClass "OrderPassingLaw" = some m.cls) (ha : l.admits e) {ct : Nat} {X : String} (hlink : (Cond.classLink "OrderPassingLaw" ct X).before args s = true) : ∃ c' k, s.vm.findClass X = some c' ∧ s.vm.classes[c']? = some k ∧ s.vm.ClassLinks e.platform m.cls ct c' := by
  have hpl : e.platform.magicAccessors = ({} : Platform).magicAccessors := by rw [ha.platform]
  obtain ⟨c', hc', hcl⟩ := Cond.classLink_spec hown hlink e.platform hpl
  obtain ⟨k, hk, -⟩ := Vm.findClass_spec hc'
  exact ⟨c', k, hc', hk, hcl⟩
/-- one handler -/
theorem xh_call1 {a0 e0 hp ct : Nat} {X1 : String} (hr : tRun p l e R s m args below meth c H [] cells slots mc ms (F0 m pc ls st0) rest (tQ D b N (xr b N) post thr a) (xr b N)) (hown : s.vm.findClass "OrderPassingLaw" = some m.cls) (hE : EX s)
    (htab : c.exceptionTable.toList.map (fun h => (h.startPc, h.endPc, h.handlerPc, h.catchType)) = [(a0, e0, hp, ct)]) (hcov : a0 ≤ pc ∧ pc < e0) (hct : ct ≠ 0) (hlink : (Cond.classLink "OrderPassingLaw" ct X1).before args s = true) (hX1 : (X1, X1) ∈ exC) (hthr : ∀ X, thr X → X = X1)
    (kk : ∀ (v : Option Value) (C1 : Nat → va_E) (H1 : Heap) (locs1 : List Loc), post v C1 → va_P D classes (wl b N C1) H1 → va_S (xr b N) H H1 locs1 → W p l e R s m args below meth c H1 locs1 (cells + mc) (slots + ms) Q (F0 m (pc + 3) ls (v.toList ++ rest)))
    (kt : ∀ (x : Addr) (H1 : Heap) (locs1 : List Loc), thr X1 → nCh H H1 → (∀ z ∈ locs1, xr b N z.base) → W p l e R s m args below meth c H1 locs1 (cells + mc) (slots + ms) Q (F0 m hp ls [.ref x])) : W p l e R s m args below meth c H [] cells slots Q (F0 m pc ls st0) := by
  intro T hT X
  obtain ⟨o, st₀, t, T', L, h0, hw0, X', hL, e1, e2, hq, st⟩ := hr T hT X
  have X' : Stand p l e R s m args below meth c T' L (cells + mc) (slots + ms) := X'
  rcases hq with ⟨v, C1, rfl, hp9, hP1, hF⟩ | ⟨x, Xn, rfl, hth, ⟨cX, ce, q1, q2, q3, q4⟩, hF⟩
  · obtain ⟨t2, a1, b1⟩ := kk v C1 T'.heap L hp9 (by rw [e1]; exact hP1) ⟨by rw [e1, ← h0]; exact hF.1, fun z hz hx => by rw [e1, ← h0]; exact hF.2 z (by rw [h0]; exact hz) hx, hL⟩ T' rfl X'
    exact ⟨t2, st t2 a1, b1⟩
  · have hXe := hthr Xn hth
    rw [hXe] at hth q1
    obtain ⟨y, hy, e9⟩ : ∃ y : ExceptionTableEntry, c.exceptionTable.toList = [y] ∧ (y.startPc, y.endPc, y.handlerPc, y.catchType) = (a0, e0, hp, ct) := by
      cases hl : c.exceptionTable.toList with
      | nil => rw [hl] at htab; cases htab
      | cons y r =>
        rw [hl] at htab
        simp only [List.map_cons, List.cons.injEq, List.map_eq_nil_iff] at htab
        obtain ⟨g1, rfl⟩ := htab
        exact ⟨y, rfl, g1⟩
    simp only [Prod.mk.injEq] at e9
    obtain ⟨y1, y2, y3, y4⟩ := e9
    obtain ⟨c', k', f1, f2, f3⟩ := cls_of hown X.admits hlink
    have fX : T'.vm.findClass X1 = some cX := by rw [e2]; exact q1
    rw [X'.warmed.alike.findClass, f1] at fX
    have q3 : ce.cls = c' := q3.trans (Option.some.inj fX).symm
    obtain ⟨cc1, cc2, g1, g2, g3⟩ := Cond.castable_spec (hE.2.1 (X1, X1) hX1)
    rw [Option.some.inj (g1.symm.trans f1), Option.some.inj (g2.symm.trans f1)] at g3
    obtain ⟨vm', XV, hst⟩ := eh_first X' x (g := F0 m pc ls rest) rfl hy (by simp [covers, y1, y2]; omega) (by rw [y4]; exact hct) (cT := c') (by rw [y4]; exact f3) (cell := ce) (by rw [e1]; exact q2) (fun k => by rw [q4]; intro h; cases h) ⟨k', by rw [q3]; exact f2⟩ (by rw [q3]; exact g3)
    obtain ⟨t2, a1, b1⟩ := kt x T'.heap L hth (by rw [e1]; exact nCh.tr (st := st₀) ⟨Nat.le_refl _, fun _ _ _ => rfl, fun _ h => by cases h⟩ h0 hF) hL (T'.setVm vm') rfl XV
    refine ⟨t2, st t2 (hst t2 ?_), b1⟩
    rw [y3]
    exact a1
/-- two handlers -/
theorem xh_call2 {a0 e0 hp ct hp2 ct2 : Nat} {X1 X2 : String} (hr : tRun p l e R s m args below meth c H [] cells slots mc ms (F0 m pc ls st0) rest (tQ D b N (xr b N) post thr a) (xr b N)) (hown : s.vm.findClass "OrderPassingLaw" = some m.cls) (hE : EX s)
    (htab : c.exceptionTable.toList.map (fun h => (h.startPc, h.endPc, h.handlerPc, h.catchType)) = [(a0, e0, hp, ct), (a0, e0, hp2, ct2)]) (hcov : a0 ≤ pc ∧ pc < e0) (hct : ct ≠ 0) (hct2 : ct2 ≠ 0) (hlink : (Cond.classLink "OrderPassingLaw" ct X1).before args s = true) (hlink2 : (Cond.classLink "OrderPassingLaw" ct2 X2).before args s = true) (hX1 : (X1, X1) ∈ exC) (hX2 : (X2, X2) ∈ exC) (hX12 : (X2, X1) ∈ exN) (hthr : ∀ X, thr X → X = X1 ∨ X = X2)
    (kk : ∀ (v : Option Value) (C1 : Nat → va_E) (H1 : Heap) (locs1 : List Loc), post v C1 → va_P D classes (wl b N C1) H1 → va_S (xr b N) H H1 locs1 → W p l e R s m args below meth c H1 locs1 (cells + mc) (slots + ms) Q (F0 m (pc + 3) ls (v.toList ++ rest)))
    (kt : ∀ (x : Addr) (H1 : Heap) (locs1 : List Loc), thr X1 → nCh H H1 → (∀ z ∈ locs1, xr b N z.base) → W p l e R s m args below meth c H1 locs1 (cells + mc) (slots + ms) Q (F0 m hp ls [.ref x]))
    (kt2 : ∀ (x : Addr) (H1 : Heap) (locs1 : List Loc), thr X2 → nCh H H1 → (∀ z ∈ locs1, xr b N z.base) → W p l e R s m args below meth c H1 locs1 (cells + mc) (slots + ms) Q (F0 m hp2 ls [.ref x])) : W p l e R s m args below meth c H [] cells slots Q (F0 m pc ls st0) := by
  intro T hT X
  obtain ⟨o, st₀, t, T', L, h0, hw0, X', hL, e1, e2, hq, st⟩ := hr T hT X
  have X' : Stand p l e R s m args below meth c T' L (cells + mc) (slots + ms) := X'
  rcases hq with ⟨v, C1, rfl, hp9, hP1, hF⟩ | ⟨x, Xn, rfl, hth, ⟨cX, ce, q1, q2, q3, q4⟩, hF⟩
  · obtain ⟨t2, a1, b1⟩ := kk v C1 T'.heap L hp9 (by rw [e1]; exact hP1) ⟨by rw [e1, ← h0]; exact hF.1, fun z hz hx => by rw [e1, ← h0]; exact hF.2 z (by rw [h0]; exact hz) hx, hL⟩ T' rfl X'
    exact ⟨t2, st t2 a1, b1⟩
  · obtain ⟨y, z, hy, e9, e10⟩ : ∃ y z : ExceptionTableEntry, c.exceptionTable.toList = [y, z] ∧ (y.startPc, y.endPc, y.handlerPc, y.catchType) = (a0, e0, hp, ct) ∧ (z.startPc, z.endPc, z.handlerPc, z.catchType) = (a0, e0, hp2, ct2) := by
      cases hl : c.exceptionTable.toList with
      | nil => rw [hl] at htab; cases htab
      | cons y r =>
        cases r with
        | nil => rw [hl] at htab; simp at htab
        | cons z r =>
          rw [hl] at htab
          simp only [List.map_cons, List.cons.injEq, List.map_eq_nil_iff] at htab
          obtain ⟨g1, g2, rfl⟩ := htab
          exact ⟨y, z, rfl, g1, g2⟩
    simp only [Prod.mk.injEq] at e9 e10
    obtain ⟨y1, y2, y3, y4⟩ := e9
    obtain ⟨z1, z2, z3, z4⟩ := e10
    obtain ⟨c', k', f1, f2, f3⟩ := cls_of hown X.admits hlink
    obtain ⟨d', l', i1, i2, i3⟩ := cls_of hown X.admits hlink2
    have hN : nCh H T'.heap := by rw [e1]; exact nCh.tr (st := st₀) ⟨Nat.le_refl _, fun _ _ _ => rfl, fun _ h => by cases h⟩ h0 hF
    have fX : T'.vm.findClass Xn = some cX := by rw [e2]; exact q1
    rw [X'.warmed.alike.findClass] at fX
    rcases hthr Xn hth with h | h
    · rw [h] at fX hth
      rw [f1] at fX
      have q3 : ce.cls = c' := q3.trans (Option.some.inj fX).symm
      obtain ⟨cc1, cc2, g1, g2, g3⟩ := Cond.castable_spec (hE.2.1 (X1, X1) hX1)
      rw [Option.some.inj (g1.symm.trans f1), Option.some.inj (g2.symm.trans f1)] at g3
      obtain ⟨vm', XV, hst⟩ := eh_first X' x (g := F0 m pc ls rest) rfl hy (by simp [covers, y1, y2]; omega) (by rw [y4]; exact hct) (cT := c') (by rw [y4]; exact f3) (cell := ce) (by rw [e1]; exact q2) (fun k => by rw [q4]; intro h; cases h) ⟨k', by rw [q3]; exact f2⟩ (by rw [q3]; exact g3)
      obtain ⟨t2, a1, b1⟩ := kt x T'.heap L hth hN hL (T'.setVm vm') rfl XV
      refine ⟨t2, st t2 (hst t2 ?_), b1⟩
      rw [y3]
      exact a1
    · rw [h] at fX hth
      rw [i1] at fX
      have q3 : ce.cls = d' := q3.trans (Option.some.inj fX).symm
      obtain ⟨cc1, cc2, g1, g2, g3⟩ := Cond.castable_spec (hE.2.1 (X2, X2) hX2)
      rw [Option.some.inj (g1.symm.trans i1), Option.some.inj (g2.symm.trans i1)] at g3
      have hno : s.vm.assignable d' c' = false := by
        have hv := Cond.holds_not_iff.mp (hE.2.2.1 (X2, X1) hX12)
        simp only [Cond.value, f1, i1] at hv
        exact Option.some.inj hv
      obtain ⟨vm', XV, hst⟩ := eh_second X' x (g := F0 m pc ls rest) rfl hy (by simp [covers, y1, y2]; omega) (by simp [covers, z1, z2]; omega) (by rw [y4]; exact hct) (by rw [z4]; exact hct2) (cT := c') (cT2 := d') (by rw [y4]; exact f3) (by rw [z4]; exact i3) (cell := ce) (by rw [e1]; exact q2) (fun k => by rw [q4]; intro h; cases h) ⟨l', by rw [q3]; exact i2⟩ (by rw [q3]; exact hno) (by rw [q3]; exact g3)
      obtain ⟨t2, a1, b1⟩ := kt2 x T'.heap L hth hN hL (T'.setVm vm') rfl XV
      refine ⟨t2, st t2 (hst t2 ?_), b1⟩
      rw [z3]
      exact a1
end HR
/-- contracts of the law's helpers: the class's world, and the cell of answers -/
abbrev outc (ca : Nat → ClassId) (f : Nat → Int64) : Cell := vp_cell (ca 1) (1, .inr (.inl f))
def hPc (D : va_G) (ca : Nat → ClassId) (b o : Nat) (C : Nat → va_E) (f : Nat → Int64) (av : List Value) : Array Value → State → Prop := va_Pc av (fun U => va_P D classes (wl b 219 C) U.heap ∧ U.heap[o]? = some (outc ca f) ∧ va_K D classes (tysA ca) U ∧ EX U)
def hQ (D : va_G) (ca : Nat → ClassId) (b o : Nat) (post : Nat → (Nat → va_E) → (Nat → Int64) → Prop) : Array Value → State → Outcome → State → Prop := fun _ st oc t =>
  (∃ (k : Nat) (C : Nat → va_E) (f : Nat → Int64), oc = .returned (some (.int (nI k))) ∧ post k C f ∧ va_P D classes (wl b 219 C) t.heap ∧ t.heap[o]? = some (outc ca f)) ∧ va_F (fun q => xr b 219 q ∨ q = o) st t
theorem hPc_blind {D : va_G} {ca : Nat → ClassId} {b o : Nat} {C : Nat → va_E} {f : Nat → Int64} {av : List Value} : FrameBlind (hPc D ca b o C f av) := by
  intro a U g mk q
  obtain ⟨q0, qP, qo, qK, qE⟩ := q
  exact ⟨q0, qP, qo, va_K.moved (u := U) (U := U.calling g mk a) (Vm.Alike.refl U.vm) qK, EX.blind qE⟩
