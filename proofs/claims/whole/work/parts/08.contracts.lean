/-! Contracts over a world by number: what a method takes and gives -/
def xPc (D : va_G) (ca : Nat → ClassId) (b N : Nat) (C : Nat → va_E) (av : List Value) : Array Value → State → Prop := va_Pc av (fun U => va_P D classes (wl b N C) U.heap ∧ va_K D classes (tysA ca) U)
def xQ (D : va_G) (b N : Nat) (post : Option Value → (Nat → va_E) → Prop) : Array Value → State → Outcome → State → Prop := fun _ st oc t => (∃ (v : Option Value) (C : Nat → va_E), oc = .returned v ∧ post v C ∧ va_P D classes (wl b N C) t.heap) ∧ va_F (xr b N) st t
theorem xPc_blind {D : va_G} {ca : Nat → ClassId} {b N : Nat} {C : Nat → va_E} {av : List Value} : FrameBlind (xPc D ca b N C av) := by
  intro a U g mk q
  obtain ⟨q0, qP, qK⟩ := q
  exact ⟨q0, qP, va_K.moved (u := U) (U := U.calling g mk a) (Vm.Alike.refl U.vm) qK⟩
section XC
variable {p : Program} {l : Launch} {e : Env} {R : Room} {s : State} {m : MethodId} {args : Array Value} {below : List Frame} {meth : Method} {c : Code} {H : Heap} {locs : List Loc} {cells slots : Nat} {Q : State → Prop}
variable {cc : ByteArray} {pc : Nat} {ls : Array Slot} {rest : List Value} {D : va_G} {ca : Nat → ClassId} {b N : Nat} {C : Nat → va_E} {post : Option Value → (Nat → va_E) → Prop}
theorem xw_iret {v : Int32} (hexec : p.tables.exec = Jvm.exec) (hb : c.code = cc) (hr : meth.sig.returnType = some .int) (hlocks : meth.locks = false) (hP : va_P D classes (wl b N C) H) (hS : va_S (xr b N) s.heap H locs) (hq : post (some (.int v)) C) (hdg : decode cc pc = .ok (.ireturn, 1)) : W p l e R s m args below meth c H locs cells slots (MQ below (xQ D b N post) args s cells slots (xr b N)) (F0 m pc ls [.int v]) :=
  W.iret hexec hb hr (fun t ht _ => ⟨⟨_, C, rfl, hq, by rw [ht]; exact hP⟩, hS.F ht⟩) hS.2.2 hdg
theorem xw_zret {v : Int32} (hexec : p.tables.exec = Jvm.exec) (hb : c.code = cc) (hr : meth.sig.returnType = some .boolean) (hlocks : meth.locks = false) (hn : narrow .boolean (.int v) = .int v) (hP : va_P D classes (wl b N C) H) (hS : va_S (xr b N) s.heap H locs) (hq : post (some (.int v)) C) (hdg : decode cc pc = .ok (.ireturn, 1)) : W p l e R s m args below meth c H locs cells slots (MQ below (xQ D b N post) args s cells slots (xr b N)) (F0 m pc ls [.int v]) :=
  W.zret hexec hb hr hn (fun t ht _ => ⟨⟨_, C, rfl, hq, by rw [ht]; exact hP⟩, hS.F ht⟩) hS.2.2 hdg
theorem xw_vret (hexec : p.tables.exec = Jvm.exec) (hb : c.code = cc) (hr : meth.sig.returnType = none) (hlocks : meth.locks = false) (hP : va_P D classes (wl b N C) H) (hS : va_S (xr b N) s.heap H locs) (hq : post none C) (hdg : decode cc pc = .ok (.return_, 1)) : W p l e R s m args below meth c H locs cells slots (MQ below (xQ D b N post) args s cells slots (xr b N)) (F0 m pc ls []) :=
  W.vret hexec hb hr (fun t ht _ => ⟨⟨_, C, rfl, hq, by rw [ht]; exact hP⟩, hS.F ht⟩) hS.2.2 hdg
/-- a call of a method of an object of this world -/
theorem xc_V {own Cn : String} {i : Nat} {y : MethodName} {bytes : ByteArray} {maxL nL n : Nat} {rt : Option FieldType} {kc : Cond} {rm : Room} {As st0 : List Value} {g0 ci : Nat} {q : vw_C} {fs : List Value} {lv : List (Nat × Value)} {A0 : Nat → Prop} {H0 : Heap}
    (hexec : p.tables.exec = Jvm.exec) (hb : c.code = cc) (hml : c.maxLocals = nL) (hown : s.vm.findClass own = some m.cls) (hts : ∀ w ∈ kc :: gw, w.before args s = true)
    (hM : Met l y (Cond.code y bytes maxL rt :: gw) rm (xPc D ca b N C (.ref (b + g0) :: As)) (xQ D b N post) 0 0 (xr b N))
    (h5 : Cond.code y bytes maxL rt ∈ gw) (h1 : Cond.methodLink own i y ∈ gw) (h2 : Cond.instanceMethod y ∈ gw) (h3 : Cond.selects Cn y y ∈ gw) (h4 : Cond.initialized Cn ∈ gw)
    (hd : y.cls = Cn ∧ y.cls ≠ "java/lang/invoke/MethodHandle" ∧ y.cls ≠ "java/lang/invoke/VarHandle" ∧ (parseMethodDescriptor y.desc).map (fun d => d.parameters.length) = some n) (hrc : rm.cells = 0) (hrs : rm.slots = 0) (hR : rm.frames + 1 ≤ R.frames ∧ 8 + (maxL + 11) + rm.locals ≤ R.locals)
    (hK : va_K D classes (tysA ca) s) (hP : va_P D classes (wl b N C) H) (hC : C g0 = .inr (ci, fs)) (hg : g0 < N) (hcl : classes[ci]? = some q) (hqn : q.1 = Cn) (hn : As.length = n) (hl : lv_has ls nL lv) (hst : st0 = As.reverse ++ .ref (b + g0) :: rest) (hW : (rest.map fun v => v.category).sum ≤ 8) (hdg : decode cc pc = .ok (.invokevirtual i, 3))
    (hcs : cells ≤ R.cells ∧ slots ≤ R.slots) (hS : va_S A0 H0 H locs) (hA : ∀ z, xr b N z → A0 z)
    (kk : ∀ (v : Option Value) (C1 : Nat → va_E) (H1 : Heap) (locs1 : List Loc), post v C1 → va_P D classes (wl b N C1) H1 → H.size ≤ H1.size → (∀ z : Nat, z < H.size → ¬ xr b N z → H1[z]? = H[z]?) → va_S A0 H0 H1 locs1 → W p l e R s m args below meth c H1 locs1 cells slots Q (F0 m (pc + 3) ls (v.toList ++ rest))) :
    W p l e R s m args below meth c H locs cells slots Q (F0 m pc ls st0) := by
  subst hqn
  have hr := va_runV (H := H) (locs := locs) (cells := cells) (slots := slots) (As := As) (rest := rest) (below := below) (meth := meth) (e := e) (g := F0 m pc ls st0) ⟨hexec, hb, hml, hown, hts⟩ hM (cwV n hts (gi_V h5 h1 h2 h3 h4) rfl hrc hrs hd hR) ⟨xPc_blind, va_recv hK hP hcl (wl_at hC hg), fun U hU hW => ⟨rfl, by rw [hU]; exact hP, va_K.moved hW.alike hK⟩⟩ rfl hn hl.1 hst (lv_room hW) hdg ⟨by omega, by omega⟩
  intro T hT X
  obtain ⟨v, st₀, t, T', L, h0, X', hL, e1, e2, ⟨⟨v', C1, hv, hp, hP1⟩, hF⟩, st⟩ := hr T hT X
  cases hv
  obtain ⟨t2, a1, b1⟩ := kk v C1 T'.heap (locs ++ L) hp (by rw [e1]; exact hP1) (by rw [e1, ← h0]; exact hF.1) (fun z hz hx => by rw [e1, ← h0]; exact hF.2 z (by rw [h0]; exact hz) hx) ⟨by rw [e1]; exact Nat.le_trans hS.1 (by rw [← h0]; exact hF.1), fun z hz hx => by rw [e1]; rw [hF.2 z (by rw [h0]; exact Nat.lt_of_lt_of_le hz hS.1) (fun q => hx (hA z q)), h0]; exact hS.2.1 z hz hx, fun z hz => (List.mem_append.mp hz).elim (fun q => hS.2.2 z q) (fun q => hA _ (hL z q))⟩ T' rfl X'
  exact ⟨t2, st t2 a1, b1⟩
/-- a call of a static method of one's own class, over this world -/
theorem xc_S {own : String} {i : Nat} {y : MethodName} {bytes : ByteArray} {maxL nL n : Nat} {rt : Option FieldType} {kc : Cond} {rm : Room} {As st0 : List Value} {lv : List (Nat × Value)} {A0 : Nat → Prop} {H0 : Heap}
    (hexec : p.tables.exec = Jvm.exec) (hb : c.code = cc) (hml : c.maxLocals = nL) (hown : s.vm.findClass own = some m.cls) (hts : ∀ w ∈ kc :: gw, w.before args s = true)
    (hM : Met l y (Cond.code y bytes maxL rt :: gw) rm (xPc D ca b N C As) (xQ D b N post) 0 0 (xr b N))
    (h5 : Cond.code y bytes maxL rt ∈ gw) (h1 : Cond.methodLink own i y ∈ gw) (h2 : Cond.static y ∈ gw) (h4 : Cond.initialized own ∈ gw)
    (hd : y.cls = own ∧ y.cls ≠ "java/lang/invoke/MethodHandle" ∧ y.cls ≠ "java/lang/invoke/VarHandle" ∧ (parseMethodDescriptor y.desc).map (fun d => d.parameters.length) = some n) (hrc : rm.cells = 0) (hrs : rm.slots = 0) (hR : rm.frames + 1 ≤ R.frames ∧ 8 + (maxL + 11) + rm.locals ≤ R.locals)
    (hK : va_K D classes (tysA ca) s) (hP : va_P D classes (wl b N C) H) (hn : As.length = n) (hl : lv_has ls nL lv) (hst : st0 = As.reverse ++ rest) (hW : (rest.map fun v => v.category).sum ≤ 8) (hdg : decode cc pc = .ok (.invokestatic i, 3))
    (hcs : cells ≤ R.cells ∧ slots ≤ R.slots) (hS : va_S A0 H0 H locs) (hA : ∀ z, xr b N z → A0 z)
    (kk : ∀ (v : Option Value) (C1 : Nat → va_E) (H1 : Heap) (locs1 : List Loc), post v C1 → va_P D classes (wl b N C1) H1 → H.size ≤ H1.size → (∀ z : Nat, z < H.size → ¬ xr b N z → H1[z]? = H[z]?) → va_S A0 H0 H1 locs1 → W p l e R s m args below meth c H1 locs1 cells slots Q (F0 m (pc + 3) ls (v.toList ++ rest))) :
    W p l e R s m args below meth c H locs cells slots Q (F0 m pc ls st0) := by
  have hr := va_runS (H := H) (locs := locs) (cells := cells) (slots := slots) (As := As) (rest := rest) (below := below) (meth := meth) (e := e) (g := F0 m pc ls st0) ⟨hexec, hb, hml, hown, hts⟩ hM (cwS n hts (gi_S h5 h1 h2 h4) rfl hrc hrs hd hR) ⟨xPc_blind, fun U hU hW => ⟨rfl, by rw [hU]; exact hP, va_K.moved hW.alike hK⟩⟩ rfl hn hl.1 hst (lv_room hW) hdg ⟨by omega, by omega⟩
  intro T hT X
  obtain ⟨v, st₀, t, T', L, h0, X', hL, e1, e2, ⟨⟨v', C1, hv, hp, hP1⟩, hF⟩, st⟩ := hr T hT X
  cases hv
  obtain ⟨t2, a1, b1⟩ := kk v C1 T'.heap (locs ++ L) hp (by rw [e1]; exact hP1) (by rw [e1, ← h0]; exact hF.1) (fun z hz hx => by rw [e1, ← h0]; exact hF.2 z (by rw [h0]; exact hz) hx) ⟨by rw [e1]; exact Nat.le_trans hS.1 (by rw [← h0]; exact hF.1), fun z hz hx => by rw [e1]; rw [hF.2 z (by rw [h0]; exact Nat.lt_of_lt_of_le hz hS.1) (fun q => hx (hA z q)), h0]; exact hS.2.1 z hz hx, fun z hz => (List.mem_append.mp hz).elim (fun q => hS.2.2 z q) (fun q => hA _ (hL z q))⟩ T' rfl X'
  exact ⟨t2, st t2 a1, b1⟩
end XC
/-! A Great in a world: its cell g and its limbs' cell behind it -/
abbrev gobj (b g n : Nat) : va_E := .inr (2, [.ref (b + (g + 1)), .int (nI n)])
abbrev garr (ca : Nat → ClassId) (a : Nat → Nat) : va_E := .inl (ca 1, 6, .inr (.inl (fun k => lN (a k))))
def isG (ca : Nat → ClassId) (b : Nat) (C : Nat → va_E) (g v : Nat) : Prop := ∃ (a : Nat → Nat) (n : Nat), C g = gobj b g n ∧ C (g + 1) = garr ca a ∧ gRep a n v
theorem garr_up (ca : Nat → ClassId) (a : Nat → Nat) (j x : Nat) : (.inl (ca 1, 6, .inr (.inl (vp_updL (fun k => lN (a k)) j (lN x)))) : va_E) = garr ca (va_up a j x) := by
  have e : vp_updL (fun k => lN (a k)) j (lN x) = fun k => lN (va_up a j x k) := by
    funext k
    by_cases q : k = j
    · simp [vp_updL, va_up, q]
    · simp [vp_updL, va_up, q]
  rw [e]
