/-! Rows of the law itself -/
theorem c_MO_thrownG (l : Launch) (D : va_G) (ca : Nat → ClassId) (b : Nat) (C0 : Nat → va_E) {th nd nt : Nat} {mwt mab mbe on1 ot2 lea mos : Nat → Nat} (hX : MG ca b C0 th nd nt mwt mab mbe on1 ot2 lea mos) : Met l y_MO_thrown (k_MO_thrown :: gw) ({ frames := 1, cells := 0, slots := 0, locals := 12 }) (xPc D ca b 11 C0 [.ref (b + 0)]) (xQ D b 11 (fun r C1 => r = some (.int (nI th)) ∧ MG ca b C1 th nd nt mwt mab mbe on1 ot2 lea mos)) 0 0 (xr b 11) := by
  obtain ⟨fs9, ls9, cn9, lf9, mb9, yrs, bv, big, wid, h1, h2⟩ := hX
  exact Met.post (c_MO_thrown l D ca b C0 h1) (fun v C1 h => ⟨h.1, fs9, ls9, cn9, lf9, mb9, yrs, bv, big, wid, h.2, h2⟩)
theorem MG.at0 {ca : Nat → ClassId} {b : Nat} {C : Nat → va_E} {th nd nt : Nat} {mwt mab mbe on1 ot2 lea mos : Nat → Nat} (h : MG ca b C th nd nt mwt mab mbe on1 ot2 lea mos) : ∃ fs, C 0 = .inr (5, fs) := by
  obtain ⟨fs9, ls9, cn9, lf9, mb9, yrs, bv, big, wid, h1, -⟩ := h
  exact ⟨_, MR_0 h1⟩
theorem XM.at0 {ca : Nat → ClassId} {b : Nat} {C : Nat → va_E} {nd nt : Nat} {mwt mab mbe on1 ot2 lea mos : Nat → Nat} (h : XM ca b C nd nt mwt mab mbe on1 ot2 lea mos) : ∃ fs, C 0 = .inr (0, fs) := by
  obtain ⟨wt, ab, be, fr, tt, le, mo, nf, tr, nm, fy, fb, k, im, hm, S, I, P, pt, ap, fa, wh, st, hX, -⟩ := h
  exact ⟨_, XS_0 hX⟩
theorem and15 (x : Int32) : ∃ n, n < 16 ∧ x &&& nI 15 = nI n := by
  refine ⟨x.toBitVec.toNat % 16, Nat.mod_lt _ (by decide), ?_⟩
  apply Int32.toBitVec_inj.1
  apply BitVec.eq_of_toNat_eq
  show (x.toBitVec &&& BitVec.ofNat 32 15).toNat = (BitVec.ofNat 32 (x.toBitVec.toNat % 16)).toNat
  rw [BitVec.toNat_and, BitVec.toNat_ofNat, BitVec.toNat_ofNat, show (15 % 2 ^ 32 : Nat) = 2 ^ 4 - 1 from rfl, Nat.and_two_pow_sub_one_eq_mod]
  rw [Nat.mod_eq_of_lt (a := x.toBitVec.toNat % 16) (Nat.lt_trans (Nat.mod_lt _ (by decide)) (by decide))]
theorem len6 {L i : Nat} (hL : L ≤ 3072) (hi : i ≤ L) (h : ¬ (nI L - nI 6 < nI i)) : i + 6 ≤ L := by
  by_cases q : 6 ≤ L
  · rw [pk_sub (by omega)] at h
    have h2 : ¬ (L - 6 < i) := fun z => h ((nI_ltI (by omega) (by omega)).mpr z)
    omega
  · exfalso
    have h3 : nI L - nI 6 < 0 := by
      rcases (show L = 0 ∨ L = 1 ∨ L = 2 ∨ L = 3 ∨ L = 4 ∨ L = 5 by omega) with rfl | rfl | rfl | rfl | rfl | rfl <;> decide
    exact h (Int32.lt_of_lt_of_le h3 (Int32.not_lt.mp (nI_pos (by omega))))
section LR
variable {p : Program} {l : Launch} {e : Env} {R : Room} {s : State} {m : MethodId} {args : Array Value} {below : List Frame} {meth : Method} {c : Code} {H : Heap} {cells slots : Nat} {Q : State → Prop}
variable {cc : ByteArray} {pc : Nat} {ls : Array Slot} {rest : List Value} {D : va_G} {ca : Nat → ClassId} {b : Nat} {C Cm : Nat → va_E} {f : Nat → Int64}
/-- the cells that the law holds -/
abbrev LWS (D : va_G) (ca : Nat → ClassId) (b : Nat) (C Cm : Nat → va_E) (f : Nat → Int64) (H : Heap) : Prop := va_P D classes (wl b 219 C) H ∧ va_P D classes (wl (b + 219) 11 Cm) H ∧ H[b + 230]? = some (outc ca f)
abbrev nOld (s : State) (H : Heap) : Prop := va_S (fun q => s.heap.size ≤ q) s.heap H []
theorem ex_at {U : State} (hS : nOld s H) (hU : U.heap = H) (hW : s.WarmedH U.vm) (hE : EX s) : EX U :=
  EX.move hW (fun z cell hz _ => by
    have hlt := (Array.getElem?_eq_some_iff.mp hz).1
    rw [hU, hS.2.1 z hlt (Nat.not_le.mpr hlt)]; exact hz) hE
/-- a helper is called -/
theorem xl_help {i : Nat} {y : MethodName} {bytes : ByteArray} {maxL nL n : Nat} {rt : Option FieldType} {hh : List (Nat × Nat × Nat × Nat)} {kc : Cond} {rm : Room} {As st0 : List Value} {lv : List (Nat × Value)} {post : Nat → (Nat → va_E) → (Nat → Int64) → Prop}
    (hexec : p.tables.exec = Jvm.exec) (hb : c.code = cc) (hml : c.maxLocals = nL) (hown : s.vm.findClass "OrderPassingLaw" = some m.cls) (hts : ∀ w ∈ kc :: gw, w.before args s = true)
    (hM : Met l y (Cond.codeWith y bytes maxL rt hh :: gw) rm (hPc D ca b (b + 230) C f As) (hQ D ca b (b + 230) post) 8 48 (fun q => xr b 219 q ∨ q = b + 230))
    (h5 : Cond.codeWith y bytes maxL rt hh ∈ gw) (h1 : Cond.methodLink "OrderPassingLaw" i y ∈ gw) (h2 : Cond.static y ∈ gw) (hyc : y.cls = "OrderPassingLaw")
    (hd : (parseMethodDescriptor y.desc).map (fun d => d.parameters.length) = some n) (hrc : rm.cells = 8) (hrs : rm.slots = 48) (hR : rm.frames + 1 ≤ R.frames ∧ 8 + (maxL + 11) + rm.locals ≤ R.locals)
    (hK : va_K D classes (tysA ca) s) (hE : EX s) (hLS : LWS D ca b C Cm f H) (hS : nOld s H) (hbb : s.heap.size = b) (hn : As.length = n) (hl : lv_has ls nL lv) (hst : st0 = As.reverse ++ rest) (hW : (rest.map fun v => v.category).sum ≤ 8) (hdg : decode cc pc = .ok (.invokestatic i, 3)) (hf : cells + 8 ≤ R.cells ∧ slots + 48 ≤ R.slots)
    (kk : ∀ (k : Nat) (C1 : Nat → va_E) (f1 : Nat → Int64) (H1 : Heap), post k C1 f1 → LWS D ca b C1 Cm f1 H1 → nOld s H1 → W p l e R s m args below meth c H1 [] (cells + 8) (slots + 48) Q (F0 m (pc + 3) ls (.int (nI k) :: rest))) :
    W p l e R s m args below meth c H [] cells slots Q (F0 m pc ls st0) := by
  have hyn : y.cls ≠ "java/lang/invoke/MethodHandle" ∧ y.cls ≠ "java/lang/invoke/VarHandle" := by rw [hyc]; exact ⟨by decide, by decide⟩
  have hini : (Cond.initialized y.cls).before args s = true := by rw [hyc]; exact hts _ (mw tb_0)
  have hBk : Back l R p e below s args y 3 8 (PreOf R 8 48 (hPc D ca b (b + 230) C f As)) (PostOf (hQ D ca b (b + 230) post) 8 48 (fun q => xr b 219 q ∨ q = b + 230)) := va_backW (hh := hh) (bytes := bytes) (maxL := maxL) (ret := rt) hM hPc_blind hrc hrs hR.1 hR.2 (pay_in hts (gi_gw h5)) List.mem_cons_self (fun a' U hW => word_at hW (Or.inl (by first | rfl | simp [Cond.onTables, Cond.keeps, Cond.steady])) hini)
  intro T hT X
  subst hb
  obtain ⟨mk, methM, cM, hnamed, hmethM, -, -, -, -, -, -, hsigM⟩ := Cond.codeWith_spec (hts _ (mw h5))
  have hstatic : methM.isStatic = true := Cond.static_spec hnamed hmethM (hts _ (mw h2))
  obtain ⟨kP, hkP, -⟩ := className_of_methodNamed hnamed
  have hinitP : kP.init = .initialized := Cond.initialized_spec (findClass_of_methodNamed hnamed) hkP hini
  have hlen : As.length = methM.sig.parameters.length := by
    rw [hsigM] at hd
    exact hn.trans (Option.some.inj hd).symm
  obtain ⟨vm₁, X₁, hstep₁⟩ := X.invokestatic hexec hown (hts _ (mw h1)) hnamed hmethM hstatic hkP hinitP hyn (g := F0 m pc ls st0) rfl (argsL := As) (rest := rest) hlen hst hdg
  obtain ⟨v, ⟨U', l2, c2, s2⟩, X', ⟨g', mk', t, L, e1, e2, hq, g1, hL, g2, g3⟩, hsteps⟩ := hBk m meth c ⟨T.setVm vm₁, [], cells, slots⟩ { F0 m pc ls st0 with stack := rest } (.invokestatic i) mk As.toArray X₁ rfl (by rw [hml]; exact hl.1) hdg (lv_room hW) (X₁.named hnamed) ⟨hf.1, hf.2, rfl, by show va_P D classes (wl b 219 C) T.heap; rw [hT]; exact hLS.1, by show T.heap[b + 230]? = _; rw [hT]; exact hLS.2.2, va_K.moved X₁.warmed.alike hK, ex_at (U := T.setVm vm₁) hS hT X₁.warmed hE⟩
  dsimp only [Pt.U, Pt.locs, Pt.cells, Pt.slots] at X' e1 e2 g1 g2 g3 hsteps
  subst g1; subst g2; subst g3
  obtain ⟨⟨k, C1, f1, hv, hp, hP1, hO1⟩, hF⟩ := hq
  cases hv
  have X' : Stand p l e R s m args below meth c U' [] (cells + 8) (slots + 48) := Stand.forget (locs := []) X' (fun q hq => by
    rcases hL q hq with h | h
    · rw [hbb]; exact h.1
    · rw [hbb, h]; omega)
  have hsz : H.size ≤ t.heap.size := by
    have := hF.1
    have e0 : ((T.setVm vm₁).calling g' mk' As.toArray).heap = H := hT
    rw [e0] at this; exact this
  have hold : ∀ q, q < H.size → ¬ (xr b 219 q ∨ q = b + 230) → t.heap[q]? = H[q]? := fun q h1 h2 => by
    have := hF.2 q (by show q < T.heap.size; rw [hT]; exact h1) h2
    have e0 : ((T.setVm vm₁).calling g' mk' As.toArray).heap = H := hT
    rw [e0] at this; exact this
  obtain ⟨t2, a1, b1⟩ := kk k C1 f1 U'.heap hp ⟨by rw [e1]; exact hP1, by
      rw [e1]
      exact wl_P.mpr (fun k hk => by
        have h := wl_P.mp hLS.2.1 k hk
        exact h.kept (hold _ h.lt (fun z => by rcases z with z | z; exact absurd z.2 (by show ¬ b + 219 + k < b + 219; omega); have : b + 219 + k = b + 230 := z; omega))), by rw [e1]; exact hO1⟩ ⟨by rw [e1]; exact Nat.le_trans hS.1 hsz, fun q h1 h2 => by
      rw [e1, hold q (Nat.lt_of_lt_of_le h1 hS.1) (fun z => by rcases z with z | z; exact absurd z.1 (by omega); omega)]
      exact hS.2.1 q h1 h2, fun _ hl => by cases hl⟩ U' rfl X'
  exact ⟨t2, hstep₁ _ fun acts => by rw [doInvoke_state]; exact hsteps.trans a1, b1⟩
/-- a method of the reference is called -/
theorem xl_mod {i : Nat} {y : MethodName} {bytes : ByteArray} {maxL nL n : Nat} {rt : Option FieldType} {kc : Cond} {rm : Room} {As st0 fs : List Value} {lv : List (Nat × Value)} {post : Option Value → (Nat → va_E) → Prop}
    (hexec : p.tables.exec = Jvm.exec) (hb : c.code = cc) (hml : c.maxLocals = nL) (hown : s.vm.findClass "OrderPassingLaw" = some m.cls) (hts : ∀ w ∈ kc :: gw, w.before args s = true)
    (hM : Met l y (Cond.code y bytes maxL rt :: gw) rm (xPc D ca (b + 219) 11 Cm (.ref (b + 219 + 0) :: As)) (xQ D (b + 219) 11 post) 0 0 (xr (b + 219) 11))
    (h5 : Cond.code y bytes maxL rt ∈ gw) (h1 : Cond.methodLink "OrderPassingLaw" i y ∈ gw) (h2 : Cond.instanceMethod y ∈ gw) (h3 : Cond.selects "OrderPassingModel" y y ∈ gw)
    (hd : y.cls = "OrderPassingModel" ∧ y.cls ≠ "java/lang/invoke/MethodHandle" ∧ y.cls ≠ "java/lang/invoke/VarHandle" ∧ (parseMethodDescriptor y.desc).map (fun d => d.parameters.length) = some n) (hrc : rm.cells = 0) (hrs : rm.slots = 0) (hR : rm.frames + 1 ≤ R.frames ∧ 8 + (maxL + 11) + rm.locals ≤ R.locals)
    (hK : va_K D classes (tysA ca) s) (hLS : LWS D ca b C Cm f H) (hS : nOld s H) (hbb : s.heap.size = b) (hC : Cm 0 = .inr (5, fs)) (hn : As.length = n) (hl : lv_has ls nL lv) (hst : st0 = As.reverse ++ .ref (b + 219 + 0) :: rest) (hW : (rest.map fun v => v.category).sum ≤ 8) (hdg : decode cc pc = .ok (.invokevirtual i, 3)) (hcs : cells ≤ R.cells ∧ slots ≤ R.slots)
    (kk : ∀ (v : Option Value) (Cm1 : Nat → va_E) (H1 : Heap), post v Cm1 → LWS D ca b C Cm1 f H1 → nOld s H1 → W p l e R s m args below meth c H1 [] cells slots Q (F0 m (pc + 3) ls (v.toList ++ rest))) :
    W p l e R s m args below meth c H [] cells slots Q (F0 m pc ls st0) :=
  xc_V (A0 := fun q => s.heap.size ≤ q) (H0 := s.heap) (N := 11) (b := b + 219) (C := Cm) (g0 := 0) (ci := 5) (q := (R_MO, F_MO, 18)) hexec hb hml hown hts hM h5 h1 h2 h3 tb_7 hd hrc hrs hR hK hLS.2.1 hC (by decide) rfl rfl hn hl hst hW hdg hcs hS (fun z hz => by rw [hbb]; exact Nat.le_trans (Nat.le_add_right _ _) hz.1) (fun v C1 H1 locs1 hp hP1 hsz hold hS1 => by
    refine va_forget (fun q hq => hS1.2.2 q hq) ?_
    refine kk v C1 H1 hp ⟨wl_P.mpr (fun k hk => ?_), hP1, ?_⟩ ⟨hS1.1, hS1.2.1, fun _ hl => by cases hl⟩
    · have h := wl_P.mp hLS.1 k hk
      exact h.kept (hold _ h.lt (fun z => absurd z.1 (by show ¬ b + 219 ≤ b + k; omega)))
    · rw [hold _ (Array.getElem?_eq_some_iff.mp hLS.2.2).1 (fun z => absurd z.2 (by omega))]; exact hLS.2.2)
/-- a method of the class that throws nothing is called -/
theorem xl_own {i : Nat} {y : MethodName} {bytes : ByteArray} {maxL nL n : Nat} {rt : Option FieldType} {kc : Cond} {rm : Room} {As st0 fs : List Value} {lv : List (Nat × Value)} {post : Option Value → (Nat → va_E) → Prop}
    (hexec : p.tables.exec = Jvm.exec) (hb : c.code = cc) (hml : c.maxLocals = nL) (hown : s.vm.findClass "OrderPassingLaw" = some m.cls) (hts : ∀ w ∈ kc :: gw, w.before args s = true)
    (hM : Met l y (Cond.code y bytes maxL rt :: gw) rm (xPc D ca b 219 C (.ref (b + 0) :: As)) (xQ D b 219 post) 0 0 (xr b 219))
    (h5 : Cond.code y bytes maxL rt ∈ gw) (h1 : Cond.methodLink "OrderPassingLaw" i y ∈ gw) (h2 : Cond.instanceMethod y ∈ gw) (h3 : Cond.selects "OrderPassing" y y ∈ gw)
    (hd : y.cls = "OrderPassing" ∧ y.cls ≠ "java/lang/invoke/MethodHandle" ∧ y.cls ≠ "java/lang/invoke/VarHandle" ∧ (parseMethodDescriptor y.desc).map (fun d => d.parameters.length) = some n) (hrc : rm.cells = 0) (hrs : rm.slots = 0) (hR : rm.frames + 1 ≤ R.frames ∧ 8 + (maxL + 11) + rm.locals ≤ R.locals)
    (hK : va_K D classes (tysA ca) s) (hLS : LWS D ca b C Cm f H) (hS : nOld s H) (hbb : s.heap.size = b) (hC : C 0 = .inr (0, fs)) (hn : As.length = n) (hl : lv_has ls nL lv) (hst : st0 = As.reverse ++ .ref (b + 0) :: rest) (hW : (rest.map fun v => v.category).sum ≤ 8) (hdg : decode cc pc = .ok (.invokevirtual i, 3)) (hcs : cells ≤ R.cells ∧ slots ≤ R.slots)
    (kk : ∀ (v : Option Value) (C1 : Nat → va_E) (H1 : Heap), post v C1 → LWS D ca b C1 Cm f H1 → nOld s H1 → W p l e R s m args below meth c H1 [] cells slots Q (F0 m (pc + 3) ls (v.toList ++ rest))) :
    W p l e R s m args below meth c H [] cells slots Q (F0 m pc ls st0) :=
  xc_V (A0 := fun q => s.heap.size ≤ q) (H0 := s.heap) (N := 219) (b := b) (C := C) (g0 := 0) (ci := 0) (q := (R_OP, F_OP, 5)) hexec hb hml hown hts hM h5 h1 h2 h3 tb_1 hd hrc hrs hR hK hLS.1 hC (by decide) rfl rfl hn hl hst hW hdg hcs hS (fun z hz => by rw [hbb]; exact hz.1) (fun v C1 H1 locs1 hp hP1 hsz hold hS1 => by
    refine va_forget (fun q hq => hS1.2.2 q hq) ?_
    refine kk v C1 H1 hp ⟨hP1, wl_P.mpr (fun k hk => ?_), ?_⟩ ⟨hS1.1, hS1.2.1, fun _ hl => by cases hl⟩
    · have h := wl_P.mp hLS.2.1 k hk
      exact h.kept (hold _ h.lt (fun z => absurd z.2 (by show ¬ b + 219 + k < b + 219; omega)))
    · rw [hold _ (Array.getElem?_eq_some_iff.mp hLS.2.2).1 (fun z => absurd z.2 (by omega))]; exact hLS.2.2)
/-- a cell of the script -/
theorem xl_ld {bs L j : Nat} {xs : Nat → Int32} (hexec : p.tables.exec = Jvm.exec) (hb : c.code = cc) (hX : va_X bs L xs s s.heap) (hbl : bs < s.heap.size) (hS : nOld s H) (hj : j < L) (hL : L ≤ 3072) (hdg : decode cc pc = .ok (.iaload, 1)) (kk : W p l e R s m args below meth c H [] cells slots Q (F0 m (pc + 1) ls (.int (xs j) :: rest))) : W p l e R s m args below meth c H [] cells slots Q (F0 m pc ls (.int (nI j) :: .ref bs :: rest)) :=
  va_sld (A := fun q => s.heap.size ≤ q) hexec hb hX hbl (Nat.not_le.mpr hbl) hS (vp_in_nI hj (by omega)) hdg (by rw [nI_clamp (by omega)]; exact kk)
theorem xl_out (hexec : p.tables.exec = Jvm.exec) (hb : c.code = cc) (hK : va_K D classes (tysA ca) s) (hLS : LWS D ca b C Cm f H) (hdg : decode cc pc = .ok (.laload, 1)) (kk : W p l e R s m args below meth c H [] cells slots Q (F0 m (pc + 1) ls (.long (f 0) :: rest))) : W p l e R s m args below meth c H [] cells slots Q (F0 m pc ls (.int (nI 0) :: .ref (b + 230) :: rest)) :=
  va_lald (ws := [(b + 230, .inl (ca 1, 1, .inr (.inl f)))]) hexec hb hK (fun k q hk => by
    have h0 : k < 1 := (List.getElem?_eq_some_iff.mp hk).1
    rw [show k = 0 by omega] at hk
    cases hk
    exact hLS.2.2) 0 1 rfl rfl (vp_in_nI (by decide) (by decide)) hdg kk
end LR
