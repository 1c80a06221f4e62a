/-! Getters that change nothing; what a call needs -/
def gQ (post : Option Value → Prop) : Array Value → State → Outcome → State → Prop := fun _ st oc t => (∃ v : Option Value, oc = .returned v ∧ post v) ∧ va_F (fun _ => False) st t
theorem isN_neg {d : Int32} {n : Nat} (h : d < 0) (hn : n ≤ 2 ^ 31) : ¬ isN d n := fun ⟨j, q1, q2⟩ => by rw [q2] at h; exact absurd h (nI_pos (by omega))
theorem isN_lt {d : Int32} {n : Nat} (hn : n < 2 ^ 31) (h0 : ¬ d < 0) (h : d < nI n) : isN d n := by
  obtain ⟨j, q1, q2⟩ := nI_of h0
  rw [q2] at h
  exact ⟨j, (nI_ltI q1 hn).mp h, q2⟩
theorem isN_ge {d : Int32} {n : Nat} (hn : n < 2 ^ 31) (h : ¬ d < nI n) : ¬ isN d n := fun ⟨j, q1, q2⟩ => h (by rw [q2]; exact (nI_ltI (by omega) hn).mpr q1)
section XG
variable {p : Program} {l : Launch} {e : Env} {R : Room} {s : State} {m : MethodId} {args : Array Value} {below : List Frame} {meth : Method} {c : Code} {H : Heap} {cells slots : Nat} {Q : State → Prop}
variable {cc : ByteArray} {pc : Nat} {ls : Array Slot} {rest : List Value} {D : va_G} {ca : Nat → ClassId} {b N : Nat} {C : Nat → va_E} {post : Option Value → Prop}
/-- a call of a getter -/
theorem xg_V {own Cn : String} {i : Nat} {y : MethodName} {bytes : ByteArray} {maxL nL n : Nat} {rt : Option FieldType} {kc : Cond} {rm : Room} {As st0 : List Value} {g0 ci : Nat} {q : vw_C} {fs : List Value} {lv : List (Nat × Value)}
    (hexec : p.tables.exec = Jvm.exec) (hb : c.code = cc) (hml : c.maxLocals = nL) (hown : s.vm.findClass own = some m.cls) (hts : ∀ w ∈ kc :: gw, w.before args s = true)
    (hM : Met l y (Cond.code y bytes maxL rt :: gw) rm (xPc D ca b N C (.ref (b + g0) :: As)) (gQ post) 0 0 (fun _ => False))
    (h5 : Cond.code y bytes maxL rt ∈ gw) (h1 : Cond.methodLink own i y ∈ gw) (h2 : Cond.instanceMethod y ∈ gw) (h3 : Cond.selects Cn y y ∈ gw) (h4 : Cond.initialized Cn ∈ gw)
    (hd : y.cls = Cn ∧ y.cls ≠ "java/lang/invoke/MethodHandle" ∧ y.cls ≠ "java/lang/invoke/VarHandle" ∧ (parseMethodDescriptor y.desc).map (fun d => d.parameters.length) = some n) (hrc : rm.cells = 0) (hrs : rm.slots = 0) (hR : rm.frames + 1 ≤ R.frames ∧ 8 + (maxL + 11) + rm.locals ≤ R.locals)
    (hK : va_K D classes (tysA ca) s) (hP : va_P D classes (wl b N C) H) (hC : C g0 = .inr (ci, fs)) (hg : g0 < N) (hcl : classes[ci]? = some q) (hqn : q.1 = Cn) (hn : As.length = n) (hl : lv_has ls nL lv) (hst : st0 = As.reverse ++ .ref (b + g0) :: rest) (hW : (rest.map fun v => v.category).sum ≤ 8) (hdg : decode cc pc = .ok (.invokevirtual i, 3))
    (hcs : cells ≤ R.cells ∧ slots ≤ R.slots) (hN : nCh s.heap H)
    (kk : ∀ (v : Option Value) (H1 : Heap), post v → va_P D classes (wl b N C) H1 → nCh s.heap H1 → W p l e R s m args below meth c H1 [] cells slots Q (F0 m (pc + 3) ls (v.toList ++ rest))) :
    W p l e R s m args below meth c H [] cells slots Q (F0 m pc ls st0) := by
  subst hqn
  have hr := va_runV (H := H) (locs := []) (cells := cells) (slots := slots) (As := As) (rest := rest) (below := below) (meth := meth) (e := e) (g := F0 m pc ls st0) ⟨hexec, hb, hml, hown, hts⟩ hM (cwV n hts (gi_V h5 h1 h2 h3 h4) rfl hrc hrs hd hR) ⟨xPc_blind, va_recv hK hP hcl (wl_at hC hg), fun U hU hW => ⟨rfl, by rw [hU]; exact hP, va_K.moved hW.alike hK⟩⟩ rfl hn hl.1 hst (lv_room hW) hdg ⟨by omega, by omega⟩
  intro T hT X
  obtain ⟨v, st₀, t, T', L, h0, X', hL, e1, e2, ⟨⟨v', hv, hp⟩, hF⟩, st⟩ := hr T hT X
  cases hv
  have hLn : L = [] := by
    cases L with
    | nil => rfl
    | cons q r => exact (hL q List.mem_cons_self).elim
  subst hLn
  have X' : Stand p l e R s m args below meth c T' [] cells slots := X'
  have hz : nCh H T'.heap := by rw [e1]; exact nCh.tr (st := st₀) ⟨Nat.le_refl _, fun _ _ _ => rfl, fun _ h => by cases h⟩ h0 hF
  obtain ⟨t2, a1, b1⟩ := kk v T'.heap hp (hz.P hP) (by rw [e1]; exact hN.tr h0 hF) T' rfl X'
  exact ⟨t2, st t2 a1, b1⟩
end XG
set_option maxHeartbeats 4000000 in
set_option maxRecDepth 100000 in
/-- the number of dates -/
theorem c0_DA_number (l : Launch) (D : va_G) (ca : Nat → ClassId) (b : Nat) (C0 : Nat → va_E) {wt : Nat → Nat → Nat} {ab : Nat → Nat} {be : Nat → Nat} {nd : Nat} {fr : Nat → Nat} {tt : Nat → Option Nat} {le : Nat → Nat} {mo : Nat → Nat} {nf : Nat → Bool} {tr : Nat → Nat} {nt : Nat} {nm : Nat} {fy : Nat → Option Nat} {fb : Nat → Option Nat} {od : Nat → Nat} {pa : Nat → Option Nat} {rp : Nat → Option Nat} {se : Nat → Bool} {im : Nat → Bool} {qd : Nat} {hm : Nat} {gv : Nat → Nat} (hX : XS ca b C0 wt ab be nd fr tt le mo nf tr nt nm fy fb od pa rp se im qd hm gv) : Met l y_DA_number (k_DA_number :: gw) ({ frames := 1, cells := 0, slots := 0, locals := 12 }) (xPc D ca b 219 C0 [.ref (b + 1)]) (gQ (fun r => r = some (.int (nI nd)))) 0 0 (fun _ => False) := by
  refine Met.ofW (cc := b_DA_number) (maxL := 1) (ret := (some FieldType.int)) (by decide) rfl ?_
  intro p e s m args below meth c s₁ B hml hv
  obtain ⟨hav, hP, hK⟩ := hv
  have hx := B.exec
  have hb := B.bytes
  have hr := B.returns
  have hts := atoms_spec (ws := k_DA_number :: gw) B.pre
  have hown : s.vm.findClass R_DA = some m.cls := findClass_of_methodNamed B.named
  have hlocks := B.notSynchronized
  have hl := lv_entry ([.ref (b + 1)]) (n := 1) (Nat.le_of_ble_eq_true rfl)
  rw [hav, lg_entry_eq]
  generalize (lg_sl ([.ref (b + 1)]) ++ List.replicate (1 - (lg_sl ([.ref (b + 1)])).length) Slot.unset).toArray = ls at hl ⊢
  have hl : lv_has ls 1 [(0, .ref (b + 1))] := hl
  rw [← hav]
  refine lv_aload_n hx hb d_DA_number_0 rfl (lv_at hl 0 rfl) ?_
  refine xw_get (v := .int (nI nd)) hx hb hts (fun w h => mw (uw_DA w h)) hown hK hP (XS_1 hX) (by decide) rfl 3 (by decide) (hts _ (mw tb_34)) (fun _ h => h) rfl d_DA_number_1 ?_
  exact W.iret hx hb hr (fun t ht _ => ⟨⟨_, rfl, rfl⟩, ⟨by rw [ht]; exact Nat.le_refl _, fun q _ _ => by rw [ht]⟩⟩) (fun q hq => by cases hq) d_DA_number_4
set_option maxHeartbeats 4000000 in
set_option maxRecDepth 100000 in
/-- the number of members -/
theorem c0_TE_members (l : Launch) (D : va_G) (ca : Nat → ClassId) (b : Nat) (C0 : Nat → va_E) {wt : Nat → Nat → Nat} {ab : Nat → Nat} {be : Nat → Nat} {nd : Nat} {fr : Nat → Nat} {tt : Nat → Option Nat} {le : Nat → Nat} {mo : Nat → Nat} {nf : Nat → Bool} {tr : Nat → Nat} {nt : Nat} {nm : Nat} {fy : Nat → Option Nat} {fb : Nat → Option Nat} {od : Nat → Nat} {pa : Nat → Option Nat} {rp : Nat → Option Nat} {se : Nat → Bool} {im : Nat → Bool} {qd : Nat} {hm : Nat} {gv : Nat → Nat} (hX : XS ca b C0 wt ab be nd fr tt le mo nf tr nt nm fy fb od pa rp se im qd hm gv) : Met l y_TE_members (k_TE_members :: gw) ({ frames := 1, cells := 0, slots := 0, locals := 12 }) (xPc D ca b 219 C0 [.ref (b + 11)]) (gQ (fun r => r = some (.int (nI nm)))) 0 0 (fun _ => False) := by
  refine Met.ofW (cc := b_TE_members) (maxL := 1) (ret := (some FieldType.int)) (by decide) rfl ?_
  intro p e s m args below meth c s₁ B hml hv
  obtain ⟨hav, hP, hK⟩ := hv
  have hx := B.exec
  have hb := B.bytes
  have hr := B.returns
  have hts := atoms_spec (ws := k_TE_members :: gw) B.pre
  have hown : s.vm.findClass R_TE = some m.cls := findClass_of_methodNamed B.named
  have hlocks := B.notSynchronized
  have hl := lv_entry ([.ref (b + 11)]) (n := 1) (Nat.le_of_ble_eq_true rfl)
  rw [hav, lg_entry_eq]
  generalize (lg_sl ([.ref (b + 11)]) ++ List.replicate (1 - (lg_sl ([.ref (b + 11)])).length) Slot.unset).toArray = ls at hl ⊢
  have hl : lv_has ls 1 [(0, .ref (b + 11))] := hl
  rw [← hav]
  refine lv_aload_n hx hb d_TE_members_0 rfl (lv_at hl 0 rfl) ?_
  refine xw_get (v := .int (nI nm)) hx hb hts (fun w h => mw (uw_TE w h)) hown hK hP (XS_11 hX) (by decide) rfl 7 (by decide) (hts _ (mw tb_58)) (fun _ h => h) rfl d_TE_members_1 ?_
  exact W.iret hx hb hr (fun t ht _ => ⟨⟨_, rfl, rfl⟩, ⟨by rw [ht]; exact Nat.le_refl _, fun q _ _ => by rw [ht]⟩⟩) (fun q hq => by cases hq) d_TE_members_4
set_option maxHeartbeats 4000000 in
set_option maxRecDepth 100000 in
/-- a year is needed -/
theorem c_OP_needYear (l : Launch) (hst : l.stackTraces = false) (D : va_G) (ca : Nat → ClassId) (b : Nat) (C0 : Nat → va_E) (d : Int32) : TMet l y_OP_needYear (k_OP_needYear :: gw) ({ frames := 6, cells := 1, slots := 6, locals := 90 }) (tPc D ca b 219 C0 [.int d]) (tQ D b 219 (fun _ => False) (fun v C1 => v = none ∧ C1 = C0 ∧ isN d 12) (fun X => X = nNSE ∧ ¬ isN d 12)) 1 6 (fun _ => False) := by
  refine tm_ofW (cc := b_OP_needYear) (maxL := 1) (ret := none) (by decide) rfl ?_
  intro p e s m args below meth c s₁ B hml hv
  obtain ⟨hav, hP, hK, hE⟩ := hv
  have hx := B.exec
  have hb := B.bytes
  have hr := B.returns
  have hts := atoms_spec (ws := k_OP_needYear :: gw) B.pre
  have hown : s.vm.findClass R_OP = some m.cls := findClass_of_methodNamed B.named
  have hlocks := B.notSynchronized
  have hnoh := B.noHandlers (hts _ List.mem_cons_self)
  have htr : e.platform.stackTraces = false := by rw [(Stand.of_body B).admits.platform]; exact hst
  have hN : nCh s.heap s.heap := va_S.rf
  have hl := lv_entry ([.int d]) (n := 1) (Nat.le_of_ble_eq_true rfl)
  rw [hav, lg_entry_eq]
  generalize (lg_sl ([.int d]) ++ List.replicate (1 - (lg_sl ([.int d])).length) Slot.unset).toArray = ls at hl ⊢
  have hl : lv_has ls 1 [(0, .int d)] := hl
  rw [← hav]
  refine lv_iload_n hx hb d_OP_needYear_0 rfl (lv_at hl 0 rfl) ?_
  refine lv_if_lt (tgt := 10) hx hb d_OP_needYear_1 (by decide) (fun h1 => ?_) (fun h1 => ?_)
  · exact xt_throw (istr := 166) (text := "there is no such year") (ix := 13) (bx := bxN) hx hb hml hown htr hlocks hnoh (hts _ (mw tb_384)) (hts _ (mw tb_385)) (hts _ (mw tb_12)) (ex_str (State.WarmedH.refl _) (hE.2.2.2.1 (166, _) (by decide))) (own_ok hts hE ownN_in) (by decide +kernel) ⟨by decide +kernel, by decide +kernel, by decide +kernel, by decide +kernel⟩ d_OP_needYear_10 d_OP_needYear_13 d_OP_needYear_14 d_OP_needYear_16 d_OP_needYear_19 hN hl ⟨rfl, isN_neg h1 (by decide)⟩ ⟨by decide, by decide⟩ ⟨by decide, by decide⟩ (by decide) (by decide)
  · refine lv_iload_n hx hb d_OP_needYear_4 rfl (lv_at hl 0 rfl) ?_
    refine lv_bipush (v := nI 12) hx hb d_OP_needYear_5 (by decide) ?_
    refine lv_icmp_lt (tgt := 20) hx hb d_OP_needYear_7 (by decide) (fun h6 => ?_) (fun h6 => ?_)
    · exact xt_vret hx hb hr hlocks hP hN (by decide) (by decide) (fun _ h => h) ⟨rfl, rfl, isN_lt (by decide) h1 h6⟩ d_OP_needYear_20
    · exact xt_throw (istr := 166) (text := "there is no such year") (ix := 13) (bx := bxN) hx hb hml hown htr hlocks hnoh (hts _ (mw tb_384)) (hts _ (mw tb_385)) (hts _ (mw tb_12)) (ex_str (State.WarmedH.refl _) (hE.2.2.2.1 (166, _) (by decide))) (own_ok hts hE ownN_in) (by decide +kernel) ⟨by decide +kernel, by decide +kernel, by decide +kernel, by decide +kernel⟩ d_OP_needYear_10 d_OP_needYear_13 d_OP_needYear_14 d_OP_needYear_16 d_OP_needYear_19 hN hl ⟨rfl, isN_ge (by decide) h6⟩ ⟨by decide, by decide⟩ ⟨by decide, by decide⟩ (by decide) (by decide)
set_option maxHeartbeats 4000000 in
set_option maxRecDepth 100000 in
/-- a bound is needed -/
theorem c_OP_needBound (l : Launch) (hst : l.stackTraces = false) (D : va_G) (ca : Nat → ClassId) (b : Nat) (C0 : Nat → va_E) (d : Int32) : TMet l y_OP_needBound (k_OP_needBound :: gw) ({ frames := 6, cells := 1, slots := 6, locals := 90 }) (tPc D ca b 219 C0 [.int d]) (tQ D b 219 (fun _ => False) (fun v C1 => v = none ∧ C1 = C0 ∧ isN d 2) (fun X => X = nNSE ∧ ¬ isN d 2)) 1 6 (fun _ => False) := by
  refine tm_ofW (cc := b_OP_needBound) (maxL := 1) (ret := none) (by decide) rfl ?_
  intro p e s m args below meth c s₁ B hml hv
  obtain ⟨hav, hP, hK, hE⟩ := hv
  have hx := B.exec
  have hb := B.bytes
  have hr := B.returns
  have hts := atoms_spec (ws := k_OP_needBound :: gw) B.pre
  have hown : s.vm.findClass R_OP = some m.cls := findClass_of_methodNamed B.named
  have hlocks := B.notSynchronized
  have hnoh := B.noHandlers (hts _ List.mem_cons_self)
  have htr : e.platform.stackTraces = false := by rw [(Stand.of_body B).admits.platform]; exact hst
  have hN : nCh s.heap s.heap := va_S.rf
  have hl := lv_entry ([.int d]) (n := 1) (Nat.le_of_ble_eq_true rfl)
  rw [hav, lg_entry_eq]
  generalize (lg_sl ([.int d]) ++ List.replicate (1 - (lg_sl ([.int d])).length) Slot.unset).toArray = ls at hl ⊢
  have hl : lv_has ls 1 [(0, .int d)] := hl
  rw [← hav]
  refine lv_iload_n hx hb d_OP_needBound_0 rfl (lv_at hl 0 rfl) ?_
  refine lv_if_lt (tgt := 9) hx hb d_OP_needBound_1 (by decide) (fun h1 => ?_) (fun h1 => ?_)
  · exact xt_throw (istr := 168) (text := "there is no such bound") (ix := 13) (bx := bxN) hx hb hml hown htr hlocks hnoh (hts _ (mw tb_384)) (hts _ (mw tb_385)) (hts _ (mw tb_12)) (ex_str (State.WarmedH.refl _) (hE.2.2.2.1 (168, _) (by decide))) (own_ok hts hE ownN_in) (by decide +kernel) ⟨by decide +kernel, by decide +kernel, by decide +kernel, by decide +kernel⟩ d_OP_needBound_9 d_OP_needBound_12 d_OP_needBound_13 d_OP_needBound_15 d_OP_needBound_18 hN hl ⟨rfl, isN_neg h1 (by decide)⟩ ⟨by decide, by decide⟩ ⟨by decide, by decide⟩ (by decide) (by decide)
  · refine lv_iload_n hx hb d_OP_needBound_4 rfl (lv_at hl 0 rfl) ?_
    refine lv_iconst (v := nI 2) hx hb d_OP_needBound_5 (by decide) ?_
    refine lv_icmp_lt (tgt := 19) hx hb d_OP_needBound_6 (by decide) (fun h6 => ?_) (fun h6 => ?_)
    · exact xt_vret hx hb hr hlocks hP hN (by decide) (by decide) (fun _ h => h) ⟨rfl, rfl, isN_lt (by decide) h1 h6⟩ d_OP_needBound_19
    · exact xt_throw (istr := 168) (text := "there is no such bound") (ix := 13) (bx := bxN) hx hb hml hown htr hlocks hnoh (hts _ (mw tb_384)) (hts _ (mw tb_385)) (hts _ (mw tb_12)) (ex_str (State.WarmedH.refl _) (hE.2.2.2.1 (168, _) (by decide))) (own_ok hts hE ownN_in) (by decide +kernel) ⟨by decide +kernel, by decide +kernel, by decide +kernel, by decide +kernel⟩ d_OP_needBound_9 d_OP_needBound_12 d_OP_needBound_13 d_OP_needBound_15 d_OP_needBound_18 hN hl ⟨rfl, isN_ge (by decide) h6⟩ ⟨by decide, by decide⟩ ⟨by decide, by decide⟩ (by decide) (by decide)
set_option maxHeartbeats 4000000 in
set_option maxRecDepth 100000 in
/-- a digit is needed -/
theorem c_OP_needDigit (l : Launch) (hst : l.stackTraces = false) (D : va_G) (ca : Nat → ClassId) (b : Nat) (C0 : Nat → va_E) (d : Int32) : TMet l y_OP_needDigit (k_OP_needDigit :: gw) ({ frames := 6, cells := 1, slots := 6, locals := 90 }) (tPc D ca b 219 C0 [.int d]) (tQ D b 219 (fun _ => False) (fun v C1 => v = none ∧ C1 = C0 ∧ isN d 48) (fun X => X = nNSE ∧ ¬ isN d 48)) 1 6 (fun _ => False) := by
  refine tm_ofW (cc := b_OP_needDigit) (maxL := 1) (ret := none) (by decide) rfl ?_
  intro p e s m args below meth c s₁ B hml hv
  obtain ⟨hav, hP, hK, hE⟩ := hv
  have hx := B.exec
  have hb := B.bytes
  have hr := B.returns
  have hts := atoms_spec (ws := k_OP_needDigit :: gw) B.pre
  have hown : s.vm.findClass R_OP = some m.cls := findClass_of_methodNamed B.named
  have hlocks := B.notSynchronized
  have hnoh := B.noHandlers (hts _ List.mem_cons_self)
  have htr : e.platform.stackTraces = false := by rw [(Stand.of_body B).admits.platform]; exact hst
  have hN : nCh s.heap s.heap := va_S.rf
  have hl := lv_entry ([.int d]) (n := 1) (Nat.le_of_ble_eq_true rfl)
  rw [hav, lg_entry_eq]
  generalize (lg_sl ([.int d]) ++ List.replicate (1 - (lg_sl ([.int d])).length) Slot.unset).toArray = ls at hl ⊢
  have hl : lv_has ls 1 [(0, .int d)] := hl
  rw [← hav]
  refine lv_iload_n hx hb d_OP_needDigit_0 rfl (lv_at hl 0 rfl) ?_
  refine lv_if_lt (tgt := 10) hx hb d_OP_needDigit_1 (by decide) (fun h1 => ?_) (fun h1 => ?_)
  · exact xt_throw (istr := 170) (text := "there is no such digit") (ix := 13) (bx := bxN) hx hb hml hown htr hlocks hnoh (hts _ (mw tb_384)) (hts _ (mw tb_385)) (hts _ (mw tb_12)) (ex_str (State.WarmedH.refl _) (hE.2.2.2.1 (170, _) (by decide))) (own_ok hts hE ownN_in) (by decide +kernel) ⟨by decide +kernel, by decide +kernel, by decide +kernel, by decide +kernel⟩ d_OP_needDigit_10 d_OP_needDigit_13 d_OP_needDigit_14 d_OP_needDigit_16 d_OP_needDigit_19 hN hl ⟨rfl, isN_neg h1 (by decide)⟩ ⟨by decide, by decide⟩ ⟨by decide, by decide⟩ (by decide) (by decide)
  · refine lv_iload_n hx hb d_OP_needDigit_4 rfl (lv_at hl 0 rfl) ?_
    refine lv_bipush (v := nI 48) hx hb d_OP_needDigit_5 (by decide) ?_
    refine lv_icmp_lt (tgt := 20) hx hb d_OP_needDigit_7 (by decide) (fun h6 => ?_) (fun h6 => ?_)
    · exact xt_vret hx hb hr hlocks hP hN (by decide) (by decide) (fun _ h => h) ⟨rfl, rfl, isN_lt (by decide) h1 h6⟩ d_OP_needDigit_20
    · exact xt_throw (istr := 170) (text := "there is no such digit") (ix := 13) (bx := bxN) hx hb hml hown htr hlocks hnoh (hts _ (mw tb_384)) (hts _ (mw tb_385)) (hts _ (mw tb_12)) (ex_str (State.WarmedH.refl _) (hE.2.2.2.1 (170, _) (by decide))) (own_ok hts hE ownN_in) (by decide +kernel) ⟨by decide +kernel, by decide +kernel, by decide +kernel, by decide +kernel⟩ d_OP_needDigit_10 d_OP_needDigit_13 d_OP_needDigit_14 d_OP_needDigit_16 d_OP_needDigit_19 hN hl ⟨rfl, isN_ge (by decide) h6⟩ ⟨by decide, by decide⟩ ⟨by decide, by decide⟩ (by decide) (by decide)
set_option maxHeartbeats 4000000 in
set_option maxRecDepth 100000 in
/-- a date is needed -/
theorem c_OP_needDate (l : Launch) (hst : l.stackTraces = false) (D : va_G) (ca : Nat → ClassId) (b : Nat) (C0 : Nat → va_E) {wt : Nat → Nat → Nat} {ab : Nat → Nat} {be : Nat → Nat} {nd : Nat} {fr : Nat → Nat} {tt : Nat → Option Nat} {le : Nat → Nat} {mo : Nat → Nat} {nf : Nat → Bool} {tr : Nat → Nat} {nt : Nat} {nm : Nat} {fy : Nat → Option Nat} {fb : Nat → Option Nat} {od : Nat → Nat} {pa : Nat → Option Nat} {rp : Nat → Option Nat} {se : Nat → Bool} {im : Nat → Bool} {qd : Nat} {hm : Nat} {gv : Nat → Nat} (d : Int32) (hX : XS ca b C0 wt ab be nd fr tt le mo nf tr nt nm fy fb od pa rp se im qd hm gv) (hd6 : nd ≤ 6) : TMet l y_OP_needDate (k_OP_needDate :: gw) ({ frames := 6, cells := 1, slots := 6, locals := 90 }) (tPc D ca b 219 C0 [.ref (b + 0), .int d]) (tQ D b 219 (fun _ => False) (fun v C1 => v = none ∧ C1 = C0 ∧ isN d nd) (fun X => X = nNSE ∧ ¬ isN d nd)) 1 6 (fun _ => False) := by
  refine tm_ofW (cc := b_OP_needDate) (maxL := 2) (ret := none) (by decide) rfl ?_
  intro p e s m args below meth c s₁ B hml hv
  obtain ⟨hav, hP, hK, hE⟩ := hv
  have hx := B.exec
  have hb := B.bytes
  have hr := B.returns
  have hts := atoms_spec (ws := k_OP_needDate :: gw) B.pre
  have hown : s.vm.findClass R_OP = some m.cls := findClass_of_methodNamed B.named
  have hlocks := B.notSynchronized
  have hnoh := B.noHandlers (hts _ List.mem_cons_self)
  have htr : e.platform.stackTraces = false := by rw [(Stand.of_body B).admits.platform]; exact hst
  have hN : nCh s.heap s.heap := va_S.rf
  have hl := lv_entry ([.ref (b + 0), .int d]) (n := 2) (Nat.le_of_ble_eq_true rfl)
  rw [hav, lg_entry_eq]
  generalize (lg_sl ([.ref (b + 0), .int d]) ++ List.replicate (2 - (lg_sl ([.ref (b + 0), .int d])).length) Slot.unset).toArray = ls at hl ⊢
  have hl : lv_has ls 2 [(0, .ref (b + 0)), (1, .int d)] := hl
  rw [← hav]
  refine lv_iload_n hx hb d_OP_needDate_0 rfl (lv_at hl 1 rfl) ?_
  refine lv_if_lt (tgt := 15) hx hb d_OP_needDate_1 (by decide) (fun h1 => ?_) (fun h1 => ?_)
  · exact xt_throw (istr := 164) (text := "there is no such date") (ix := 13) (bx := bxN) hx hb hml hown htr hlocks hnoh (hts _ (mw tb_384)) (hts _ (mw tb_385)) (hts _ (mw tb_12)) (ex_str (State.WarmedH.refl _) (hE.2.2.2.1 (164, _) (by decide))) (own_ok hts hE ownN_in) (by decide +kernel) ⟨by decide +kernel, by decide +kernel, by decide +kernel, by decide +kernel⟩ d_OP_needDate_15 d_OP_needDate_18 d_OP_needDate_19 d_OP_needDate_21 d_OP_needDate_24 hN hl ⟨rfl, isN_neg h1 (by omega)⟩ ⟨by decide, by decide⟩ ⟨by decide, by decide⟩ (by decide) (by decide)
  · refine lv_iload_n hx hb d_OP_needDate_4 rfl (lv_at hl 1 rfl) ?_
    refine lv_aload_n hx hb d_OP_needDate_5 rfl (lv_at hl 0 rfl) ?_
    refine xw_get (v := .ref (b + 1)) hx hb hts (fun w h => mw (uw_OP w h)) hown hK hP (XS_0 hX) (by decide) rfl 0 (by decide) (hts _ (mw tb_149)) (fun _ h => h) rfl d_OP_needDate_6 ?_
    refine xg_V (n := 0) (As := []) (rest := [.int d]) (st0 := _) hx hb hml hown hts (c0_DA_number l D ca b _ hX) km_DA_number tb_173 tb_174 tb_175 tb_2 (by decide +kernel) rfl rfl ⟨Nat.le_of_ble_eq_true rfl, Nat.le_of_ble_eq_true rfl⟩ hK hP (XS_1 hX) (by decide) rfl rfl rfl hl rfl (Nat.le_of_ble_eq_true rfl) d_OP_needDate_9 ⟨Nat.zero_le _, Nat.zero_le _⟩ hN (fun v H hp hP hN => ?_)
    subst hp
    refine lv_icmp_lt (tgt := 25) hx hb d_OP_needDate_12 (by decide) (fun h6 => ?_) (fun h6 => ?_)
    · exact xt_vret hx hb hr hlocks hP hN (by decide) (by decide) (fun _ h => h) ⟨rfl, rfl, isN_lt (by omega) h1 h6⟩ d_OP_needDate_25
    · exact xt_throw (istr := 164) (text := "there is no such date") (ix := 13) (bx := bxN) hx hb hml hown htr hlocks hnoh (hts _ (mw tb_384)) (hts _ (mw tb_385)) (hts _ (mw tb_12)) (ex_str (State.WarmedH.refl _) (hE.2.2.2.1 (164, _) (by decide))) (own_ok hts hE ownN_in) (by decide +kernel) ⟨by decide +kernel, by decide +kernel, by decide +kernel, by decide +kernel⟩ d_OP_needDate_15 d_OP_needDate_18 d_OP_needDate_19 d_OP_needDate_21 d_OP_needDate_24 hN hl ⟨rfl, isN_ge (by omega) h6⟩ ⟨by decide, by decide⟩ ⟨by decide, by decide⟩ (by decide) (by decide)
