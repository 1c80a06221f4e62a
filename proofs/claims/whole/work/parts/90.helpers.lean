/-! The law's helpers -/
theorem bodyTab {p : Program} {l : Launch} {x : MethodName} {S : Spec} {code : ByteArray} {maxLocals : Nat} {ret : Option FieldType} {e : Env} {s : State} {m : MethodId} {args : Array Value} {below : List Frame} {meth : Method} {c : Code} {s₁ : State} {hh : List (Nat × Nat × Nat × Nat)} (B : BodyLoose p l x S code maxLocals ret e s m args below meth c s₁) (h : (Cond.codeWith x code maxLocals ret hh).before args s = true) : c.exceptionTable.toList.map (fun h => (h.startPc, h.endPc, h.handlerPc, h.catchType)) = hh := by
  obtain ⟨m', meth', c', hn', hm', hc', -, -, htab, -⟩ := Cond.codeWith_spec h
  have e1 : m' = m := Option.some.inj (hn'.symm.trans B.named)
  rw [e1] at hm'
  have e2 : meth' = meth := Option.some.inj (hm'.symm.trans B.method)
  rw [e2] at hc'
  have e3 : c' = c := Option.some.inj (hc'.symm.trans (Stand.of_body B).code)
  rw [e3] at htab
  exact htab
section HL
variable {p : Program} {l : Launch} {e : Env} {R : Room} {s : State} {m : MethodId} {args : Array Value} {below : List Frame} {meth : Method} {c : Code} {H : Heap} {locs : List Loc} {cells slots : Nat} {Q : State → Prop}
variable {cc : ByteArray} {pc : Nat} {ls : Array Slot} {rest : List Value} {D : va_G} {ca : Nat → ClassId} {b N o : Nat} {C : Nat → va_E} {A : Nat → Prop} {H0 : Heap} {f : Nat → Int64}
theorem xh_last {x : Int64} (hexec : p.tables.exec = Jvm.exec) (hb : c.code = cc) (hK : va_K D classes (tysA ca) s) (hP : va_P D classes (wl b N C) H) (hO : H[o]? = some (outc ca f)) (ho : ¬ xr b N o) (hAo : A o) (hS : va_S A H0 H locs) (hdg : decode cc pc = .ok (.lastore, 1))
    (kk : ∀ (H1 : Heap) (locs1 : List Loc), va_P D classes (wl b N C) H1 → H1[o]? = some (outc ca (vp_updL f 0 x)) → va_S A H0 H1 locs1 → W p l e R s m args below meth c H1 locs1 cells slots Q (F0 m (pc + 1) ls rest)) : W p l e R s m args below meth c H locs cells slots Q (F0 m pc ls (.long x :: .int (nI 0) :: .ref o :: rest)) := by
  refine W.last hexec hb hO ((hK.2 1 (ca 1, .long) rfl).1 1 (fun j => .long (f j))) (fun q => by cases q) (by show ¬ ((nI 0) < 0 ∨ (arrV _ _ _).slots.size ≤ _); rw [arrV_size]; show ¬ ((nI 0) < 0 ∨ 1 ≤ (nI 0).toNatClampNeg); decide) rfl rfl hdg fun H1 e1 z oq => ?_
  refine kk H1 _ (wl_P.mpr (fun k hk => (wl_P.mp hP k hk).kept (oq (b + k) (fun q => ho (by rw [← q]; exact xr_in k hk))))) ?_ (hS.put z oq hAo)
  show H1[o]? = some (vp_cell _ _)
  rw [e1]
  show some ((vp_cell (ca 1) (1, .inr (.inl f))).setSlot (nI 0).toNatClampNeg (.long x)) = _
  rw [vp_cell_l, vp_cell_l, arrV_store]
  congr 2
  funext q
  by_cases hq : q = 0
  · subst hq
    have hc : (nI 0).toNatClampNeg = 0 := rfl
    simp [updV, vp_updL, hc]
  · have hc : (nI 0).toNatClampNeg = 0 := rfl
    simp [updV, vp_updL, hq, hc]
end HL
abbrev P_OP_date (ca : Nat → ClassId) (b : Nat) (nd nt : Nat) (mwt mab mbe on1 ot2 lea mos : Nat → Nat) (r : Option Value) (C1 : Nat → va_E) : Prop := nd < 6 ∧ r = some (.int (nI nd)) ∧ XM ca b C1 (nd + 1) nt mwt mab (va_up mbe nd 1) on1 ot2 lea mos
abbrev T_OP_date (nd nt : Nat) (mwt mab mbe on1 ot2 lea mos : Nat → Nat) (X : String) : Prop := X = nISE ∧ 6 ≤ nd
abbrev k_LA_date : Cond := .codeWith y_LA_date b_LA_date 3 (some FieldType.int) [(0, 8, 11, 13)]
theorem km_LA_date : k_LA_date ∈ gw := tb_293
set_option maxHeartbeats 4000000 in
set_option maxRecDepth 100000 in
/-- the law's helper date -/
theorem c_LA_date (l : Launch) (hst : l.stackTraces = false) (D : va_G) (ca : Nat → ClassId) (b o : Nat) (C0 : Nat → va_E) (f : Nat → Int64) {nd nt : Nat} {mwt mab mbe on1 ot2 lea mos : Nat → Nat} (hM : XM ca b C0 nd nt mwt mab mbe on1 ot2 lea mos) (hH : MH on1 ot2 lea mos mwt mab mbe nt nd) (ho : ¬ xr b 219 o) : Met l y_LA_date (k_LA_date :: gw) ({ frames := 8, cells := 8, slots := 48, locals := 131 }) (hPc D ca b o C0 f [.ref (b + 0), .ref o]) (hQ D ca b o (fun k C1 f1 => (k = 0 ∧ ∃ w : Int32, P_OP_date ca b nd nt mwt mab mbe on1 ot2 lea mos (some (.int w)) C1 ∧ f1 0 = w.toInt64) ∨ (k = 1 ∧ T_OP_date nd nt mwt mab mbe on1 ot2 lea mos nISE ∧ C1 = C0))) 8 48 (fun q => xr b 219 q ∨ q = o) := by
  obtain ⟨wt, ab, be, fr, tt, le, mo, nf, tr, nm, fy, fb, k, im, hm, S, I, P, pt, ap, fa, wh, st, hX, -⟩ := id hM
  refine va_MetW (cc := b_LA_date) (maxL := 3) (ret := (some FieldType.int)) (by decide) rfl ?_
  intro p e s m args below meth c s₁ B hml hv
  obtain ⟨hav, hP, hO, hK, hE⟩ := hv
  have hx := B.exec
  have hb := B.bytes
  have hr := B.returns
  have hts := atoms_spec (ws := k_LA_date :: gw) B.pre
  have hown : s.vm.findClass "OrderPassingLaw" = some m.cls := findClass_of_methodNamed B.named
  have hlocks := B.notSynchronized
  have htab := bodyTab B (hts _ List.mem_cons_self)
  have hN : nCh s.heap s.heap := va_S.rf
  have hol : o < s.heap.size := (Array.getElem?_eq_some_iff.mp hO).1
  have hl := lv_entry ([.ref (b + 0), .ref o]) (n := 3) (Nat.le_of_ble_eq_true rfl)
  rw [hav, lg_entry_eq]
  generalize (lg_sl ([.ref (b + 0), .ref o]) ++ List.replicate (3 - (lg_sl ([.ref (b + 0), .ref o])).length) Slot.unset).toArray = ls at hl ⊢
  have hl : lv_has ls 3 [(0, .ref (b + 0)), (1, .ref o)] := hl
  rw [← hav]
  refine lv_aload_n hx hb d_LA_date_0 rfl (lv_at hl 1 rfl) ?_
  refine lv_iconst (v := nI 0) hx hb d_LA_date_1 (by decide) ?_
  refine lv_aload_n hx hb d_LA_date_2 rfl (lv_at hl 0 rfl) ?_
  refine xh_call1 (X1 := nISE) (thr := T_OP_date nd nt mwt mab mbe on1 ot2 lea mos) (tm_V (As := []) (rest := [.int (nI 0), .ref o]) (g := F0 m 3 ls [.ref (b + 0), .int (nI 0), .ref o]) ⟨hx, hb, hml, hown, hts⟩ (c_OP_date l hst D ca b _  hM hH) (cwV 0 hts (gi_V km_OP_date tb_295 tb_296 tb_297 tb_1) rfl rfl rfl (by decide +kernel) ⟨by decide, by decide⟩) ⟨tPc_blind, va_recv hK hP rfl (wl_at (XS_0 hX) (by decide)), fun U hU hW => ⟨rfl, by rw [hU]; exact hP, va_K.moved hW.alike hK, hN.E hU hW hE⟩⟩ rfl rfl hl.1 rfl (Nat.le_of_ble_eq_true rfl) d_LA_date_3 ⟨by decide, by decide⟩) hown hE htab ⟨by decide, by decide⟩ (by decide) (hts _ (mw tb_294)) (by decide) (fun X h => h.1) (fun v C1 H locs hp hP hS => ?_) (fun xa H locs ht hN hL => ?_)
  · have hO : H[o]? = some (outc ca f) := (hS.2.1 o hol ho).trans hO
    have hS2 : va_S (fun q => xr b 219 q ∨ q = o) s.heap H locs := ⟨hS.1, fun q h1 h2 => hS.2.1 q h1 (fun z => h2 (Or.inl z)), fun l hl => Or.inl (hS.2.2 l hl)⟩
    obtain ⟨w, rfl⟩ : ∃ w : Int32, v = some (.int w) := ⟨_, hp.2.1⟩
    refine lv_i2l (v := w.toInt64) hx hb d_LA_date_6 rfl ?_
    refine xh_last hx hb hK hP hO ho (Or.inr rfl) hS2 d_LA_date_7 (fun H locs hP hO hS2 => ?_)
    refine lv_goto (tgt := 14) hx hb d_LA_date_8 (by decide) ?_
    refine lv_iconst (v := nI 0) hx hb d_LA_date_14 (by decide) ?_
    exact W.iret hx hb hr (fun t ht _ => ⟨⟨0, C1, _, rfl, Or.inl ⟨rfl, w, hp, rfl⟩, by rw [ht]; exact hP, by rw [ht]; exact hO⟩, hS2.F ht⟩) hS2.2.2 d_LA_date_15
  · have hO : H[o]? = some (outc ca f) := (hN.2.1 o hol (fun z => z)).trans hO
    have hS2 : va_S (fun q => xr b 219 q ∨ q = o) s.heap H locs := ⟨hN.1, fun q h1 _ => hN.2.1 q h1 (fun z => z), fun l hl => Or.inl (hL l hl)⟩
    refine lv_astore_n (lv' := [(2, .ref xa), (0, .ref (b + 0)), (1, .ref o)]) hx hb d_LA_date_11 rfl hl (by decide) rfl (fun ls hl => ?_)
    refine lv_iconst (v := nI 1) hx hb d_LA_date_12 (by decide) ?_
    exact W.iret hx hb hr (fun t ht9 _ => ⟨⟨1, C0, f, rfl, Or.inr ⟨rfl, ht, rfl⟩, by rw [ht9]; exact hN.P hP, by rw [ht9]; exact hO⟩, hS2.F ht9⟩) hS2.2.2 d_LA_date_13

abbrev P_OP_weight (ca : Nat → ClassId) (b : Nat) (nd nt : Nat) (mwt mab mbe on1 ot2 lea mos : Nat → Nat) (d y x : Int32) (r : Option Value) (C1 : Nat → va_E) : Prop := ∃ d9 y9 x9, d9 < nd ∧ y9 < 12 ∧ x9 < 1000 ∧ d = nI d9 ∧ y = nI y9 ∧ x = nI x9 ∧ r = some (.int (nI (mwt (12 * d9 + y9)))) ∧ XM ca b C1 nd nt (va_up mwt (12 * d9 + y9) x9) mab mbe on1 ot2 lea mos
abbrev T_OP_weight (nd nt : Nat) (mwt mab mbe on1 ot2 lea mos : Nat → Nat) (d y x : Int32) (X : String) : Prop := (X = nNSE ∧ ¬ (isN d nd ∧ isN y 12)) ∨ (X = nIAE ∧ (isN d nd ∧ isN y 12) ∧ ¬ isN x 1000)
abbrev k_LA_weight : Cond := .codeWith y_LA_weight b_LA_weight 6 (some FieldType.int) [(0, 12, 15, 19), (0, 12, 19, 21)]
theorem km_LA_weight : k_LA_weight ∈ gw := tb_373
set_option maxHeartbeats 4000000 in
set_option maxRecDepth 100000 in
/-- the law's helper weight -/
theorem c_LA_weight (l : Launch) (hst : l.stackTraces = false) (D : va_G) (ca : Nat → ClassId) (b o : Nat) (C0 : Nat → va_E) (f : Nat → Int64) {nd nt : Nat} {mwt mab mbe on1 ot2 lea mos : Nat → Nat} (d y x : Int32) (hM : XM ca b C0 nd nt mwt mab mbe on1 ot2 lea mos) (hH : MH on1 ot2 lea mos mwt mab mbe nt nd) (ho : ¬ xr b 219 o) : Met l y_LA_weight (k_LA_weight :: gw) ({ frames := 8, cells := 8, slots := 48, locals := 134 }) (hPc D ca b o C0 f [.ref (b + 0), .int d, .int y, .int x, .ref o]) (hQ D ca b o (fun k C1 f1 => (k = 0 ∧ ∃ w : Int32, P_OP_weight ca b nd nt mwt mab mbe on1 ot2 lea mos d y x (some (.int w)) C1 ∧ f1 0 = w.toInt64) ∨ (k = 1 ∧ T_OP_weight nd nt mwt mab mbe on1 ot2 lea mos d y x nNSE ∧ C1 = C0) ∨ (k = 2 ∧ T_OP_weight nd nt mwt mab mbe on1 ot2 lea mos d y x nIAE ∧ C1 = C0))) 8 48 (fun q => xr b 219 q ∨ q = o) := by
  obtain ⟨wt, ab, be, fr, tt, le, mo, nf, tr, nm, fy, fb, k, im, hm, S, I, P, pt, ap, fa, wh, st, hX, -⟩ := id hM
  refine va_MetW (cc := b_LA_weight) (maxL := 6) (ret := (some FieldType.int)) (by decide) rfl ?_
  intro p e s m args below meth c s₁ B hml hv
  obtain ⟨hav, hP, hO, hK, hE⟩ := hv
  have hx := B.exec
  have hb := B.bytes
  have hr := B.returns
  have hts := atoms_spec (ws := k_LA_weight :: gw) B.pre
  have hown : s.vm.findClass "OrderPassingLaw" = some m.cls := findClass_of_methodNamed B.named
  have hlocks := B.notSynchronized
  have htab := bodyTab B (hts _ List.mem_cons_self)
  have hN : nCh s.heap s.heap := va_S.rf
  have hol : o < s.heap.size := (Array.getElem?_eq_some_iff.mp hO).1
  have hl := lv_entry ([.ref (b + 0), .int d, .int y, .int x, .ref o]) (n := 6) (Nat.le_of_ble_eq_true rfl)
  rw [hav, lg_entry_eq]
  generalize (lg_sl ([.ref (b + 0), .int d, .int y, .int x, .ref o]) ++ List.replicate (6 - (lg_sl ([.ref (b + 0), .int d, .int y, .int x, .ref o])).length) Slot.unset).toArray = ls at hl ⊢
  have hl : lv_has ls 6 [(0, .ref (b + 0)), (1, .int d), (2, .int y), (3, .int x), (4, .ref o)] := hl
  rw [← hav]
  refine lv_aload hx hb d_LA_weight_0 (lv_at hl 4 rfl) ?_
  refine lv_iconst (v := nI 0) hx hb d_LA_weight_2 (by decide) ?_
  refine lv_aload_n hx hb d_LA_weight_3 rfl (lv_at hl 0 rfl) ?_
  refine lv_iload_n hx hb d_LA_weight_4 rfl (lv_at hl 1 rfl) ?_
  refine lv_iload_n hx hb d_LA_weight_5 rfl (lv_at hl 2 rfl) ?_
  refine lv_iload_n hx hb d_LA_weight_6 rfl (lv_at hl 3 rfl) ?_
  refine xh_call2 (X1 := nNSE) (X2 := nIAE) (thr := T_OP_weight nd nt mwt mab mbe on1 ot2 lea mos d y x) (tm_V (As := [.int d, .int y, .int x]) (rest := [.int (nI 0), .ref o]) (g := F0 m 7 ls [.int x, .int y, .int d, .ref (b + 0), .int (nI 0), .ref o]) ⟨hx, hb, hml, hown, hts⟩ (c_OP_weight l hst D ca b _ d y x hM hH) (cwV 3 hts (gi_V km_OP_weight tb_376 tb_377 tb_378 tb_1) rfl rfl rfl (by decide +kernel) ⟨by decide, by decide⟩) ⟨tPc_blind, va_recv hK hP rfl (wl_at (XS_0 hX) (by decide)), fun U hU hW => ⟨rfl, by rw [hU]; exact hP, va_K.moved hW.alike hK, hN.E hU hW hE⟩⟩ rfl rfl hl.1 rfl (Nat.le_of_ble_eq_true rfl) d_LA_weight_7 ⟨by decide, by decide⟩) hown hE htab ⟨by decide, by decide⟩ (by decide) (by decide) (hts _ (mw tb_374)) (hts _ (mw tb_375)) (by decide) (by decide) (by decide) (fun X h => h.elim (fun q => Or.inl q.1) (fun q => Or.inr q.1)) (fun v C1 H locs hp hP hS => ?_) (fun xa H locs ht hN hL => ?_) (fun xa H locs ht hN hL => ?_)
  · have hO : H[o]? = some (outc ca f) := (hS.2.1 o hol ho).trans hO
    have hS2 : va_S (fun q => xr b 219 q ∨ q = o) s.heap H locs := ⟨hS.1, fun q h1 h2 => hS.2.1 q h1 (fun z => h2 (Or.inl z)), fun l hl => Or.inl (hS.2.2 l hl)⟩
    obtain ⟨w, rfl⟩ : ∃ w : Int32, v = some (.int w) := by obtain ⟨_, _, _, -, -, -, -, -, -, h, -⟩ := hp; exact ⟨_, h⟩
    refine lv_i2l (v := w.toInt64) hx hb d_LA_weight_10 rfl ?_
    refine xh_last hx hb hK hP hO ho (Or.inr rfl) hS2 d_LA_weight_11 (fun H locs hP hO hS2 => ?_)
    refine lv_goto (tgt := 23) hx hb d_LA_weight_12 (by decide) ?_
    refine lv_iconst (v := nI 0) hx hb d_LA_weight_23 (by decide) ?_
    exact W.iret hx hb hr (fun t ht _ => ⟨⟨0, C1, _, rfl, Or.inl ⟨rfl, w, hp, rfl⟩, by rw [ht]; exact hP, by rw [ht]; exact hO⟩, hS2.F ht⟩) hS2.2.2 d_LA_weight_24
  · have hO : H[o]? = some (outc ca f) := (hN.2.1 o hol (fun z => z)).trans hO
    have hS2 : va_S (fun q => xr b 219 q ∨ q = o) s.heap H locs := ⟨hN.1, fun q h1 _ => hN.2.1 q h1 (fun z => z), fun l hl => Or.inl (hL l hl)⟩
    refine lv_astore (lv' := [(5, .ref xa), (0, .ref (b + 0)), (1, .int d), (2, .int y), (3, .int x), (4, .ref o)]) hx hb d_LA_weight_15 hl (by decide) rfl (fun ls hl => ?_)
    refine lv_iconst (v := nI 1) hx hb d_LA_weight_17 (by decide) ?_
    exact W.iret hx hb hr (fun t ht9 _ => ⟨⟨1, C0, f, rfl, Or.inr (Or.inl ⟨rfl, ht, rfl⟩), by rw [ht9]; exact hN.P hP, by rw [ht9]; exact hO⟩, hS2.F ht9⟩) hS2.2.2 d_LA_weight_18
  · have hO : H[o]? = some (outc ca f) := (hN.2.1 o hol (fun z => z)).trans hO
    have hS2 : va_S (fun q => xr b 219 q ∨ q = o) s.heap H locs := ⟨hN.1, fun q h1 _ => hN.2.1 q h1 (fun z => z), fun l hl => Or.inl (hL l hl)⟩
    refine lv_astore (lv' := [(5, .ref xa), (0, .ref (b + 0)), (1, .int d), (2, .int y), (3, .int x), (4, .ref o)]) hx hb d_LA_weight_19 hl (by decide) rfl (fun ls hl => ?_)
    refine lv_iconst (v := nI 2) hx hb d_LA_weight_21 (by decide) ?_
    exact W.iret hx hb hr (fun t ht9 _ => ⟨⟨2, C0, f, rfl, Or.inr (Or.inr ⟨rfl, ht, rfl⟩), by rw [ht9]; exact hN.P hP, by rw [ht9]; exact hO⟩, hS2.F ht9⟩) hS2.2.2 d_LA_weight_22

abbrev P_OP_outlier (ca : Nat → ClassId) (b : Nat) (nd nt : Nat) (mwt mab mbe on1 ot2 lea mos : Nat → Nat) (d a x : Int32) (r : Option Value) (C1 : Nat → va_E) : Prop := r = none ∧ ∃ d9 a9 b9, d9 < nd ∧ 1 ≤ b9 ∧ b9 ≤ 10 ∧ a9 ≤ b9 ∧ d = nI d9 ∧ a = nI a9 ∧ x = nI b9 ∧ XM ca b C1 nd nt mwt (va_up mab d9 a9) (va_up mbe d9 b9) on1 ot2 lea mos
abbrev T_OP_outlier (nd nt : Nat) (mwt mab mbe on1 ot2 lea mos : Nat → Nat) (d a x : Int32) (X : String) : Prop := (X = nNSE ∧ ¬ isN d nd) ∨ (X = nIAE ∧ isN d nd ∧ ¬ outE a x)
abbrev k_LA_outlier : Cond := .codeWith y_LA_outlier b_LA_outlier 5 (some FieldType.int) [(0, 7, 10, 19), (0, 7, 14, 21)]
theorem km_LA_outlier : k_LA_outlier ∈ gw := tb_426
set_option maxHeartbeats 4000000 in
set_option maxRecDepth 100000 in
/-- the law's helper outlier -/
theorem c_LA_outlier (l : Launch) (hst : l.stackTraces = false) (D : va_G) (ca : Nat → ClassId) (b o : Nat) (C0 : Nat → va_E) (f : Nat → Int64) {nd nt : Nat} {mwt mab mbe on1 ot2 lea mos : Nat → Nat} (d a x : Int32) (hM : XM ca b C0 nd nt mwt mab mbe on1 ot2 lea mos) (hH : MH on1 ot2 lea mos mwt mab mbe nt nd) (ho : ¬ xr b 219 o) : Met l y_LA_outlier (k_LA_outlier :: gw) ({ frames := 8, cells := 8, slots := 48, locals := 134 }) (hPc D ca b o C0 f [.ref (b + 0), .int d, .int a, .int x]) (hQ D ca b o (fun k C1 f1 => (k = 0 ∧ P_OP_outlier ca b nd nt mwt mab mbe on1 ot2 lea mos d a x none C1) ∨ (k = 1 ∧ T_OP_outlier nd nt mwt mab mbe on1 ot2 lea mos d a x nNSE ∧ C1 = C0) ∨ (k = 2 ∧ T_OP_outlier nd nt mwt mab mbe on1 ot2 lea mos d a x nIAE ∧ C1 = C0))) 8 48 (fun q => xr b 219 q ∨ q = o) := by
  obtain ⟨wt, ab, be, fr, tt, le, mo, nf, tr, nm, fy, fb, k, im, hm, S, I, P, pt, ap, fa, wh, st, hX, -⟩ := id hM
  refine va_MetW (cc := b_LA_outlier) (maxL := 5) (ret := (some FieldType.int)) (by decide) rfl ?_
  intro p e s m args below meth c s₁ B hml hv
  obtain ⟨hav, hP, hO, hK, hE⟩ := hv
  have hx := B.exec
  have hb := B.bytes
  have hr := B.returns
  have hts := atoms_spec (ws := k_LA_outlier :: gw) B.pre
  have hown : s.vm.findClass "OrderPassingLaw" = some m.cls := findClass_of_methodNamed B.named
  have hlocks := B.notSynchronized
  have htab := bodyTab B (hts _ List.mem_cons_self)
  have hN : nCh s.heap s.heap := va_S.rf
  have hol : o < s.heap.size := (Array.getElem?_eq_some_iff.mp hO).1
  have hl := lv_entry ([.ref (b + 0), .int d, .int a, .int x]) (n := 5) (Nat.le_of_ble_eq_true rfl)
  rw [hav, lg_entry_eq]
  generalize (lg_sl ([.ref (b + 0), .int d, .int a, .int x]) ++ List.replicate (5 - (lg_sl ([.ref (b + 0), .int d, .int a, .int x])).length) Slot.unset).toArray = ls at hl ⊢
  have hl : lv_has ls 5 [(0, .ref (b + 0)), (1, .int d), (2, .int a), (3, .int x)] := hl
  rw [← hav]
  refine lv_aload_n hx hb d_LA_outlier_0 rfl (lv_at hl 0 rfl) ?_
  refine lv_iload_n hx hb d_LA_outlier_1 rfl (lv_at hl 1 rfl) ?_
  refine lv_iload_n hx hb d_LA_outlier_2 rfl (lv_at hl 2 rfl) ?_
  refine lv_iload_n hx hb d_LA_outlier_3 rfl (lv_at hl 3 rfl) ?_
  refine xh_call2 (X1 := nNSE) (X2 := nIAE) (thr := T_OP_outlier nd nt mwt mab mbe on1 ot2 lea mos d a x) (tm_V (As := [.int d, .int a, .int x]) (rest := []) (g := F0 m 4 ls [.int x, .int a, .int d, .ref (b + 0)]) ⟨hx, hb, hml, hown, hts⟩ (c_OP_outlier l hst D ca b _ d a x hM hH) (cwV 3 hts (gi_V km_OP_outlier tb_427 tb_428 tb_429 tb_1) rfl rfl rfl (by decide +kernel) ⟨by decide, by decide⟩) ⟨tPc_blind, va_recv hK hP rfl (wl_at (XS_0 hX) (by decide)), fun U hU hW => ⟨rfl, by rw [hU]; exact hP, va_K.moved hW.alike hK, hN.E hU hW hE⟩⟩ rfl rfl hl.1 rfl (Nat.le_of_ble_eq_true rfl) d_LA_outlier_4 ⟨by decide, by decide⟩) hown hE htab ⟨by decide, by decide⟩ (by decide) (by decide) (hts _ (mw tb_374)) (hts _ (mw tb_375)) (by decide) (by decide) (by decide) (fun X h => h.elim (fun q => Or.inl q.1) (fun q => Or.inr q.1)) (fun v C1 H locs hp hP hS => ?_) (fun xa H locs ht hN hL => ?_) (fun xa H locs ht hN hL => ?_)
  · have hO : H[o]? = some (outc ca f) := (hS.2.1 o hol ho).trans hO
    have hS2 : va_S (fun q => xr b 219 q ∨ q = o) s.heap H locs := ⟨hS.1, fun q h1 h2 => hS.2.1 q h1 (fun z => h2 (Or.inl z)), fun l hl => Or.inl (hS.2.2 l hl)⟩
    obtain rfl : v = none := hp.1
    refine lv_goto (tgt := 18) hx hb d_LA_outlier_7 (by decide) ?_
    refine lv_iconst (v := nI 0) hx hb d_LA_outlier_18 (by decide) ?_
    exact W.iret hx hb hr (fun t ht _ => ⟨⟨0, C1, _, rfl, Or.inl ⟨rfl, hp⟩, by rw [ht]; exact hP, by rw [ht]; exact hO⟩, hS2.F ht⟩) hS2.2.2 d_LA_outlier_19
  · have hO : H[o]? = some (outc ca f) := (hN.2.1 o hol (fun z => z)).trans hO
    have hS2 : va_S (fun q => xr b 219 q ∨ q = o) s.heap H locs := ⟨hN.1, fun q h1 _ => hN.2.1 q h1 (fun z => z), fun l hl => Or.inl (hL l hl)⟩
    refine lv_astore (lv' := [(4, .ref xa), (0, .ref (b + 0)), (1, .int d), (2, .int a), (3, .int x)]) hx hb d_LA_outlier_10 hl (by decide) rfl (fun ls hl => ?_)
    refine lv_iconst (v := nI 1) hx hb d_LA_outlier_12 (by decide) ?_
    exact W.iret hx hb hr (fun t ht9 _ => ⟨⟨1, C0, f, rfl, Or.inr (Or.inl ⟨rfl, ht, rfl⟩), by rw [ht9]; exact hN.P hP, by rw [ht9]; exact hO⟩, hS2.F ht9⟩) hS2.2.2 d_LA_outlier_13
  · have hO : H[o]? = some (outc ca f) := (hN.2.1 o hol (fun z => z)).trans hO
    have hS2 : va_S (fun q => xr b 219 q ∨ q = o) s.heap H locs := ⟨hN.1, fun q h1 _ => hN.2.1 q h1 (fun z => z), fun l hl => Or.inl (hL l hl)⟩
    refine lv_astore (lv' := [(4, .ref xa), (0, .ref (b + 0)), (1, .int d), (2, .int a), (3, .int x)]) hx hb d_LA_outlier_14 hl (by decide) rfl (fun ls hl => ?_)
    refine lv_iconst (v := nI 2) hx hb d_LA_outlier_16 (by decide) ?_
    exact W.iret hx hb hr (fun t ht9 _ => ⟨⟨2, C0, f, rfl, Or.inr (Or.inr ⟨rfl, ht, rfl⟩), by rw [ht9]; exact hN.P hP, by rw [ht9]; exact hO⟩, hS2.F ht9⟩) hS2.2.2 d_LA_outlier_17

abbrev P_OP_row (ca : Nat → ClassId) (b : Nat) (nd nt : Nat) (mwt mab mbe on1 ot2 lea mos : Nat → Nat) (d g lo hi : Int32) (r : Option Value) (C1 : Nat → va_E) : Prop := ∃ d9 g9 lo9 hi9, d9 < nd ∧ g9 < nd ∧ lo9 ≤ hi9 ∧ hi9 < 12 ∧ d = nI d9 ∧ g = nI g9 ∧ lo = nI lo9 ∧ hi = nI hi9 ∧ (((tOr on1 ot2 nt 6 (2 ^ d9) = tOr on1 ot2 nt 6 (2 ^ g9) ∨ (exM on1 ot2 nt d9 ∧ exM on1 ot2 nt g9)) ∧ r = some (.int (-1)) ∧ XM ca b C1 nd nt mwt mab mbe on1 ot2 lea mos) ∨ (¬ (tOr on1 ot2 nt 6 (2 ^ d9) = tOr on1 ot2 nt 6 (2 ^ g9) ∨ (exM on1 ot2 nt d9 ∧ exM on1 ot2 nt g9)) ∧ r = some (.int (nI nt)) ∧ XM ca b C1 nd (nt + 1) mwt mab mbe (va_up on1 nt d9) (va_up ot2 nt g9) (va_up lea nt lo9) (va_up mos nt hi9)))
abbrev T_OP_row (nd nt : Nat) (mwt mab mbe on1 ot2 lea mos : Nat → Nat) (d g lo hi : Int32) (X : String) : Prop := (X = nNSE ∧ ¬ (isN d nd ∧ isN g nd)) ∨ (X = nIAE ∧ (isN d nd ∧ isN g nd) ∧ ¬ rowE lo hi)
abbrev k_LA_row : Cond := .codeWith y_LA_row b_LA_row 7 (some FieldType.int) [(0, 14, 17, 19), (0, 14, 21, 21)]
theorem km_LA_row : k_LA_row ∈ gw := tb_438
set_option maxHeartbeats 4000000 in
set_option maxRecDepth 100000 in
/-- the law's helper row -/
theorem c_LA_row (l : Launch) (hst : l.stackTraces = false) (D : va_G) (ca : Nat → ClassId) (b o : Nat) (C0 : Nat → va_E) (f : Nat → Int64) {nd nt : Nat} {mwt mab mbe on1 ot2 lea mos : Nat → Nat} (d g lo hi : Int32) (hM : XM ca b C0 nd nt mwt mab mbe on1 ot2 lea mos) (hH : MH on1 ot2 lea mos mwt mab mbe nt nd) (ho : ¬ xr b 219 o) : Met l y_LA_row (k_LA_row :: gw) ({ frames := 8, cells := 8, slots := 48, locals := 144 }) (hPc D ca b o C0 f [.ref (b + 0), .int d, .int g, .int lo, .int hi, .ref o]) (hQ D ca b o (fun k C1 f1 => (k = 0 ∧ ∃ w : Int32, P_OP_row ca b nd nt mwt mab mbe on1 ot2 lea mos d g lo hi (some (.int w)) C1 ∧ f1 0 = w.toInt64) ∨ (k = 1 ∧ T_OP_row nd nt mwt mab mbe on1 ot2 lea mos d g lo hi nNSE ∧ C1 = C0) ∨ (k = 2 ∧ T_OP_row nd nt mwt mab mbe on1 ot2 lea mos d g lo hi nIAE ∧ C1 = C0))) 8 48 (fun q => xr b 219 q ∨ q = o) := by
  obtain ⟨wt, ab, be, fr, tt, le, mo, nf, tr, nm, fy, fb, k, im, hm, S, I, P, pt, ap, fa, wh, st, hX, -⟩ := id hM
  refine va_MetW (cc := b_LA_row) (maxL := 7) (ret := (some FieldType.int)) (by decide) rfl ?_
  intro p e s m args below meth c s₁ B hml hv
  obtain ⟨hav, hP, hO, hK, hE⟩ := hv
  have hx := B.exec
  have hb := B.bytes
  have hr := B.returns
  have hts := atoms_spec (ws := k_LA_row :: gw) B.pre
  have hown : s.vm.findClass "OrderPassingLaw" = some m.cls := findClass_of_methodNamed B.named
  have hlocks := B.notSynchronized
  have htab := bodyTab B (hts _ List.mem_cons_self)
  have hN : nCh s.heap s.heap := va_S.rf
  have hol : o < s.heap.size := (Array.getElem?_eq_some_iff.mp hO).1
  have hl := lv_entry ([.ref (b + 0), .int d, .int g, .int lo, .int hi, .ref o]) (n := 7) (Nat.le_of_ble_eq_true rfl)
  rw [hav, lg_entry_eq]
  generalize (lg_sl ([.ref (b + 0), .int d, .int g, .int lo, .int hi, .ref o]) ++ List.replicate (7 - (lg_sl ([.ref (b + 0), .int d, .int g, .int lo, .int hi, .ref o])).length) Slot.unset).toArray = ls at hl ⊢
  have hl : lv_has ls 7 [(0, .ref (b + 0)), (1, .int d), (2, .int g), (3, .int lo), (4, .int hi), (5, .ref o)] := hl
  rw [← hav]
  refine lv_aload hx hb d_LA_row_0 (lv_at hl 5 rfl) ?_
  refine lv_iconst (v := nI 0) hx hb d_LA_row_2 (by decide) ?_
  refine lv_aload_n hx hb d_LA_row_3 rfl (lv_at hl 0 rfl) ?_
  refine lv_iload_n hx hb d_LA_row_4 rfl (lv_at hl 1 rfl) ?_
  refine lv_iload_n hx hb d_LA_row_5 rfl (lv_at hl 2 rfl) ?_
  refine lv_iload_n hx hb d_LA_row_6 rfl (lv_at hl 3 rfl) ?_
  refine lv_iload hx hb d_LA_row_7 (lv_at hl 4 rfl) ?_
  refine xh_call2 (X1 := nNSE) (X2 := nIAE) (thr := T_OP_row nd nt mwt mab mbe on1 ot2 lea mos d g lo hi) (tm_V (As := [.int d, .int g, .int lo, .int hi]) (rest := [.int (nI 0), .ref o]) (g := F0 m 9 ls [.int hi, .int lo, .int g, .int d, .ref (b + 0), .int (nI 0), .ref o]) ⟨hx, hb, hml, hown, hts⟩ (c_OP_row l hst D ca b _ d g lo hi hM hH) (cwV 4 hts (gi_V km_OP_row tb_439 tb_440 tb_441 tb_1) rfl rfl rfl (by decide +kernel) ⟨by decide, by decide⟩) ⟨tPc_blind, va_recv hK hP rfl (wl_at (XS_0 hX) (by decide)), fun U hU hW => ⟨rfl, by rw [hU]; exact hP, va_K.moved hW.alike hK, hN.E hU hW hE⟩⟩ rfl rfl hl.1 rfl (Nat.le_of_ble_eq_true rfl) d_LA_row_9 ⟨by decide, by decide⟩) hown hE htab ⟨by decide, by decide⟩ (by decide) (by decide) (hts _ (mw tb_374)) (hts _ (mw tb_375)) (by decide) (by decide) (by decide) (fun X h => h.elim (fun q => Or.inl q.1) (fun q => Or.inr q.1)) (fun v C1 H locs hp hP hS => ?_) (fun xa H locs ht hN hL => ?_) (fun xa H locs ht hN hL => ?_)
  · have hO : H[o]? = some (outc ca f) := (hS.2.1 o hol ho).trans hO
    have hS2 : va_S (fun q => xr b 219 q ∨ q = o) s.heap H locs := ⟨hS.1, fun q h1 h2 => hS.2.1 q h1 (fun z => h2 (Or.inl z)), fun l hl => Or.inl (hS.2.2 l hl)⟩
    obtain ⟨w, rfl⟩ : ∃ w : Int32, v = some (.int w) := by obtain ⟨_, _, _, _, -, -, -, -, -, -, -, -, h⟩ := hp; rcases h with ⟨-, h, -⟩ | ⟨-, h, -⟩ <;> exact ⟨_, h⟩
    refine lv_i2l (v := w.toInt64) hx hb d_LA_row_12 rfl ?_
    refine xh_last hx hb hK hP hO ho (Or.inr rfl) hS2 d_LA_row_13 (fun H locs hP hO hS2 => ?_)
    refine lv_goto (tgt := 25) hx hb d_LA_row_14 (by decide) ?_
    refine lv_iconst (v := nI 0) hx hb d_LA_row_25 (by decide) ?_
    exact W.iret hx hb hr (fun t ht _ => ⟨⟨0, C1, _, rfl, Or.inl ⟨rfl, w, hp, rfl⟩, by rw [ht]; exact hP, by rw [ht]; exact hO⟩, hS2.F ht⟩) hS2.2.2 d_LA_row_26
  · have hO : H[o]? = some (outc ca f) := (hN.2.1 o hol (fun z => z)).trans hO
    have hS2 : va_S (fun q => xr b 219 q ∨ q = o) s.heap H locs := ⟨hN.1, fun q h1 _ => hN.2.1 q h1 (fun z => z), fun l hl => Or.inl (hL l hl)⟩
    refine lv_astore (lv' := [(6, .ref xa), (0, .ref (b + 0)), (1, .int d), (2, .int g), (3, .int lo), (4, .int hi), (5, .ref o)]) hx hb d_LA_row_17 hl (by decide) rfl (fun ls hl => ?_)
    refine lv_iconst (v := nI 1) hx hb d_LA_row_19 (by decide) ?_
    exact W.iret hx hb hr (fun t ht9 _ => ⟨⟨1, C0, f, rfl, Or.inr (Or.inl ⟨rfl, ht, rfl⟩), by rw [ht9]; exact hN.P hP, by rw [ht9]; exact hO⟩, hS2.F ht9⟩) hS2.2.2 d_LA_row_20
  · have hO : H[o]? = some (outc ca f) := (hN.2.1 o hol (fun z => z)).trans hO
    have hS2 : va_S (fun q => xr b 219 q ∨ q = o) s.heap H locs := ⟨hN.1, fun q h1 _ => hN.2.1 q h1 (fun z => z), fun l hl => Or.inl (hL l hl)⟩
    refine lv_astore (lv' := [(6, .ref xa), (0, .ref (b + 0)), (1, .int d), (2, .int g), (3, .int lo), (4, .int hi), (5, .ref o)]) hx hb d_LA_row_21 hl (by decide) rfl (fun ls hl => ?_)
    refine lv_iconst (v := nI 2) hx hb d_LA_row_23 (by decide) ?_
    exact W.iret hx hb hr (fun t ht9 _ => ⟨⟨2, C0, f, rfl, Or.inr (Or.inr ⟨rfl, ht, rfl⟩), by rw [ht9]; exact hN.P hP, by rw [ht9]; exact hO⟩, hS2.F ht9⟩) hS2.2.2 d_LA_row_24

abbrev P_OP_member (ca : Nat → ClassId) (b : Nat) (nd nt : Nat) (mwt mab mbe on1 ot2 lea mos : Nat → Nat) (d : Int32) (r : Option Value) (C1 : Nat → va_E) : Prop := ∃ d9, d9 < nd ∧ d = nI d9 ∧ ((exM on1 ot2 nt d9 ∧ r = some (.int (-1)) ∧ XM ca b C1 nd nt mwt mab mbe on1 ot2 lea mos) ∨ (¬ exM on1 ot2 nt d9 ∧ r = some (.int (nI nt)) ∧ XM ca b C1 nd (nt + 1) mwt mab mbe (va_up on1 nt d9) (va_up ot2 nt d9) (va_up lea nt 0) (va_up mos nt 0)))
abbrev T_OP_member (nd nt : Nat) (mwt mab mbe on1 ot2 lea mos : Nat → Nat) (d : Int32) (X : String) : Prop := X = nNSE ∧ ¬ isN d nd
abbrev k_LA_member : Cond := .codeWith y_LA_member b_LA_member 4 (some FieldType.int) [(0, 9, 12, 19)]
theorem km_LA_member : k_LA_member ∈ gw := tb_466
set_option maxHeartbeats 4000000 in
set_option maxRecDepth 100000 in
/-- the law's helper member -/
theorem c_LA_member (l : Launch) (hst : l.stackTraces = false) (D : va_G) (ca : Nat → ClassId) (b o : Nat) (C0 : Nat → va_E) (f : Nat → Int64) {nd nt : Nat} {mwt mab mbe on1 ot2 lea mos : Nat → Nat} (d : Int32) (hM : XM ca b C0 nd nt mwt mab mbe on1 ot2 lea mos) (hH : MH on1 ot2 lea mos mwt mab mbe nt nd) (ho : ¬ xr b 219 o) : Met l y_LA_member (k_LA_member :: gw) ({ frames := 8, cells := 8, slots := 48, locals := 141 }) (hPc D ca b o C0 f [.ref (b + 0), .int d, .ref o]) (hQ D ca b o (fun k C1 f1 => (k = 0 ∧ ∃ w : Int32, P_OP_member ca b nd nt mwt mab mbe on1 ot2 lea mos d (some (.int w)) C1 ∧ f1 0 = w.toInt64) ∨ (k = 1 ∧ T_OP_member nd nt mwt mab mbe on1 ot2 lea mos d nNSE ∧ C1 = C0))) 8 48 (fun q => xr b 219 q ∨ q = o) := by
  obtain ⟨wt, ab, be, fr, tt, le, mo, nf, tr, nm, fy, fb, k, im, hm, S, I, P, pt, ap, fa, wh, st, hX, -⟩ := id hM
  refine va_MetW (cc := b_LA_member) (maxL := 4) (ret := (some FieldType.int)) (by decide) rfl ?_
  intro p e s m args below meth c s₁ B hml hv
  obtain ⟨hav, hP, hO, hK, hE⟩ := hv
  have hx := B.exec
  have hb := B.bytes
  have hr := B.returns
  have hts := atoms_spec (ws := k_LA_member :: gw) B.pre
  have hown : s.vm.findClass "OrderPassingLaw" = some m.cls := findClass_of_methodNamed B.named
  have hlocks := B.notSynchronized
  have htab := bodyTab B (hts _ List.mem_cons_self)
  have hN : nCh s.heap s.heap := va_S.rf
  have hol : o < s.heap.size := (Array.getElem?_eq_some_iff.mp hO).1
  have hl := lv_entry ([.ref (b + 0), .int d, .ref o]) (n := 4) (Nat.le_of_ble_eq_true rfl)
  rw [hav, lg_entry_eq]
  generalize (lg_sl ([.ref (b + 0), .int d, .ref o]) ++ List.replicate (4 - (lg_sl ([.ref (b + 0), .int d, .ref o])).length) Slot.unset).toArray = ls at hl ⊢
  have hl : lv_has ls 4 [(0, .ref (b + 0)), (1, .int d), (2, .ref o)] := hl
  rw [← hav]
  refine lv_aload_n hx hb d_LA_member_0 rfl (lv_at hl 2 rfl) ?_
  refine lv_iconst (v := nI 0) hx hb d_LA_member_1 (by decide) ?_
  refine lv_aload_n hx hb d_LA_member_2 rfl (lv_at hl 0 rfl) ?_
  refine lv_iload_n hx hb d_LA_member_3 rfl (lv_at hl 1 rfl) ?_
  refine xh_call1 (X1 := nNSE) (thr := T_OP_member nd nt mwt mab mbe on1 ot2 lea mos d) (tm_V (As := [.int d]) (rest := [.int (nI 0), .ref o]) (g := F0 m 4 ls [.int d, .ref (b + 0), .int (nI 0), .ref o]) ⟨hx, hb, hml, hown, hts⟩ (c_OP_member l hst D ca b _ d hM hH) (cwV 1 hts (gi_V km_OP_member tb_467 tb_468 tb_469 tb_1) rfl rfl rfl (by decide +kernel) ⟨by decide, by decide⟩) ⟨tPc_blind, va_recv hK hP rfl (wl_at (XS_0 hX) (by decide)), fun U hU hW => ⟨rfl, by rw [hU]; exact hP, va_K.moved hW.alike hK, hN.E hU hW hE⟩⟩ rfl rfl hl.1 rfl (Nat.le_of_ble_eq_true rfl) d_LA_member_4 ⟨by decide, by decide⟩) hown hE htab ⟨by decide, by decide⟩ (by decide) (hts _ (mw tb_374)) (by decide) (fun X h => h.1) (fun v C1 H locs hp hP hS => ?_) (fun xa H locs ht hN hL => ?_)
  · have hO : H[o]? = some (outc ca f) := (hS.2.1 o hol ho).trans hO
    have hS2 : va_S (fun q => xr b 219 q ∨ q = o) s.heap H locs := ⟨hS.1, fun q h1 h2 => hS.2.1 q h1 (fun z => h2 (Or.inl z)), fun l hl => Or.inl (hS.2.2 l hl)⟩
    obtain ⟨w, rfl⟩ : ∃ w : Int32, v = some (.int w) := by obtain ⟨_, -, -, h⟩ := hp; rcases h with ⟨-, h, -⟩ | ⟨-, h, -⟩ <;> exact ⟨_, h⟩
    refine lv_i2l (v := w.toInt64) hx hb d_LA_member_7 rfl ?_
    refine xh_last hx hb hK hP hO ho (Or.inr rfl) hS2 d_LA_member_8 (fun H locs hP hO hS2 => ?_)
    refine lv_goto (tgt := 15) hx hb d_LA_member_9 (by decide) ?_
    refine lv_iconst (v := nI 0) hx hb d_LA_member_15 (by decide) ?_
    exact W.iret hx hb hr (fun t ht _ => ⟨⟨0, C1, _, rfl, Or.inl ⟨rfl, w, hp, rfl⟩, by rw [ht]; exact hP, by rw [ht]; exact hO⟩, hS2.F ht⟩) hS2.2.2 d_LA_member_16
  · have hO : H[o]? = some (outc ca f) := (hN.2.1 o hol (fun z => z)).trans hO
    have hS2 : va_S (fun q => xr b 219 q ∨ q = o) s.heap H locs := ⟨hN.1, fun q h1 _ => hN.2.1 q h1 (fun z => z), fun l hl => Or.inl (hL l hl)⟩
    refine lv_astore_n (lv' := [(3, .ref xa), (0, .ref (b + 0)), (1, .int d), (2, .ref o)]) hx hb d_LA_member_12 rfl hl (by decide) rfl (fun ls hl => ?_)
    refine lv_iconst (v := nI 1) hx hb d_LA_member_13 (by decide) ?_
    exact W.iret hx hb hr (fun t ht9 _ => ⟨⟨1, C0, f, rfl, Or.inr ⟨rfl, ht, rfl⟩, by rw [ht9]; exact hN.P hP, by rw [ht9]; exact hO⟩, hS2.F ht9⟩) hS2.2.2 d_LA_member_14

abbrev P_OP_total (ca : Nat → ClassId) (b : Nat) (nd nt : Nat) (mwt mab mbe on1 ot2 lea mos : Nat → Nat) (dg : Int32) (r : Option Value) (C1 : Nat → va_E) : Prop := ∃ k9, k9 < 48 ∧ dg = nI k9 ∧ r = some (.int (nI (mSum on1 ot2 lea mos mwt mab mbe nt nd (2 ^ nt - 1) 4095 4095 (fun _ => 4095) / 10 ^ k9 % 10))) ∧ XM ca b C1 nd nt mwt mab mbe on1 ot2 lea mos
abbrev T_OP_total (nd nt : Nat) (mwt mab mbe on1 ot2 lea mos : Nat → Nat) (dg : Int32) (X : String) : Prop := X = nNSE ∧ ¬ isN dg 48
abbrev k_LA_total : Cond := .codeWith y_LA_total b_LA_total 4 (some FieldType.int) [(0, 9, 12, 19)]
theorem km_LA_total : k_LA_total ∈ gw := tb_477
set_option maxHeartbeats 4000000 in
set_option maxRecDepth 100000 in
/-- the law's helper total -/
theorem c_LA_total (l : Launch) (hst : l.stackTraces = false) (D : va_G) (ca : Nat → ClassId) (b o : Nat) (C0 : Nat → va_E) (f : Nat → Int64) {nd nt : Nat} {mwt mab mbe on1 ot2 lea mos : Nat → Nat} (dg : Int32) (hM : XM ca b C0 nd nt mwt mab mbe on1 ot2 lea mos) (hH : MH on1 ot2 lea mos mwt mab mbe nt nd) (ho : ¬ xr b 219 o) : Met l y_LA_total (k_LA_total :: gw) ({ frames := 8, cells := 8, slots := 48, locals := 193 }) (hPc D ca b o C0 f [.ref (b + 0), .int dg, .ref o]) (hQ D ca b o (fun k C1 f1 => (k = 0 ∧ ∃ w : Int32, P_OP_total ca b nd nt mwt mab mbe on1 ot2 lea mos dg (some (.int w)) C1 ∧ f1 0 = w.toInt64) ∨ (k = 1 ∧ T_OP_total nd nt mwt mab mbe on1 ot2 lea mos dg nNSE ∧ C1 = C0))) 8 48 (fun q => xr b 219 q ∨ q = o) := by
  obtain ⟨wt, ab, be, fr, tt, le, mo, nf, tr, nm, fy, fb, k, im, hm, S, I, P, pt, ap, fa, wh, st, hX, -⟩ := id hM
  refine va_MetW (cc := b_LA_total) (maxL := 4) (ret := (some FieldType.int)) (by decide) rfl ?_
  intro p e s m args below meth c s₁ B hml hv
  obtain ⟨hav, hP, hO, hK, hE⟩ := hv
  have hx := B.exec
  have hb := B.bytes
  have hr := B.returns
  have hts := atoms_spec (ws := k_LA_total :: gw) B.pre
  have hown : s.vm.findClass "OrderPassingLaw" = some m.cls := findClass_of_methodNamed B.named
  have hlocks := B.notSynchronized
  have htab := bodyTab B (hts _ List.mem_cons_self)
  have hN : nCh s.heap s.heap := va_S.rf
  have hol : o < s.heap.size := (Array.getElem?_eq_some_iff.mp hO).1
  have hl := lv_entry ([.ref (b + 0), .int dg, .ref o]) (n := 4) (Nat.le_of_ble_eq_true rfl)
  rw [hav, lg_entry_eq]
  generalize (lg_sl ([.ref (b + 0), .int dg, .ref o]) ++ List.replicate (4 - (lg_sl ([.ref (b + 0), .int dg, .ref o])).length) Slot.unset).toArray = ls at hl ⊢
  have hl : lv_has ls 4 [(0, .ref (b + 0)), (1, .int dg), (2, .ref o)] := hl
  rw [← hav]
  refine lv_aload_n hx hb d_LA_total_0 rfl (lv_at hl 2 rfl) ?_
  refine lv_iconst (v := nI 0) hx hb d_LA_total_1 (by decide) ?_
  refine lv_aload_n hx hb d_LA_total_2 rfl (lv_at hl 0 rfl) ?_
  refine lv_iload_n hx hb d_LA_total_3 rfl (lv_at hl 1 rfl) ?_
  refine xh_call1 (X1 := nNSE) (thr := T_OP_total nd nt mwt mab mbe on1 ot2 lea mos dg) (tm_V (As := [.int dg]) (rest := [.int (nI 0), .ref o]) (g := F0 m 4 ls [.int dg, .ref (b + 0), .int (nI 0), .ref o]) ⟨hx, hb, hml, hown, hts⟩ (c_OP_total l hst D ca b _ dg hM hH) (cwV 1 hts (gi_V km_OP_total tb_478 tb_479 tb_480 tb_1) rfl rfl rfl (by decide +kernel) ⟨by decide, by decide⟩) ⟨tPc_blind, va_recv hK hP rfl (wl_at (XS_0 hX) (by decide)), fun U hU hW => ⟨rfl, by rw [hU]; exact hP, va_K.moved hW.alike hK, hN.E hU hW hE⟩⟩ rfl rfl hl.1 rfl (Nat.le_of_ble_eq_true rfl) d_LA_total_4 ⟨by decide, by decide⟩) hown hE htab ⟨by decide, by decide⟩ (by decide) (hts _ (mw tb_374)) (by decide) (fun X h => h.1) (fun v C1 H locs hp hP hS => ?_) (fun xa H locs ht hN hL => ?_)
  · have hO : H[o]? = some (outc ca f) := (hS.2.1 o hol ho).trans hO
    have hS2 : va_S (fun q => xr b 219 q ∨ q = o) s.heap H locs := ⟨hS.1, fun q h1 h2 => hS.2.1 q h1 (fun z => h2 (Or.inl z)), fun l hl => Or.inl (hS.2.2 l hl)⟩
    obtain ⟨w, rfl⟩ : ∃ w : Int32, v = some (.int w) := by obtain ⟨_, -, -, h, -⟩ := hp; exact ⟨_, h⟩
    refine lv_i2l (v := w.toInt64) hx hb d_LA_total_7 rfl ?_
    refine xh_last hx hb hK hP hO ho (Or.inr rfl) hS2 d_LA_total_8 (fun H locs hP hO hS2 => ?_)
    refine lv_goto (tgt := 15) hx hb d_LA_total_9 (by decide) ?_
    refine lv_iconst (v := nI 0) hx hb d_LA_total_15 (by decide) ?_
    exact W.iret hx hb hr (fun t ht _ => ⟨⟨0, C1, _, rfl, Or.inl ⟨rfl, w, hp, rfl⟩, by rw [ht]; exact hP, by rw [ht]; exact hO⟩, hS2.F ht⟩) hS2.2.2 d_LA_total_16
  · have hO : H[o]? = some (outc ca f) := (hN.2.1 o hol (fun z => z)).trans hO
    have hS2 : va_S (fun q => xr b 219 q ∨ q = o) s.heap H locs := ⟨hN.1, fun q h1 _ => hN.2.1 q h1 (fun z => z), fun l hl => Or.inl (hL l hl)⟩
    refine lv_astore_n (lv' := [(3, .ref xa), (0, .ref (b + 0)), (1, .int dg), (2, .ref o)]) hx hb d_LA_total_12 rfl hl (by decide) rfl (fun ls hl => ?_)
    refine lv_iconst (v := nI 1) hx hb d_LA_total_13 (by decide) ?_
    exact W.iret hx hb hr (fun t ht9 _ => ⟨⟨1, C0, f, rfl, Or.inr ⟨rfl, ht, rfl⟩, by rw [ht9]; exact hN.P hP, by rw [ht9]; exact hO⟩, hS2.F ht9⟩) hS2.2.2 d_LA_total_14

abbrev P_OP_answered (ca : Nat → ClassId) (b : Nat) (nd nt : Nat) (mwt mab mbe on1 ot2 lea mos : Nat → Nat) (d y dg : Int32) (r : Option Value) (C1 : Nat → va_E) : Prop := ∃ d9 y9 k9, d9 < nd ∧ y9 < 12 ∧ k9 < 48 ∧ d = nI d9 ∧ y = nI y9 ∧ dg = nI k9 ∧ r = some (.int (nI (mSum on1 ot2 lea mos mwt mab mbe nt nd (2 ^ nt - 1) 4095 4095 (va_up (fun _ => 4095) d9 (2 ^ y9)) / 10 ^ k9 % 10))) ∧ XM ca b C1 nd nt mwt mab mbe on1 ot2 lea mos
abbrev T_OP_answered (nd nt : Nat) (mwt mab mbe on1 ot2 lea mos : Nat → Nat) (d y dg : Int32) (X : String) : Prop := X = nNSE ∧ ¬ (isN d nd ∧ isN y 12 ∧ isN dg 48)
abbrev k_LA_answered : Cond := .codeWith y_LA_answered b_LA_answered 6 (some FieldType.int) [(0, 12, 15, 19)]
theorem km_LA_answered : k_LA_answered ∈ gw := tb_493
set_option maxHeartbeats 4000000 in
set_option maxRecDepth 100000 in
/-- the law's helper answered -/
theorem c_LA_answered (l : Launch) (hst : l.stackTraces = false) (D : va_G) (ca : Nat → ClassId) (b o : Nat) (C0 : Nat → va_E) (f : Nat → Int64) {nd nt : Nat} {mwt mab mbe on1 ot2 lea mos : Nat → Nat} (d y dg : Int32) (hM : XM ca b C0 nd nt mwt mab mbe on1 ot2 lea mos) (hH : MH on1 ot2 lea mos mwt mab mbe nt nd) (ho : ¬ xr b 219 o) : Met l y_LA_answered (k_LA_answered :: gw) ({ frames := 8, cells := 8, slots := 48, locals := 175 }) (hPc D ca b o C0 f [.ref (b + 0), .int d, .int y, .int dg, .ref o]) (hQ D ca b o (fun k C1 f1 => (k = 0 ∧ ∃ w : Int32, P_OP_answered ca b nd nt mwt mab mbe on1 ot2 lea mos d y dg (some (.int w)) C1 ∧ f1 0 = w.toInt64) ∨ (k = 1 ∧ T_OP_answered nd nt mwt mab mbe on1 ot2 lea mos d y dg nNSE ∧ C1 = C0))) 8 48 (fun q => xr b 219 q ∨ q = o) := by
  obtain ⟨wt, ab, be, fr, tt, le, mo, nf, tr, nm, fy, fb, k, im, hm, S, I, P, pt, ap, fa, wh, st, hX, -⟩ := id hM
  refine va_MetW (cc := b_LA_answered) (maxL := 6) (ret := (some FieldType.int)) (by decide) rfl ?_
  intro p e s m args below meth c s₁ B hml hv
  obtain ⟨hav, hP, hO, hK, hE⟩ := hv
  have hx := B.exec
  have hb := B.bytes
  have hr := B.returns
  have hts := atoms_spec (ws := k_LA_answered :: gw) B.pre
  have hown : s.vm.findClass "OrderPassingLaw" = some m.cls := findClass_of_methodNamed B.named
  have hlocks := B.notSynchronized
  have htab := bodyTab B (hts _ List.mem_cons_self)
  have hN : nCh s.heap s.heap := va_S.rf
  have hol : o < s.heap.size := (Array.getElem?_eq_some_iff.mp hO).1
  have hl := lv_entry ([.ref (b + 0), .int d, .int y, .int dg, .ref o]) (n := 6) (Nat.le_of_ble_eq_true rfl)
  rw [hav, lg_entry_eq]
  generalize (lg_sl ([.ref (b + 0), .int d, .int y, .int dg, .ref o]) ++ List.replicate (6 - (lg_sl ([.ref (b + 0), .int d, .int y, .int dg, .ref o])).length) Slot.unset).toArray = ls at hl ⊢
  have hl : lv_has ls 6 [(0, .ref (b + 0)), (1, .int d), (2, .int y), (3, .int dg), (4, .ref o)] := hl
  rw [← hav]
  refine lv_aload hx hb d_LA_answered_0 (lv_at hl 4 rfl) ?_
  refine lv_iconst (v := nI 0) hx hb d_LA_answered_2 (by decide) ?_
  refine lv_aload_n hx hb d_LA_answered_3 rfl (lv_at hl 0 rfl) ?_
  refine lv_iload_n hx hb d_LA_answered_4 rfl (lv_at hl 1 rfl) ?_
  refine lv_iload_n hx hb d_LA_answered_5 rfl (lv_at hl 2 rfl) ?_
  refine lv_iload_n hx hb d_LA_answered_6 rfl (lv_at hl 3 rfl) ?_
  refine xh_call1 (X1 := nNSE) (thr := T_OP_answered nd nt mwt mab mbe on1 ot2 lea mos d y dg) (tm_V (As := [.int d, .int y, .int dg]) (rest := [.int (nI 0), .ref o]) (g := F0 m 7 ls [.int dg, .int y, .int d, .ref (b + 0), .int (nI 0), .ref o]) ⟨hx, hb, hml, hown, hts⟩ (c_OP_answered l hst D ca b _ d y dg hM hH) (cwV 3 hts (gi_V km_OP_answered tb_494 tb_495 tb_496 tb_1) rfl rfl rfl (by decide +kernel) ⟨by decide, by decide⟩) ⟨tPc_blind, va_recv hK hP rfl (wl_at (XS_0 hX) (by decide)), fun U hU hW => ⟨rfl, by rw [hU]; exact hP, va_K.moved hW.alike hK, hN.E hU hW hE⟩⟩ rfl rfl hl.1 rfl (Nat.le_of_ble_eq_true rfl) d_LA_answered_7 ⟨by decide, by decide⟩) hown hE htab ⟨by decide, by decide⟩ (by decide) (hts _ (mw tb_374)) (by decide) (fun X h => h.1) (fun v C1 H locs hp hP hS => ?_) (fun xa H locs ht hN hL => ?_)
  · have hO : H[o]? = some (outc ca f) := (hS.2.1 o hol ho).trans hO
    have hS2 : va_S (fun q => xr b 219 q ∨ q = o) s.heap H locs := ⟨hS.1, fun q h1 h2 => hS.2.1 q h1 (fun z => h2 (Or.inl z)), fun l hl => Or.inl (hS.2.2 l hl)⟩
    obtain ⟨w, rfl⟩ : ∃ w : Int32, v = some (.int w) := by obtain ⟨_, _, _, -, -, -, -, -, -, h, -⟩ := hp; exact ⟨_, h⟩
    refine lv_i2l (v := w.toInt64) hx hb d_LA_answered_10 rfl ?_
    refine xh_last hx hb hK hP hO ho (Or.inr rfl) hS2 d_LA_answered_11 (fun H locs hP hO hS2 => ?_)
    refine lv_goto (tgt := 19) hx hb d_LA_answered_12 (by decide) ?_
    refine lv_iconst (v := nI 0) hx hb d_LA_answered_19 (by decide) ?_
    exact W.iret hx hb hr (fun t ht _ => ⟨⟨0, C1, _, rfl, Or.inl ⟨rfl, w, hp, rfl⟩, by rw [ht]; exact hP, by rw [ht]; exact hO⟩, hS2.F ht⟩) hS2.2.2 d_LA_answered_20
  · have hO : H[o]? = some (outc ca f) := (hN.2.1 o hol (fun z => z)).trans hO
    have hS2 : va_S (fun q => xr b 219 q ∨ q = o) s.heap H locs := ⟨hN.1, fun q h1 _ => hN.2.1 q h1 (fun z => z), fun l hl => Or.inl (hL l hl)⟩
    refine lv_astore (lv' := [(5, .ref xa), (0, .ref (b + 0)), (1, .int d), (2, .int y), (3, .int dg), (4, .ref o)]) hx hb d_LA_answered_15 hl (by decide) rfl (fun ls hl => ?_)
    refine lv_iconst (v := nI 1) hx hb d_LA_answered_17 (by decide) ?_
    exact W.iret hx hb hr (fun t ht9 _ => ⟨⟨1, C0, f, rfl, Or.inr ⟨rfl, ht, rfl⟩, by rw [ht9]; exact hN.P hP, by rw [ht9]; exact hO⟩, hS2.F ht9⟩) hS2.2.2 d_LA_answered_18

abbrev P_OP_bound (ca : Nat → ClassId) (b : Nat) (nd nt : Nat) (mwt mab mbe on1 ot2 lea mos : Nat → Nat) (x y dg : Int32) (r : Option Value) (C1 : Nat → va_E) : Prop := ∃ x9 y9 k9, x9 < 2 ∧ y9 < 12 ∧ k9 < 48 ∧ x = nI x9 ∧ y = nI y9 ∧ dg = nI k9 ∧ (∃ i, i < nt ∧ (2 ^ nt - 1).testBit i = true ∧ on1 i = ot2 i) ∧ r = some (.int (nI (mSum on1 ot2 lea mos mwt mab mbe nt nd (2 ^ nt - 1) (if x9 = 0 then 2 ^ y9 else 4095) (if x9 = 1 then 2 ^ y9 else 4095) (fun _ => 4095) / 10 ^ k9 % 10))) ∧ XM ca b C1 nd nt mwt mab mbe on1 ot2 lea mos
abbrev T_OP_bound (nd nt : Nat) (mwt mab mbe on1 ot2 lea mos : Nat → Nat) (x y dg : Int32) (X : String) : Prop := (X = nNSE ∧ ¬ (isN x 2 ∧ isN y 12 ∧ isN dg 48)) ∨ (X = nISE ∧ (isN x 2 ∧ isN y 12 ∧ isN dg 48) ∧ ¬ (∃ i, i < nt ∧ (2 ^ nt - 1).testBit i = true ∧ on1 i = ot2 i))
abbrev k_LA_bound : Cond := .codeWith y_LA_bound b_LA_bound 6 (some FieldType.int) [(0, 12, 15, 19), (0, 12, 19, 13)]
theorem km_LA_bound : k_LA_bound ∈ gw := tb_501
set_option maxHeartbeats 4000000 in
set_option maxRecDepth 100000 in
/-- the law's helper bound -/
theorem c_LA_bound (l : Launch) (hst : l.stackTraces = false) (D : va_G) (ca : Nat → ClassId) (b o : Nat) (C0 : Nat → va_E) (f : Nat → Int64) {nd nt : Nat} {mwt mab mbe on1 ot2 lea mos : Nat → Nat} (x y dg : Int32) (hM : XM ca b C0 nd nt mwt mab mbe on1 ot2 lea mos) (hH : MH on1 ot2 lea mos mwt mab mbe nt nd) (ho : ¬ xr b 219 o) : Met l y_LA_bound (k_LA_bound :: gw) ({ frames := 8, cells := 8, slots := 48, locals := 195 }) (hPc D ca b o C0 f [.ref (b + 0), .int x, .int y, .int dg, .ref o]) (hQ D ca b o (fun k C1 f1 => (k = 0 ∧ ∃ w : Int32, P_OP_bound ca b nd nt mwt mab mbe on1 ot2 lea mos x y dg (some (.int w)) C1 ∧ f1 0 = w.toInt64) ∨ (k = 1 ∧ T_OP_bound nd nt mwt mab mbe on1 ot2 lea mos x y dg nNSE ∧ C1 = C0) ∨ (k = 2 ∧ T_OP_bound nd nt mwt mab mbe on1 ot2 lea mos x y dg nISE ∧ C1 = C0))) 8 48 (fun q => xr b 219 q ∨ q = o) := by
  obtain ⟨wt, ab, be, fr, tt, le, mo, nf, tr, nm, fy, fb, k, im, hm, S, I, P, pt, ap, fa, wh, st, hX, -⟩ := id hM
  refine va_MetW (cc := b_LA_bound) (maxL := 6) (ret := (some FieldType.int)) (by decide) rfl ?_
  intro p e s m args below meth c s₁ B hml hv
  obtain ⟨hav, hP, hO, hK, hE⟩ := hv
  have hx := B.exec
  have hb := B.bytes
  have hr := B.returns
  have hts := atoms_spec (ws := k_LA_bound :: gw) B.pre
  have hown : s.vm.findClass "OrderPassingLaw" = some m.cls := findClass_of_methodNamed B.named
  have hlocks := B.notSynchronized
  have htab := bodyTab B (hts _ List.mem_cons_self)
  have hN : nCh s.heap s.heap := va_S.rf
  have hol : o < s.heap.size := (Array.getElem?_eq_some_iff.mp hO).1
  have hl := lv_entry ([.ref (b + 0), .int x, .int y, .int dg, .ref o]) (n := 6) (Nat.le_of_ble_eq_true rfl)
  rw [hav, lg_entry_eq]
  generalize (lg_sl ([.ref (b + 0), .int x, .int y, .int dg, .ref o]) ++ List.replicate (6 - (lg_sl ([.ref (b + 0), .int x, .int y, .int dg, .ref o])).length) Slot.unset).toArray = ls at hl ⊢
  have hl : lv_has ls 6 [(0, .ref (b + 0)), (1, .int x), (2, .int y), (3, .int dg), (4, .ref o)] := hl
  rw [← hav]
  refine lv_aload hx hb d_LA_bound_0 (lv_at hl 4 rfl) ?_
  refine lv_iconst (v := nI 0) hx hb d_LA_bound_2 (by decide) ?_
  refine lv_aload_n hx hb d_LA_bound_3 rfl (lv_at hl 0 rfl) ?_
  refine lv_iload_n hx hb d_LA_bound_4 rfl (lv_at hl 1 rfl) ?_
  refine lv_iload_n hx hb d_LA_bound_5 rfl (lv_at hl 2 rfl) ?_
  refine lv_iload_n hx hb d_LA_bound_6 rfl (lv_at hl 3 rfl) ?_
  refine xh_call2 (X1 := nNSE) (X2 := nISE) (thr := T_OP_bound nd nt mwt mab mbe on1 ot2 lea mos x y dg) (tm_V (As := [.int x, .int y, .int dg]) (rest := [.int (nI 0), .ref o]) (g := F0 m 7 ls [.int dg, .int y, .int x, .ref (b + 0), .int (nI 0), .ref o]) ⟨hx, hb, hml, hown, hts⟩ (c_OP_bound l hst D ca b _ x y dg hM hH) (cwV 3 hts (gi_V km_OP_bound tb_502 tb_503 tb_504 tb_1) rfl rfl rfl (by decide +kernel) ⟨by decide, by decide⟩) ⟨tPc_blind, va_recv hK hP rfl (wl_at (XS_0 hX) (by decide)), fun U hU hW => ⟨rfl, by rw [hU]; exact hP, va_K.moved hW.alike hK, hN.E hU hW hE⟩⟩ rfl rfl hl.1 rfl (Nat.le_of_ble_eq_true rfl) d_LA_bound_7 ⟨by decide, by decide⟩) hown hE htab ⟨by decide, by decide⟩ (by decide) (by decide) (hts _ (mw tb_374)) (hts _ (mw tb_294)) (by decide) (by decide) (by decide) (fun X h => h.elim (fun q => Or.inl q.1) (fun q => Or.inr q.1)) (fun v C1 H locs hp hP hS => ?_) (fun xa H locs ht hN hL => ?_) (fun xa H locs ht hN hL => ?_)
  · have hO : H[o]? = some (outc ca f) := (hS.2.1 o hol ho).trans hO
    have hS2 : va_S (fun q => xr b 219 q ∨ q = o) s.heap H locs := ⟨hS.1, fun q h1 h2 => hS.2.1 q h1 (fun z => h2 (Or.inl z)), fun l hl => Or.inl (hS.2.2 l hl)⟩
    obtain ⟨w, rfl⟩ : ∃ w : Int32, v = some (.int w) := by obtain ⟨_, _, _, -, -, -, -, -, -, -, h, -⟩ := hp; exact ⟨_, h⟩
    refine lv_i2l (v := w.toInt64) hx hb d_LA_bound_10 rfl ?_
    refine xh_last hx hb hK hP hO ho (Or.inr rfl) hS2 d_LA_bound_11 (fun H locs hP hO hS2 => ?_)
    refine lv_goto (tgt := 23) hx hb d_LA_bound_12 (by decide) ?_
    refine lv_iconst (v := nI 0) hx hb d_LA_bound_23 (by decide) ?_
    exact W.iret hx hb hr (fun t ht _ => ⟨⟨0, C1, _, rfl, Or.inl ⟨rfl, w, hp, rfl⟩, by rw [ht]; exact hP, by rw [ht]; exact hO⟩, hS2.F ht⟩) hS2.2.2 d_LA_bound_24
  · have hO : H[o]? = some (outc ca f) := (hN.2.1 o hol (fun z => z)).trans hO
    have hS2 : va_S (fun q => xr b 219 q ∨ q = o) s.heap H locs := ⟨hN.1, fun q h1 _ => hN.2.1 q h1 (fun z => z), fun l hl => Or.inl (hL l hl)⟩
    refine lv_astore (lv' := [(5, .ref xa), (0, .ref (b + 0)), (1, .int x), (2, .int y), (3, .int dg), (4, .ref o)]) hx hb d_LA_bound_15 hl (by decide) rfl (fun ls hl => ?_)
    refine lv_iconst (v := nI 1) hx hb d_LA_bound_17 (by decide) ?_
    exact W.iret hx hb hr (fun t ht9 _ => ⟨⟨1, C0, f, rfl, Or.inr (Or.inl ⟨rfl, ht, rfl⟩), by rw [ht9]; exact hN.P hP, by rw [ht9]; exact hO⟩, hS2.F ht9⟩) hS2.2.2 d_LA_bound_18
  · have hO : H[o]? = some (outc ca f) := (hN.2.1 o hol (fun z => z)).trans hO
    have hS2 : va_S (fun q => xr b 219 q ∨ q = o) s.heap H locs := ⟨hN.1, fun q h1 _ => hN.2.1 q h1 (fun z => z), fun l hl => Or.inl (hL l hl)⟩
    refine lv_astore (lv' := [(5, .ref xa), (0, .ref (b + 0)), (1, .int x), (2, .int y), (3, .int dg), (4, .ref o)]) hx hb d_LA_bound_19 hl (by decide) rfl (fun ls hl => ?_)
    refine lv_iconst (v := nI 2) hx hb d_LA_bound_21 (by decide) ?_
    exact W.iret hx hb hr (fun t ht9 _ => ⟨⟨2, C0, f, rfl, Or.inr (Or.inr ⟨rfl, ht, rfl⟩), by rw [ht9]; exact hN.P hP, by rw [ht9]; exact hO⟩, hS2.F ht9⟩) hS2.2.2 d_LA_bound_22

abbrev P_OP_both (ca : Nat → ClassId) (b : Nat) (nd nt : Nat) (mwt mab mbe on1 ot2 lea mos : Nat → Nat) (a x g y dg : Int32) (r : Option Value) (C1 : Nat → va_E) : Prop := ∃ a9 x9 g9 y9 k9, a9 < nd ∧ x9 < 12 ∧ g9 < nd ∧ y9 < 12 ∧ k9 < 48 ∧ a = nI a9 ∧ x = nI x9 ∧ g = nI g9 ∧ y = nI y9 ∧ dg = nI k9 ∧ r = some (.int (nI (mSum on1 ot2 lea mos mwt mab mbe nt nd (2 ^ nt - 1) 4095 4095 (va_up (va_up (fun _ => 4095) a9 (2 ^ x9)) g9 ((if g9 = a9 then 2 ^ x9 else 4095) &&& 2 ^ y9)) / 10 ^ k9 % 10))) ∧ XM ca b C1 nd nt mwt mab mbe on1 ot2 lea mos
abbrev T_OP_both (nd nt : Nat) (mwt mab mbe on1 ot2 lea mos : Nat → Nat) (a x g y dg : Int32) (X : String) : Prop := X = nNSE ∧ ¬ (isN a nd ∧ isN x 12 ∧ isN g nd ∧ isN y 12 ∧ isN dg 48)
abbrev k_LA_both : Cond := .codeWith y_LA_both b_LA_both 8 (some FieldType.int) [(0, 16, 19, 19)]
theorem km_LA_both : k_LA_both ∈ gw := tb_521
set_option maxHeartbeats 4000000 in
set_option maxRecDepth 100000 in
/-- the law's helper both -/
theorem c_LA_both (l : Launch) (hst : l.stackTraces = false) (D : va_G) (ca : Nat → ClassId) (b o : Nat) (C0 : Nat → va_E) (f : Nat → Int64) {nd nt : Nat} {mwt mab mbe on1 ot2 lea mos : Nat → Nat} (a x g y dg : Int32) (hM : XM ca b C0 nd nt mwt mab mbe on1 ot2 lea mos) (hH : MH on1 ot2 lea mos mwt mab mbe nt nd) (ho : ¬ xr b 219 o) : Met l y_LA_both (k_LA_both :: gw) ({ frames := 8, cells := 8, slots := 48, locals := 177 }) (hPc D ca b o C0 f [.ref (b + 0), .int a, .int x, .int g, .int y, .int dg, .ref o]) (hQ D ca b o (fun k C1 f1 => (k = 0 ∧ ∃ w : Int32, P_OP_both ca b nd nt mwt mab mbe on1 ot2 lea mos a x g y dg (some (.int w)) C1 ∧ f1 0 = w.toInt64) ∨ (k = 1 ∧ T_OP_both nd nt mwt mab mbe on1 ot2 lea mos a x g y dg nNSE ∧ C1 = C0))) 8 48 (fun q => xr b 219 q ∨ q = o) := by
  obtain ⟨wt, ab, be, fr, tt, le, mo, nf, tr, nm, fy, fb, k, im, hm, S, I, P, pt, ap, fa, wh, st, hX, -⟩ := id hM
  refine va_MetW (cc := b_LA_both) (maxL := 8) (ret := (some FieldType.int)) (by decide) rfl ?_
  intro p e s m args below meth c s₁ B hml hv
  obtain ⟨hav, hP, hO, hK, hE⟩ := hv
  have hx := B.exec
  have hb := B.bytes
  have hr := B.returns
  have hts := atoms_spec (ws := k_LA_both :: gw) B.pre
  have hown : s.vm.findClass "OrderPassingLaw" = some m.cls := findClass_of_methodNamed B.named
  have hlocks := B.notSynchronized
  have htab := bodyTab B (hts _ List.mem_cons_self)
  have hN : nCh s.heap s.heap := va_S.rf
  have hol : o < s.heap.size := (Array.getElem?_eq_some_iff.mp hO).1
  have hl := lv_entry ([.ref (b + 0), .int a, .int x, .int g, .int y, .int dg, .ref o]) (n := 8) (Nat.le_of_ble_eq_true rfl)
  rw [hav, lg_entry_eq]
  generalize (lg_sl ([.ref (b + 0), .int a, .int x, .int g, .int y, .int dg, .ref o]) ++ List.replicate (8 - (lg_sl ([.ref (b + 0), .int a, .int x, .int g, .int y, .int dg, .ref o])).length) Slot.unset).toArray = ls at hl ⊢
  have hl : lv_has ls 8 [(0, .ref (b + 0)), (1, .int a), (2, .int x), (3, .int g), (4, .int y), (5, .int dg), (6, .ref o)] := hl
  rw [← hav]
  refine lv_aload hx hb d_LA_both_0 (lv_at hl 6 rfl) ?_
  refine lv_iconst (v := nI 0) hx hb d_LA_both_2 (by decide) ?_
  refine lv_aload_n hx hb d_LA_both_3 rfl (lv_at hl 0 rfl) ?_
  refine lv_iload_n hx hb d_LA_both_4 rfl (lv_at hl 1 rfl) ?_
  refine lv_iload_n hx hb d_LA_both_5 rfl (lv_at hl 2 rfl) ?_
  refine lv_iload_n hx hb d_LA_both_6 rfl (lv_at hl 3 rfl) ?_
  refine lv_iload hx hb d_LA_both_7 (lv_at hl 4 rfl) ?_
  refine lv_iload hx hb d_LA_both_9 (lv_at hl 5 rfl) ?_
  refine xh_call1 (X1 := nNSE) (thr := T_OP_both nd nt mwt mab mbe on1 ot2 lea mos a x g y dg) (tm_V (As := [.int a, .int x, .int g, .int y, .int dg]) (rest := [.int (nI 0), .ref o]) (g := F0 m 11 ls [.int dg, .int y, .int g, .int x, .int a, .ref (b + 0), .int (nI 0), .ref o]) ⟨hx, hb, hml, hown, hts⟩ (c_OP_both l hst D ca b _ a x g y dg hM hH) (cwV 5 hts (gi_V km_OP_both tb_522 tb_523 tb_524 tb_1) rfl rfl rfl (by decide +kernel) ⟨by decide, by decide⟩) ⟨tPc_blind, va_recv hK hP rfl (wl_at (XS_0 hX) (by decide)), fun U hU hW => ⟨rfl, by rw [hU]; exact hP, va_K.moved hW.alike hK, hN.E hU hW hE⟩⟩ rfl rfl hl.1 rfl (Nat.le_of_ble_eq_true rfl) d_LA_both_11 ⟨by decide, by decide⟩) hown hE htab ⟨by decide, by decide⟩ (by decide) (hts _ (mw tb_374)) (by decide) (fun X h => h.1) (fun v C1 H locs hp hP hS => ?_) (fun xa H locs ht hN hL => ?_)
  · have hO : H[o]? = some (outc ca f) := (hS.2.1 o hol ho).trans hO
    have hS2 : va_S (fun q => xr b 219 q ∨ q = o) s.heap H locs := ⟨hS.1, fun q h1 h2 => hS.2.1 q h1 (fun z => h2 (Or.inl z)), fun l hl => Or.inl (hS.2.2 l hl)⟩
    obtain ⟨w, rfl⟩ : ∃ w : Int32, v = some (.int w) := by obtain ⟨_, _, _, _, _, -, -, -, -, -, -, -, -, -, -, h, -⟩ := hp; exact ⟨_, h⟩
    refine lv_i2l (v := w.toInt64) hx hb d_LA_both_14 rfl ?_
    refine xh_last hx hb hK hP hO ho (Or.inr rfl) hS2 d_LA_both_15 (fun H locs hP hO hS2 => ?_)
    refine lv_goto (tgt := 23) hx hb d_LA_both_16 (by decide) ?_
    refine lv_iconst (v := nI 0) hx hb d_LA_both_23 (by decide) ?_
    exact W.iret hx hb hr (fun t ht _ => ⟨⟨0, C1, _, rfl, Or.inl ⟨rfl, w, hp, rfl⟩, by rw [ht]; exact hP, by rw [ht]; exact hO⟩, hS2.F ht⟩) hS2.2.2 d_LA_both_24
  · have hO : H[o]? = some (outc ca f) := (hN.2.1 o hol (fun z => z)).trans hO
    have hS2 : va_S (fun q => xr b 219 q ∨ q = o) s.heap H locs := ⟨hN.1, fun q h1 _ => hN.2.1 q h1 (fun z => z), fun l hl => Or.inl (hL l hl)⟩
    refine lv_astore (lv' := [(7, .ref xa), (0, .ref (b + 0)), (1, .int a), (2, .int x), (3, .int g), (4, .int y), (5, .int dg), (6, .ref o)]) hx hb d_LA_both_19 hl (by decide) rfl (fun ls hl => ?_)
    refine lv_iconst (v := nI 1) hx hb d_LA_both_21 (by decide) ?_
    exact W.iret hx hb hr (fun t ht9 _ => ⟨⟨1, C0, f, rfl, Or.inr ⟨rfl, ht, rfl⟩, by rw [ht9]; exact hN.P hP, by rw [ht9]; exact hO⟩, hS2.F ht9⟩) hS2.2.2 d_LA_both_22

abbrev P_OP_span (ca : Nat → ClassId) (b : Nat) (nd nt : Nat) (mwt mab mbe on1 ot2 lea mos : Nat → Nat) (d x : Int32) (r : Option Value) (C1 : Nat → va_E) : Prop := ∃ d9 x9, d9 < nd ∧ x9 < 2 ∧ d = nI d9 ∧ x = nI x9 ∧ r = some (.int (eo (spR (fun y => mSum on1 ot2 lea mos mwt mab mbe nt nd (2 ^ nt - 1) 4095 4095 (va_up (fun _ => 4095) d9 (2 ^ y))) x9 12))) ∧ XM ca b C1 nd nt mwt mab mbe on1 ot2 lea mos
abbrev T_OP_span (nd nt : Nat) (mwt mab mbe on1 ot2 lea mos : Nat → Nat) (d x : Int32) (X : String) : Prop := X = nNSE ∧ ¬ (isN d nd ∧ isN x 2)
abbrev k_LA_span : Cond := .codeWith y_LA_span b_LA_span 5 (some FieldType.int) [(0, 10, 13, 19)]
theorem km_LA_span : k_LA_span ∈ gw := tb_532
set_option maxHeartbeats 4000000 in
set_option maxRecDepth 100000 in
/-- the law's helper span -/
theorem c_LA_span (l : Launch) (hst : l.stackTraces = false) (D : va_G) (ca : Nat → ClassId) (b o : Nat) (C0 : Nat → va_E) (f : Nat → Int64) {nd nt : Nat} {mwt mab mbe on1 ot2 lea mos : Nat → Nat} (d x : Int32) (hM : XM ca b C0 nd nt mwt mab mbe on1 ot2 lea mos) (hH : MH on1 ot2 lea mos mwt mab mbe nt nd) (ho : ¬ xr b 219 o) : Met l y_LA_span (k_LA_span :: gw) ({ frames := 8, cells := 8, slots := 48, locals := 176 }) (hPc D ca b o C0 f [.ref (b + 0), .int d, .int x, .ref o]) (hQ D ca b o (fun k C1 f1 => (k = 0 ∧ ∃ w : Int32, P_OP_span ca b nd nt mwt mab mbe on1 ot2 lea mos d x (some (.int w)) C1 ∧ f1 0 = w.toInt64) ∨ (k = 1 ∧ T_OP_span nd nt mwt mab mbe on1 ot2 lea mos d x nNSE ∧ C1 = C0))) 8 48 (fun q => xr b 219 q ∨ q = o) := by
  obtain ⟨wt, ab, be, fr, tt, le, mo, nf, tr, nm, fy, fb, k, im, hm, S, I, P, pt, ap, fa, wh, st, hX, -⟩ := id hM
  refine va_MetW (cc := b_LA_span) (maxL := 5) (ret := (some FieldType.int)) (by decide) rfl ?_
  intro p e s m args below meth c s₁ B hml hv
  obtain ⟨hav, hP, hO, hK, hE⟩ := hv
  have hx := B.exec
  have hb := B.bytes
  have hr := B.returns
  have hts := atoms_spec (ws := k_LA_span :: gw) B.pre
  have hown : s.vm.findClass "OrderPassingLaw" = some m.cls := findClass_of_methodNamed B.named
  have hlocks := B.notSynchronized
  have htab := bodyTab B (hts _ List.mem_cons_self)
  have hN : nCh s.heap s.heap := va_S.rf
  have hol : o < s.heap.size := (Array.getElem?_eq_some_iff.mp hO).1
  have hl := lv_entry ([.ref (b + 0), .int d, .int x, .ref o]) (n := 5) (Nat.le_of_ble_eq_true rfl)
  rw [hav, lg_entry_eq]
  generalize (lg_sl ([.ref (b + 0), .int d, .int x, .ref o]) ++ List.replicate (5 - (lg_sl ([.ref (b + 0), .int d, .int x, .ref o])).length) Slot.unset).toArray = ls at hl ⊢
  have hl : lv_has ls 5 [(0, .ref (b + 0)), (1, .int d), (2, .int x), (3, .ref o)] := hl
  rw [← hav]
  refine lv_aload_n hx hb d_LA_span_0 rfl (lv_at hl 3 rfl) ?_
  refine lv_iconst (v := nI 0) hx hb d_LA_span_1 (by decide) ?_
  refine lv_aload_n hx hb d_LA_span_2 rfl (lv_at hl 0 rfl) ?_
  refine lv_iload_n hx hb d_LA_span_3 rfl (lv_at hl 1 rfl) ?_
  refine lv_iload_n hx hb d_LA_span_4 rfl (lv_at hl 2 rfl) ?_
  refine xh_call1 (X1 := nNSE) (thr := T_OP_span nd nt mwt mab mbe on1 ot2 lea mos d x) (tm_V (As := [.int d, .int x]) (rest := [.int (nI 0), .ref o]) (g := F0 m 5 ls [.int x, .int d, .ref (b + 0), .int (nI 0), .ref o]) ⟨hx, hb, hml, hown, hts⟩ (c_OP_span l hst D ca b _ d x hM hH) (cwV 2 hts (gi_V km_OP_span tb_533 tb_534 tb_535 tb_1) rfl rfl rfl (by decide +kernel) ⟨by decide, by decide⟩) ⟨tPc_blind, va_recv hK hP rfl (wl_at (XS_0 hX) (by decide)), fun U hU hW => ⟨rfl, by rw [hU]; exact hP, va_K.moved hW.alike hK, hN.E hU hW hE⟩⟩ rfl rfl hl.1 rfl (Nat.le_of_ble_eq_true rfl) d_LA_span_5 ⟨by decide, by decide⟩) hown hE htab ⟨by decide, by decide⟩ (by decide) (hts _ (mw tb_374)) (by decide) (fun X h => h.1) (fun v C1 H locs hp hP hS => ?_) (fun xa H locs ht hN hL => ?_)
  · have hO : H[o]? = some (outc ca f) := (hS.2.1 o hol ho).trans hO
    have hS2 : va_S (fun q => xr b 219 q ∨ q = o) s.heap H locs := ⟨hS.1, fun q h1 h2 => hS.2.1 q h1 (fun z => h2 (Or.inl z)), fun l hl => Or.inl (hS.2.2 l hl)⟩
    obtain ⟨w, rfl⟩ : ∃ w : Int32, v = some (.int w) := by obtain ⟨_, _, -, -, -, -, h, -⟩ := hp; exact ⟨_, h⟩
    refine lv_i2l (v := w.toInt64) hx hb d_LA_span_8 rfl ?_
    refine xh_last hx hb hK hP hO ho (Or.inr rfl) hS2 d_LA_span_9 (fun H locs hP hO hS2 => ?_)
    refine lv_goto (tgt := 17) hx hb d_LA_span_10 (by decide) ?_
    refine lv_iconst (v := nI 0) hx hb d_LA_span_17 (by decide) ?_
    exact W.iret hx hb hr (fun t ht _ => ⟨⟨0, C1, _, rfl, Or.inl ⟨rfl, w, hp, rfl⟩, by rw [ht]; exact hP, by rw [ht]; exact hO⟩, hS2.F ht⟩) hS2.2.2 d_LA_span_18
  · have hO : H[o]? = some (outc ca f) := (hN.2.1 o hol (fun z => z)).trans hO
    have hS2 : va_S (fun q => xr b 219 q ∨ q = o) s.heap H locs := ⟨hN.1, fun q h1 _ => hN.2.1 q h1 (fun z => z), fun l hl => Or.inl (hL l hl)⟩
    refine lv_astore (lv' := [(4, .ref xa), (0, .ref (b + 0)), (1, .int d), (2, .int x), (3, .ref o)]) hx hb d_LA_span_13 hl (by decide) rfl (fun ls hl => ?_)
    refine lv_iconst (v := nI 1) hx hb d_LA_span_15 (by decide) ?_
    exact W.iret hx hb hr (fun t ht9 _ => ⟨⟨1, C0, f, rfl, Or.inr ⟨rfl, ht, rfl⟩, by rw [ht9]; exact hN.P hP, by rw [ht9]; exact hO⟩, hS2.F ht9⟩) hS2.2.2 d_LA_span_16

abbrev P_OP_narrow (ca : Nat → ClassId) (b : Nat) (nd nt : Nat) (mwt mab mbe on1 ot2 lea mos : Nat → Nat) (d a x : Int32) (r : Option Value) (C1 : Nat → va_E) : Prop := ∃ d9 a9 b9, d9 < nd ∧ 1 ≤ a9 ∧ a9 ≤ b9 ∧ b9 ≤ 1000 ∧ d = nI d9 ∧ a = nI a9 ∧ x = nI b9 ∧ ((mSum on1 ot2 lea mos mwt mab mbe nt nd (2 ^ nt - 1) 4095 4095 (fun _ => 4095) = 0 ∧ r = some (.int (-1))) ∨ (mSum on1 ot2 lea mos mwt mab mbe nt nd (2 ^ nt - 1) 4095 4095 (fun _ => 4095) ≠ 0 ∧ ∃ z, r = some (.int (eo z)) ∧ nrwP (fun f n => mSum on1 ot2 lea mos mwt mab mbe nt nd (2 ^ nt - 1) 4095 4095 (fun _ => 4095) * a9 ≤ sm (fun j => mSum on1 ot2 lea mos mwt mab mbe nt nd (2 ^ nt - 1) 4095 4095 (va_up (fun _ => 4095) d9 (2 ^ (f + j))) * b9) (n + 1)) z)) ∧ XM ca b C1 nd nt mwt mab mbe on1 ot2 lea mos
abbrev T_OP_narrow (nd nt : Nat) (mwt mab mbe on1 ot2 lea mos : Nat → Nat) (d a x : Int32) (X : String) : Prop := (X = nNSE ∧ ¬ isN d nd) ∨ (X = nIAE ∧ isN d nd ∧ ¬ narE a x)
abbrev k_LA_narrow : Cond := .codeWith y_LA_narrow b_LA_narrow 6 (some FieldType.int) [(0, 12, 15, 19), (0, 12, 19, 21)]
theorem km_LA_narrow : k_LA_narrow ∈ gw := tb_539
set_option maxHeartbeats 4000000 in
set_option maxRecDepth 100000 in
/-- the law's helper narrow -/
theorem c_LA_narrow (l : Launch) (hst : l.stackTraces = false) (D : va_G) (ca : Nat → ClassId) (b o : Nat) (C0 : Nat → va_E) (f : Nat → Int64) {nd nt : Nat} {mwt mab mbe on1 ot2 lea mos : Nat → Nat} (d a x : Int32) (hM : XM ca b C0 nd nt mwt mab mbe on1 ot2 lea mos) (hH : MH on1 ot2 lea mos mwt mab mbe nt nd) (ho : ¬ xr b 219 o) : Met l y_LA_narrow (k_LA_narrow :: gw) ({ frames := 8, cells := 8, slots := 48, locals := 175 }) (hPc D ca b o C0 f [.ref (b + 0), .int d, .int a, .int x, .ref o]) (hQ D ca b o (fun k C1 f1 => (k = 0 ∧ ∃ w : Int32, P_OP_narrow ca b nd nt mwt mab mbe on1 ot2 lea mos d a x (some (.int w)) C1 ∧ f1 0 = w.toInt64) ∨ (k = 1 ∧ T_OP_narrow nd nt mwt mab mbe on1 ot2 lea mos d a x nNSE ∧ C1 = C0) ∨ (k = 2 ∧ T_OP_narrow nd nt mwt mab mbe on1 ot2 lea mos d a x nIAE ∧ C1 = C0))) 8 48 (fun q => xr b 219 q ∨ q = o) := by
  obtain ⟨wt, ab, be, fr, tt, le, mo, nf, tr, nm, fy, fb, k, im, hm, S, I, P, pt, ap, fa, wh, st, hX, -⟩ := id hM
  refine va_MetW (cc := b_LA_narrow) (maxL := 6) (ret := (some FieldType.int)) (by decide) rfl ?_
  intro p e s m args below meth c s₁ B hml hv
  obtain ⟨hav, hP, hO, hK, hE⟩ := hv
  have hx := B.exec
  have hb := B.bytes
  have hr := B.returns
  have hts := atoms_spec (ws := k_LA_narrow :: gw) B.pre
  have hown : s.vm.findClass "OrderPassingLaw" = some m.cls := findClass_of_methodNamed B.named
  have hlocks := B.notSynchronized
  have htab := bodyTab B (hts _ List.mem_cons_self)
  have hN : nCh s.heap s.heap := va_S.rf
  have hol : o < s.heap.size := (Array.getElem?_eq_some_iff.mp hO).1
  have hl := lv_entry ([.ref (b + 0), .int d, .int a, .int x, .ref o]) (n := 6) (Nat.le_of_ble_eq_true rfl)
  rw [hav, lg_entry_eq]
  generalize (lg_sl ([.ref (b + 0), .int d, .int a, .int x, .ref o]) ++ List.replicate (6 - (lg_sl ([.ref (b + 0), .int d, .int a, .int x, .ref o])).length) Slot.unset).toArray = ls at hl ⊢
  have hl : lv_has ls 6 [(0, .ref (b + 0)), (1, .int d), (2, .int a), (3, .int x), (4, .ref o)] := hl
  rw [← hav]
  refine lv_aload hx hb d_LA_narrow_0 (lv_at hl 4 rfl) ?_
  refine lv_iconst (v := nI 0) hx hb d_LA_narrow_2 (by decide) ?_
  refine lv_aload_n hx hb d_LA_narrow_3 rfl (lv_at hl 0 rfl) ?_
  refine lv_iload_n hx hb d_LA_narrow_4 rfl (lv_at hl 1 rfl) ?_
  refine lv_iload_n hx hb d_LA_narrow_5 rfl (lv_at hl 2 rfl) ?_
  refine lv_iload_n hx hb d_LA_narrow_6 rfl (lv_at hl 3 rfl) ?_
  refine xh_call2 (X1 := nNSE) (X2 := nIAE) (thr := T_OP_narrow nd nt mwt mab mbe on1 ot2 lea mos d a x) (tm_V (As := [.int d, .int a, .int x]) (rest := [.int (nI 0), .ref o]) (g := F0 m 7 ls [.int x, .int a, .int d, .ref (b + 0), .int (nI 0), .ref o]) ⟨hx, hb, hml, hown, hts⟩ (c_OP_narrow l hst D ca b _ d a x hM hH) (cwV 3 hts (gi_V km_OP_narrow tb_540 tb_541 tb_542 tb_1) rfl rfl rfl (by decide +kernel) ⟨by decide, by decide⟩) ⟨tPc_blind, va_recv hK hP rfl (wl_at (XS_0 hX) (by decide)), fun U hU hW => ⟨rfl, by rw [hU]; exact hP, va_K.moved hW.alike hK, hN.E hU hW hE⟩⟩ rfl rfl hl.1 rfl (Nat.le_of_ble_eq_true rfl) d_LA_narrow_7 ⟨by decide, by decide⟩) hown hE htab ⟨by decide, by decide⟩ (by decide) (by decide) (hts _ (mw tb_374)) (hts _ (mw tb_375)) (by decide) (by decide) (by decide) (fun X h => h.elim (fun q => Or.inl q.1) (fun q => Or.inr q.1)) (fun v C1 H locs hp hP hS => ?_) (fun xa H locs ht hN hL => ?_) (fun xa H locs ht hN hL => ?_)
  · have hO : H[o]? = some (outc ca f) := (hS.2.1 o hol ho).trans hO
    have hS2 : va_S (fun q => xr b 219 q ∨ q = o) s.heap H locs := ⟨hS.1, fun q h1 h2 => hS.2.1 q h1 (fun z => h2 (Or.inl z)), fun l hl => Or.inl (hS.2.2 l hl)⟩
    obtain ⟨w, rfl⟩ : ∃ w : Int32, v = some (.int w) := by obtain ⟨_, _, _, -, -, -, -, -, -, -, h, -⟩ := hp; rcases h with ⟨-, h⟩ | ⟨-, _, h, -⟩ <;> exact ⟨_, h⟩
    refine lv_i2l (v := w.toInt64) hx hb d_LA_narrow_10 rfl ?_
    refine xh_last hx hb hK hP hO ho (Or.inr rfl) hS2 d_LA_narrow_11 (fun H locs hP hO hS2 => ?_)
    refine lv_goto (tgt := 23) hx hb d_LA_narrow_12 (by decide) ?_
    refine lv_iconst (v := nI 0) hx hb d_LA_narrow_23 (by decide) ?_
    exact W.iret hx hb hr (fun t ht _ => ⟨⟨0, C1, _, rfl, Or.inl ⟨rfl, w, hp, rfl⟩, by rw [ht]; exact hP, by rw [ht]; exact hO⟩, hS2.F ht⟩) hS2.2.2 d_LA_narrow_24
  · have hO : H[o]? = some (outc ca f) := (hN.2.1 o hol (fun z => z)).trans hO
    have hS2 : va_S (fun q => xr b 219 q ∨ q = o) s.heap H locs := ⟨hN.1, fun q h1 _ => hN.2.1 q h1 (fun z => z), fun l hl => Or.inl (hL l hl)⟩
    refine lv_astore (lv' := [(5, .ref xa), (0, .ref (b + 0)), (1, .int d), (2, .int a), (3, .int x), (4, .ref o)]) hx hb d_LA_narrow_15 hl (by decide) rfl (fun ls hl => ?_)
    refine lv_iconst (v := nI 1) hx hb d_LA_narrow_17 (by decide) ?_
    exact W.iret hx hb hr (fun t ht9 _ => ⟨⟨1, C0, f, rfl, Or.inr (Or.inl ⟨rfl, ht, rfl⟩), by rw [ht9]; exact hN.P hP, by rw [ht9]; exact hO⟩, hS2.F ht9⟩) hS2.2.2 d_LA_narrow_18
  · have hO : H[o]? = some (outc ca f) := (hN.2.1 o hol (fun z => z)).trans hO
    have hS2 : va_S (fun q => xr b 219 q ∨ q = o) s.heap H locs := ⟨hN.1, fun q h1 _ => hN.2.1 q h1 (fun z => z), fun l hl => Or.inl (hL l hl)⟩
    refine lv_astore (lv' := [(5, .ref xa), (0, .ref (b + 0)), (1, .int d), (2, .int a), (3, .int x), (4, .ref o)]) hx hb d_LA_narrow_19 hl (by decide) rfl (fun ls hl => ?_)
    refine lv_iconst (v := nI 2) hx hb d_LA_narrow_21 (by decide) ?_
    exact W.iret hx hb hr (fun t ht9 _ => ⟨⟨2, C0, f, rfl, Or.inr (Or.inr ⟨rfl, ht, rfl⟩), by rw [ht9]; exact hN.P hP, by rw [ht9]; exact hO⟩, hS2.F ht9⟩) hS2.2.2 d_LA_narrow_22

abbrev P_OP_fitless (ca : Nat → ClassId) (b : Nat) (nd nt : Nat) (mwt mab mbe on1 ot2 lea mos : Nat → Nat) (kx : Int32) (r : Option Value) (C1 : Nat → va_E) : Prop := ∃ k9, k9 < 2 ^ 31 ∧ kx = nI k9 ∧ ((mSum on1 ot2 lea mos mwt mab mbe nt nd (2 ^ nt - 1) 4095 4095 (fun _ => 4095) ≠ 0 ∧ r = some (.int (-1))) ∨ (mSum on1 ot2 lea mos mwt mab mbe nt nd (2 ^ nt - 1) 4095 4095 (fun _ => 4095) = 0 ∧ ∃ z, r = some (.int (eo z)) ∧ kthP (fun j => (ftR (fun c => mSum on1 ot2 lea mos mwt mab mbe nt nd c 4095 4095 (fun _ => 4095)) nt nt).testBit j) nt k9 z)) ∧ XM ca b C1 nd nt mwt mab mbe on1 ot2 lea mos
abbrev T_OP_fitless (nd nt : Nat) (mwt mab mbe on1 ot2 lea mos : Nat → Nat) (kx : Int32) (X : String) : Prop := X = nNSE ∧ kx < 0
abbrev k_LA_fitless : Cond := .codeWith y_LA_fitless b_LA_fitless 4 (some FieldType.int) [(0, 9, 12, 19)]
theorem km_LA_fitless : k_LA_fitless ∈ gw := tb_562
set_option maxHeartbeats 4000000 in
set_option maxRecDepth 100000 in
/-- the law's helper fitless -/
theorem c_LA_fitless (l : Launch) (hst : l.stackTraces = false) (D : va_G) (ca : Nat → ClassId) (b o : Nat) (C0 : Nat → va_E) (f : Nat → Int64) {nd nt : Nat} {mwt mab mbe on1 ot2 lea mos : Nat → Nat} (kx : Int32) (hM : XM ca b C0 nd nt mwt mab mbe on1 ot2 lea mos) (hH : MH on1 ot2 lea mos mwt mab mbe nt nd) (ho : ¬ xr b 219 o) : Met l y_LA_fitless (k_LA_fitless :: gw) ({ frames := 8, cells := 8, slots := 48, locals := 194 }) (hPc D ca b o C0 f [.ref (b + 0), .int kx, .ref o]) (hQ D ca b o (fun k C1 f1 => (k = 0 ∧ ∃ w : Int32, P_OP_fitless ca b nd nt mwt mab mbe on1 ot2 lea mos kx (some (.int w)) C1 ∧ f1 0 = w.toInt64) ∨ (k = 1 ∧ T_OP_fitless nd nt mwt mab mbe on1 ot2 lea mos kx nNSE ∧ C1 = C0))) 8 48 (fun q => xr b 219 q ∨ q = o) := by
  obtain ⟨wt, ab, be, fr, tt, le, mo, nf, tr, nm, fy, fb, k, im, hm, S, I, P, pt, ap, fa, wh, st, hX, -⟩ := id hM
  refine va_MetW (cc := b_LA_fitless) (maxL := 4) (ret := (some FieldType.int)) (by decide) rfl ?_
  intro p e s m args below meth c s₁ B hml hv
  obtain ⟨hav, hP, hO, hK, hE⟩ := hv
  have hx := B.exec
  have hb := B.bytes
  have hr := B.returns
  have hts := atoms_spec (ws := k_LA_fitless :: gw) B.pre
  have hown : s.vm.findClass "OrderPassingLaw" = some m.cls := findClass_of_methodNamed B.named
  have hlocks := B.notSynchronized
  have htab := bodyTab B (hts _ List.mem_cons_self)
  have hN : nCh s.heap s.heap := va_S.rf
  have hol : o < s.heap.size := (Array.getElem?_eq_some_iff.mp hO).1
  have hl := lv_entry ([.ref (b + 0), .int kx, .ref o]) (n := 4) (Nat.le_of_ble_eq_true rfl)
  rw [hav, lg_entry_eq]
  generalize (lg_sl ([.ref (b + 0), .int kx, .ref o]) ++ List.replicate (4 - (lg_sl ([.ref (b + 0), .int kx, .ref o])).length) Slot.unset).toArray = ls at hl ⊢
  have hl : lv_has ls 4 [(0, .ref (b + 0)), (1, .int kx), (2, .ref o)] := hl
  rw [← hav]
  refine lv_aload_n hx hb d_LA_fitless_0 rfl (lv_at hl 2 rfl) ?_
  refine lv_iconst (v := nI 0) hx hb d_LA_fitless_1 (by decide) ?_
  refine lv_aload_n hx hb d_LA_fitless_2 rfl (lv_at hl 0 rfl) ?_
  refine lv_iload_n hx hb d_LA_fitless_3 rfl (lv_at hl 1 rfl) ?_
  refine xh_call1 (X1 := nNSE) (thr := T_OP_fitless nd nt mwt mab mbe on1 ot2 lea mos kx) (tm_V (As := [.int kx]) (rest := [.int (nI 0), .ref o]) (g := F0 m 4 ls [.int kx, .ref (b + 0), .int (nI 0), .ref o]) ⟨hx, hb, hml, hown, hts⟩ (c_OP_fitless l hst D ca b _ kx hM hH) (cwV 1 hts (gi_V km_OP_fitless tb_563 tb_564 tb_565 tb_1) rfl rfl rfl (by decide +kernel) ⟨by decide, by decide⟩) ⟨tPc_blind, va_recv hK hP rfl (wl_at (XS_0 hX) (by decide)), fun U hU hW => ⟨rfl, by rw [hU]; exact hP, va_K.moved hW.alike hK, hN.E hU hW hE⟩⟩ rfl rfl hl.1 rfl (Nat.le_of_ble_eq_true rfl) d_LA_fitless_4 ⟨by decide, by decide⟩) hown hE htab ⟨by decide, by decide⟩ (by decide) (hts _ (mw tb_374)) (by decide) (fun X h => h.1) (fun v C1 H locs hp hP hS => ?_) (fun xa H locs ht hN hL => ?_)
  · have hO : H[o]? = some (outc ca f) := (hS.2.1 o hol ho).trans hO
    have hS2 : va_S (fun q => xr b 219 q ∨ q = o) s.heap H locs := ⟨hS.1, fun q h1 h2 => hS.2.1 q h1 (fun z => h2 (Or.inl z)), fun l hl => Or.inl (hS.2.2 l hl)⟩
    obtain ⟨w, rfl⟩ : ∃ w : Int32, v = some (.int w) := by obtain ⟨_, -, -, h, -⟩ := hp; rcases h with ⟨-, h⟩ | ⟨-, _, h, -⟩ <;> exact ⟨_, h⟩
    refine lv_i2l (v := w.toInt64) hx hb d_LA_fitless_7 rfl ?_
    refine xh_last hx hb hK hP hO ho (Or.inr rfl) hS2 d_LA_fitless_8 (fun H locs hP hO hS2 => ?_)
    refine lv_goto (tgt := 15) hx hb d_LA_fitless_9 (by decide) ?_
    refine lv_iconst (v := nI 0) hx hb d_LA_fitless_15 (by decide) ?_
    exact W.iret hx hb hr (fun t ht _ => ⟨⟨0, C1, _, rfl, Or.inl ⟨rfl, w, hp, rfl⟩, by rw [ht]; exact hP, by rw [ht]; exact hO⟩, hS2.F ht⟩) hS2.2.2 d_LA_fitless_16
  · have hO : H[o]? = some (outc ca f) := (hN.2.1 o hol (fun z => z)).trans hO
    have hS2 : va_S (fun q => xr b 219 q ∨ q = o) s.heap H locs := ⟨hN.1, fun q h1 _ => hN.2.1 q h1 (fun z => z), fun l hl => Or.inl (hL l hl)⟩
    refine lv_astore_n (lv' := [(3, .ref xa), (0, .ref (b + 0)), (1, .int kx), (2, .ref o)]) hx hb d_LA_fitless_12 rfl hl (by decide) rfl (fun ls hl => ?_)
    refine lv_iconst (v := nI 1) hx hb d_LA_fitless_13 (by decide) ?_
    exact W.iret hx hb hr (fun t ht9 _ => ⟨⟨1, C0, f, rfl, Or.inr ⟨rfl, ht, rfl⟩, by rw [ht9]; exact hN.P hP, by rw [ht9]; exact hO⟩, hS2.F ht9⟩) hS2.2.2 d_LA_fitless_14

abbrev P_OP_count (ca : Nat → ClassId) (b : Nat) (nd nt : Nat) (mwt mab mbe on1 ot2 lea mos : Nat → Nat) (x : Int32) (r : Option Value) (C1 : Nat → va_E) : Prop := ∃ x9, x9 < 3 ∧ x = nI x9 ∧ r = some (.int (nI (if x9 = 0 then nd else if x9 = 1 then nt - mct on1 ot2 nt else mct on1 ot2 nt))) ∧ XM ca b C1 nd nt mwt mab mbe on1 ot2 lea mos
abbrev T_OP_count (nd nt : Nat) (mwt mab mbe on1 ot2 lea mos : Nat → Nat) (x : Int32) (X : String) : Prop := X = nNSE ∧ ¬ isN x 3
abbrev k_LA_count : Cond := .codeWith y_LA_count b_LA_count 4 (some FieldType.int) [(0, 9, 12, 19)]
theorem km_LA_count : k_LA_count ∈ gw := tb_583
set_option maxHeartbeats 4000000 in
set_option maxRecDepth 100000 in
/-- the law's helper count -/
theorem c_LA_count (l : Launch) (hst : l.stackTraces = false) (D : va_G) (ca : Nat → ClassId) (b o : Nat) (C0 : Nat → va_E) (f : Nat → Int64) {nd nt : Nat} {mwt mab mbe on1 ot2 lea mos : Nat → Nat} (x : Int32) (hM : XM ca b C0 nd nt mwt mab mbe on1 ot2 lea mos) (hH : MH on1 ot2 lea mos mwt mab mbe nt nd) (ho : ¬ xr b 219 o) : Met l y_LA_count (k_LA_count :: gw) ({ frames := 8, cells := 8, slots := 48, locals := 132 }) (hPc D ca b o C0 f [.ref (b + 0), .int x, .ref o]) (hQ D ca b o (fun k C1 f1 => (k = 0 ∧ ∃ w : Int32, P_OP_count ca b nd nt mwt mab mbe on1 ot2 lea mos x (some (.int w)) C1 ∧ f1 0 = w.toInt64) ∨ (k = 1 ∧ T_OP_count nd nt mwt mab mbe on1 ot2 lea mos x nNSE ∧ C1 = C0))) 8 48 (fun q => xr b 219 q ∨ q = o) := by
  obtain ⟨wt, ab, be, fr, tt, le, mo, nf, tr, nm, fy, fb, k, im, hm, S, I, P, pt, ap, fa, wh, st, hX, -⟩ := id hM
  refine va_MetW (cc := b_LA_count) (maxL := 4) (ret := (some FieldType.int)) (by decide) rfl ?_
  intro p e s m args below meth c s₁ B hml hv
  obtain ⟨hav, hP, hO, hK, hE⟩ := hv
  have hx := B.exec
  have hb := B.bytes
  have hr := B.returns
  have hts := atoms_spec (ws := k_LA_count :: gw) B.pre
  have hown : s.vm.findClass "OrderPassingLaw" = some m.cls := findClass_of_methodNamed B.named
  have hlocks := B.notSynchronized
  have htab := bodyTab B (hts _ List.mem_cons_self)
  have hN : nCh s.heap s.heap := va_S.rf
  have hol : o < s.heap.size := (Array.getElem?_eq_some_iff.mp hO).1
  have hl := lv_entry ([.ref (b + 0), .int x, .ref o]) (n := 4) (Nat.le_of_ble_eq_true rfl)
  rw [hav, lg_entry_eq]
  generalize (lg_sl ([.ref (b + 0), .int x, .ref o]) ++ List.replicate (4 - (lg_sl ([.ref (b + 0), .int x, .ref o])).length) Slot.unset).toArray = ls at hl ⊢
  have hl : lv_has ls 4 [(0, .ref (b + 0)), (1, .int x), (2, .ref o)] := hl
  rw [← hav]
  refine lv_aload_n hx hb d_LA_count_0 rfl (lv_at hl 2 rfl) ?_
  refine lv_iconst (v := nI 0) hx hb d_LA_count_1 (by decide) ?_
  refine lv_aload_n hx hb d_LA_count_2 rfl (lv_at hl 0 rfl) ?_
  refine lv_iload_n hx hb d_LA_count_3 rfl (lv_at hl 1 rfl) ?_
  refine xh_call1 (X1 := nNSE) (thr := T_OP_count nd nt mwt mab mbe on1 ot2 lea mos x) (tm_V (As := [.int x]) (rest := [.int (nI 0), .ref o]) (g := F0 m 4 ls [.int x, .ref (b + 0), .int (nI 0), .ref o]) ⟨hx, hb, hml, hown, hts⟩ (c_OP_count l hst D ca b _ x hM hH) (cwV 1 hts (gi_V km_OP_count tb_584 tb_585 tb_586 tb_1) rfl rfl rfl (by decide +kernel) ⟨by decide, by decide⟩) ⟨tPc_blind, va_recv hK hP rfl (wl_at (XS_0 hX) (by decide)), fun U hU hW => ⟨rfl, by rw [hU]; exact hP, va_K.moved hW.alike hK, hN.E hU hW hE⟩⟩ rfl rfl hl.1 rfl (Nat.le_of_ble_eq_true rfl) d_LA_count_4 ⟨by decide, by decide⟩) hown hE htab ⟨by decide, by decide⟩ (by decide) (hts _ (mw tb_374)) (by decide) (fun X h => h.1) (fun v C1 H locs hp hP hS => ?_) (fun xa H locs ht hN hL => ?_)
  · have hO : H[o]? = some (outc ca f) := (hS.2.1 o hol ho).trans hO
    have hS2 : va_S (fun q => xr b 219 q ∨ q = o) s.heap H locs := ⟨hS.1, fun q h1 h2 => hS.2.1 q h1 (fun z => h2 (Or.inl z)), fun l hl => Or.inl (hS.2.2 l hl)⟩
    obtain ⟨w, rfl⟩ : ∃ w : Int32, v = some (.int w) := by obtain ⟨_, -, -, h, -⟩ := hp; exact ⟨_, h⟩
    refine lv_i2l (v := w.toInt64) hx hb d_LA_count_7 rfl ?_
    refine xh_last hx hb hK hP hO ho (Or.inr rfl) hS2 d_LA_count_8 (fun H locs hP hO hS2 => ?_)
    refine lv_goto (tgt := 15) hx hb d_LA_count_9 (by decide) ?_
    refine lv_iconst (v := nI 0) hx hb d_LA_count_15 (by decide) ?_
    exact W.iret hx hb hr (fun t ht _ => ⟨⟨0, C1, _, rfl, Or.inl ⟨rfl, w, hp, rfl⟩, by rw [ht]; exact hP, by rw [ht]; exact hO⟩, hS2.F ht⟩) hS2.2.2 d_LA_count_16
  · have hO : H[o]? = some (outc ca f) := (hN.2.1 o hol (fun z => z)).trans hO
    have hS2 : va_S (fun q => xr b 219 q ∨ q = o) s.heap H locs := ⟨hN.1, fun q h1 _ => hN.2.1 q h1 (fun z => z), fun l hl => Or.inl (hL l hl)⟩
    refine lv_astore_n (lv' := [(3, .ref xa), (0, .ref (b + 0)), (1, .int x), (2, .ref o)]) hx hb d_LA_count_12 rfl hl (by decide) rfl (fun ls hl => ?_)
    refine lv_iconst (v := nI 1) hx hb d_LA_count_13 (by decide) ?_
    exact W.iret hx hb hr (fun t ht9 _ => ⟨⟨1, C0, f, rfl, Or.inr ⟨rfl, ht, rfl⟩, by rw [ht9]; exact hN.P hP, by rw [ht9]; exact hO⟩, hS2.F ht9⟩) hS2.2.2 d_LA_count_14

