/-! Dates: contracts -/
theorem nzB (x : Bool) : narrow .boolean (.int (nI x.toNat)) = .int (nI x.toNat) := by cases x <;> decide
section XD
variable {p : Program} {l : Launch} {e : Env} {R : Room} {s : State} {m : MethodId} {args : Array Value} {below : List Frame} {meth : Method} {c : Code} {H : Heap} {locs : List Loc} {cells slots : Nat} {Q : State → Prop}
variable {cc : ByteArray} {pc : Nat} {ls : Array Slot} {rest : List Value} {D : va_G} {cl : List vw_C} {tys : List (ClassId × FieldType)} {b N : Nat} {C : Nat → va_E}
theorem xw_aalA (hexec : p.tables.exec = Jvm.exec) (hb : c.code = cc) (hK : va_K D cl tys s) (hP : va_P D cl (wl b N C) H) (t0 : Nat) {k n j : Nat} {cA : ClassId} {t : FieldType} {f : Nat → Option Nat} (hC : C k = .inl (cA, n, .inr (.inr (.inr (.inr f))))) (hk : k < N) (ht : tys[t0]? = some (cA, .array t)) (hj : j < n) (hn : n < 2 ^ 31) {q : Nat} (hq : f j = some q) (hdg : decode cc pc = .ok (.aaload, 1))
    (kk : W p l e R s m args below meth c H locs cells slots Q (F0 m (pc + 1) ls (.ref q :: rest))) : W p l e R s m args below meth c H locs cells slots Q (F0 m pc ls (.int (nI j) :: .ref (b + k) :: rest)) := by
  have hcell : H[b + k]? = some (arrV cA n (fun i => va_rf (f i))) := hP k _ (wl_at hC hk)
  have hcl : (nI j).toNatClampNeg = j := nI_clamp (by omega)
  refine W.aald (v := .ref q) (ty := .array t) (g := F0 m pc ls (.int (nI j) :: .ref (b + k) :: rest)) hexec hb hcell ((hK.2 t0 _ ht).1 n (fun i => va_rf (f i))) rfl (fun h => by cases h) ?_ ?_ rfl rfl hdg kk
  · rw [arrV_size]; exact vp_in_nI hj hn
  · rw [hcl, arrV_read _ _ hj, hq]; rfl
theorem xw_aret {v : Nat} {C : Nat → va_E} {post : Option Value → (Nat → va_E) → Prop} {G : String} (hexec : p.tables.exec = Jvm.exec) (hb : c.code = cc) (hr : meth.sig.returnType = some (.object G)) (hlocks : meth.locks = false) (hP : va_P D classes (wl b N C) H) (hS : va_S (xr b N) s.heap H locs) (hq : post (some (.ref v)) C) (hdg : decode cc pc = .ok (.areturn, 1)) : W p l e R s m args below meth c H locs cells slots (MQ below (xQ D b N post) args s cells slots (xr b N)) (F0 m pc ls [.ref v]) :=
  W.aret hexec hb hr (Or.inl ⟨_, rfl⟩) (Or.inr ⟨_, rfl⟩) (fun t ht _ => ⟨⟨_, C, rfl, hq, by rw [ht]; exact hP⟩, hS.F ht⟩) hS.2.2 hdg
end XD
set_option maxHeartbeats 4000000 in
set_option maxRecDepth 100000 in
/-- number of dates -/
theorem c_DA_number (l : Launch) (D : va_G) (ca : Nat → ClassId) (b : Nat) (C0 : Nat → va_E) {wt : Nat → Nat → Nat} {ab : Nat → Nat} {be : Nat → Nat} {nd : Nat} {fr : Nat → Nat} {tt : Nat → Option Nat} {le : Nat → Nat} {mo : Nat → Nat} {nf : Nat → Bool} {tr : Nat → Nat} {nt : Nat} {nm : Nat} {fy : Nat → Option Nat} {fb : Nat → Option Nat} {od : Nat → Nat} {pa : Nat → Option Nat} {rp : Nat → Option Nat} {se : Nat → Bool} {im : Nat → Bool} {qd : Nat} {hm : Nat} {gv : Nat → Nat}  (hX : XS ca b C0 wt ab be nd fr tt le mo nf tr nt nm fy fb od pa rp se im qd hm gv)  : Met l y_DA_number (k_DA_number :: gw) ({ frames := 1, cells := 0, slots := 0, locals := 12 }) (xPc D ca b 219 C0 [.ref (b + 1)]) (xQ D b 219 (fun r C1 => r = some (.int (nI nd)) ∧ XS ca b C1 wt ab be nd fr tt le mo nf tr nt nm fy fb od pa rp se im qd hm gv)) 0 0 (xr b 219) := by
  refine Met.ofW (cc := b_DA_number) (maxL := 1) (ret := (some FieldType.int)) (by decide) rfl ?_
  intro p e s m args below meth c s₁ B hml hv
  obtain ⟨hav, hP, hK⟩ := hv
  have hx := B.exec
  have hb := B.bytes
  have hr := B.returns
  have hts := atoms_spec (ws := k_DA_number :: gw) B.pre
  have hown : s.vm.findClass R_DA = some m.cls := findClass_of_methodNamed B.named
  have hlocks := B.notSynchronized
  have hA : ∀ k, k < 219 → xr b 219 (b + k) := xr_in
  have hS : va_S (xr b 219) s.heap s.heap [] := va_S.rf
  have hl := lv_entry ([.ref (b + 1)]) (n := 1) (Nat.le_of_ble_eq_true rfl)
  rw [hav, lg_entry_eq]
  generalize (lg_sl ([.ref (b + 1)]) ++ List.replicate (1 - (lg_sl ([.ref (b + 1)])).length) Slot.unset).toArray = ls at hl ⊢
  have hl : lv_has ls 1 [(0, .ref (b + 1))] := hl
  rw [← hav]
  refine lv_aload_n hx hb d_DA_number_0 rfl (lv_at hl 0 rfl) ?_
  refine xw_get (v := .int (nI nd)) hx hb hts (fun w h => mw (uw_DA w h)) hown hK hP (XS_1 hX) (by decide) rfl 3 (by decide) (hts _ (mw tb_34)) (fun _ h => h) rfl d_DA_number_1 ?_
  exact xw_iret hx hb hr hlocks hP hS ⟨rfl, hX⟩ d_DA_number_4

set_option maxHeartbeats 4000000 in
set_option maxRecDepth 100000 in
/-- a date is opened -/
theorem c_DA_open (l : Launch) (D : va_G) (ca : Nat → ClassId) (b : Nat) (C0 : Nat → va_E) {wt : Nat → Nat → Nat} {ab : Nat → Nat} {be : Nat → Nat} {nd : Nat} {fr : Nat → Nat} {tt : Nat → Option Nat} {le : Nat → Nat} {mo : Nat → Nat} {nf : Nat → Bool} {tr : Nat → Nat} {nt : Nat} {nm : Nat} {fy : Nat → Option Nat} {fb : Nat → Option Nat} {od : Nat → Nat} {pa : Nat → Option Nat} {rp : Nat → Option Nat} {se : Nat → Bool} {im : Nat → Bool} {qd : Nat} {hm : Nat} {gv : Nat → Nat}  (hX : XS ca b C0 wt ab be nd fr tt le mo nf tr nt nm fy fb od pa rp se im qd hm gv) (hnd : nd < 6) : Met l y_DA_open (k_DA_open :: gw) ({ frames := 1, cells := 0, slots := 0, locals := 12 }) (xPc D ca b 219 C0 [.ref (b + 1)]) (xQ D b 219 (fun r C1 => r = some (.int (nI nd)) ∧ XS ca b C1 wt ab (va_up be nd 1) (nd + 1) fr tt le mo nf tr nt nm fy fb od pa rp se im qd hm gv)) 0 0 (xr b 219) := by
  refine Met.ofW (cc := b_DA_open) (maxL := 1) (ret := (some FieldType.int)) (by decide) rfl ?_
  intro p e s m args below meth c s₁ B hml hv
  obtain ⟨hav, hP, hK⟩ := hv
  have hx := B.exec
  have hb := B.bytes
  have hr := B.returns
  have hts := atoms_spec (ws := k_DA_open :: gw) B.pre
  have hown : s.vm.findClass R_DA = some m.cls := findClass_of_methodNamed B.named
  have hlocks := B.notSynchronized
  have hA : ∀ k, k < 219 → xr b 219 (b + k) := xr_in
  have hS : va_S (xr b 219) s.heap s.heap [] := va_S.rf
  have hl := lv_entry ([.ref (b + 1)]) (n := 1) (Nat.le_of_ble_eq_true rfl)
  rw [hav, lg_entry_eq]
  generalize (lg_sl ([.ref (b + 1)]) ++ List.replicate (1 - (lg_sl ([.ref (b + 1)])).length) Slot.unset).toArray = ls at hl ⊢
  have hl : lv_has ls 1 [(0, .ref (b + 1))] := hl
  rw [← hav]
  refine lv_aload_n hx hb d_DA_open_0 rfl (lv_at hl 0 rfl) ?_
  refine xw_get (v := .int (nI nd)) hx hb hts (fun w h => mw (uw_DA w h)) hown hK hP (XS_1 hX) (by decide) rfl 3 (by decide) (hts _ (mw tb_34)) (fun _ h => h) rfl d_DA_open_1 ?_
  refine lv_bipush (v := nI 6) hx hb d_DA_open_4 (by decide) ?_
  refine xi_lt (tgt := 11) hx hb d_DA_open_6 (by decide) (by omega) (by omega) (fun h6 => ?_) (fun h6 => ?_)
  · skip
    refine lv_aload_n hx hb d_DA_open_11 rfl (lv_at hl 0 rfl) ?_
    refine xw_get (v := .ref (b + 10)) hx hb hts (fun w h => mw (uw_DA w h)) hown hK hP (XS_1 hX) (by decide) rfl 2 (by decide) (hts _ (mw tb_33)) (fun _ h => h) rfl d_DA_open_12 ?_
    refine lv_aload_n hx hb d_DA_open_15 rfl (lv_at hl 0 rfl) ?_
    refine xw_get (v := .int (nI nd)) hx hb hts (fun w h => mw (uw_DA w h)) hown hK hP (XS_1 hX) (by decide) rfl 3 (by decide) (hts _ (mw tb_34)) (fun _ h => h) rfl d_DA_open_16 ?_
    refine lv_iconst (v := nI 1) hx hb d_DA_open_19 (by decide) ?_
    refine xw_iast hx hb hK hP hA hS 0 (XS_10 hX) (by decide) rfl (by omega) (by decide) d_DA_open_20 (fun H locs hP hS => ?_)
    have hX := XS_set_be (j := nd) (x := 1) hX
    generalize va_up _ 10 _ = C at hP hX
    refine lv_aload_n hx hb d_DA_open_21 rfl (lv_at hl 0 rfl) ?_
    refine lv_dup hx hb d_DA_open_22 rfl ?_
    refine xw_get (v := .int (nI nd)) hx hb hts (fun w h => mw (uw_DA w h)) hown hK hP (XS_1 hX) (by decide) rfl 3 (by decide) (hts _ (mw tb_34)) (fun _ h => h) rfl d_DA_open_23 ?_
    refine lv_iconst (v := nI 1) hx hb d_DA_open_26 (by decide) ?_
    refine lv_iadd hx hb d_DA_open_27 ?_
    refine ti (nI (nd + 1)) (nI_add _ _) ?_
    refine xw_put (v := .int (nI (nd + 1))) (ty := t_DA 3) hx hb hts (fun w h => mw (uw_DA w h)) t_DA t_DA_ok n_DA hown hK hP hA hS (XS_1 hX) (by decide) rfl 3 (by decide) (hts _ (mw tb_34)) (fun _ h => h) rfl (by decide +kernel) rfl rfl (Nat.le_of_ble_eq_true rfl) d_DA_open_28 (fun H locs hP hS => ?_)
    have hX := XS_set_nd (x1 := nd + 1) hX
    generalize va_up _ 1 _ = C at hP hX
    refine lv_aload_n hx hb d_DA_open_31 rfl (lv_at hl 0 rfl) ?_
    refine xw_get (v := .int (nI (nd + 1))) hx hb hts (fun w h => mw (uw_DA w h)) hown hK hP (XS_1 hX) (by decide) rfl 3 (by decide) (hts _ (mw tb_34)) (fun _ h => h) rfl d_DA_open_32 ?_
    refine lv_iconst (v := nI 1) hx hb d_DA_open_35 (by decide) ?_
    refine lv_isub hx hb d_DA_open_36 ?_
    refine ti (nI ((nd + 1) - 1)) (pk_sub (by omega)) ?_
    exact xw_iret hx hb hr hlocks hP hS ⟨rfl, hX⟩ d_DA_open_37
  · skip
    exact absurd h6 (by omega)

set_option maxHeartbeats 4000000 in
set_option maxRecDepth 100000 in
/-- a weight is changed -/
theorem c_DA_changeWeight (l : Launch) (D : va_G) (ca : Nat → ClassId) (b : Nat) (C0 : Nat → va_E) {wt : Nat → Nat → Nat} {ab : Nat → Nat} {be : Nat → Nat} {nd : Nat} {fr : Nat → Nat} {tt : Nat → Option Nat} {le : Nat → Nat} {mo : Nat → Nat} {nf : Nat → Bool} {tr : Nat → Nat} {nt : Nat} {nm : Nat} {fy : Nat → Option Nat} {fb : Nat → Option Nat} {od : Nat → Nat} {pa : Nat → Option Nat} {rp : Nat → Option Nat} {se : Nat → Bool} {im : Nat → Bool} {qd : Nat} {hm : Nat} {gv : Nat → Nat} (d y x : Nat) (hX : XS ca b C0 wt ab be nd fr tt le mo nf tr nt nm fy fb od pa rp se im qd hm gv) (hd : d < 6) (hy : y < 12) : Met l y_DA_changeWeight (k_DA_changeWeight :: gw) ({ frames := 1, cells := 0, slots := 0, locals := 12 }) (xPc D ca b 219 C0 [.ref (b + 1), .int (nI d), .int (nI y), .int (nI x)]) (xQ D b 219 (fun r C1 => r = some (.int (nI (wt d y))) ∧ XS ca b C1 (va_up wt d (va_up (wt d) y x)) ab be nd fr tt le mo nf tr nt nm fy fb od pa rp se im qd hm gv)) 0 0 (xr b 219) := by
  refine Met.ofW (cc := b_DA_changeWeight) (maxL := 5) (ret := (some FieldType.int)) (by decide) rfl ?_
  intro p e s m args below meth c s₁ B hml hv
  obtain ⟨hav, hP, hK⟩ := hv
  have hx := B.exec
  have hb := B.bytes
  have hr := B.returns
  have hts := atoms_spec (ws := k_DA_changeWeight :: gw) B.pre
  have hown : s.vm.findClass R_DA = some m.cls := findClass_of_methodNamed B.named
  have hlocks := B.notSynchronized
  have hA : ∀ k, k < 219 → xr b 219 (b + k) := xr_in
  have hS : va_S (xr b 219) s.heap s.heap [] := va_S.rf
  have hl := lv_entry ([.ref (b + 1), .int (nI d), .int (nI y), .int (nI x)]) (n := 5) (Nat.le_of_ble_eq_true rfl)
  rw [hav, lg_entry_eq]
  generalize (lg_sl ([.ref (b + 1), .int (nI d), .int (nI y), .int (nI x)]) ++ List.replicate (5 - (lg_sl ([.ref (b + 1), .int (nI d), .int (nI y), .int (nI x)])).length) Slot.unset).toArray = ls at hl ⊢
  have hl : lv_has ls 5 [(0, .ref (b + 1)), (1, .int (nI d)), (2, .int (nI y)), (3, .int (nI x))] := hl
  rw [← hav]
  refine lv_aload_n hx hb d_DA_changeWeight_0 rfl (lv_at hl 0 rfl) ?_
  refine xw_get (v := .ref (b + 2)) hx hb hts (fun w h => mw (uw_DA w h)) hown hK hP (XS_1 hX) (by decide) rfl 0 (by decide) (hts _ (mw tb_31)) (fun _ h => h) rfl d_DA_changeWeight_1 ?_
  refine lv_iload_n hx hb d_DA_changeWeight_4 rfl (lv_at hl 1 rfl) ?_
  refine xw_aalA (q := b + (3 + d)) hx hb hK hP 4 (XS_2 hX) (by decide) rfl (by omega) (by decide) rfl d_DA_changeWeight_5 ?_
  refine lv_iload_n hx hb d_DA_changeWeight_6 rfl (lv_at hl 2 rfl) ?_
  refine xw_iald hx hb hK hP 0 (XS_w hX d (by omega)) (by omega) rfl (by omega) (by decide) d_DA_changeWeight_7 ?_
  refine lv_istore (lv' := [(4, .int (nI (wt d y))), (0, .ref (b + 1)), (1, .int (nI d)), (2, .int (nI y)), (3, .int (nI x))]) hx hb d_DA_changeWeight_8 hl (by decide) rfl (fun ls hl => ?_)
  refine lv_aload_n hx hb d_DA_changeWeight_10 rfl (lv_at hl 1 rfl) ?_
  refine xw_get (v := .ref (b + 2)) hx hb hts (fun w h => mw (uw_DA w h)) hown hK hP (XS_1 hX) (by decide) rfl 0 (by decide) (hts _ (mw tb_31)) (fun _ h => h) rfl d_DA_changeWeight_11 ?_
  refine lv_iload_n hx hb d_DA_changeWeight_14 rfl (lv_at hl 2 rfl) ?_
  refine xw_aalA (q := b + (3 + d)) hx hb hK hP 4 (XS_2 hX) (by decide) rfl (by omega) (by decide) rfl d_DA_changeWeight_15 ?_
  refine lv_iload_n hx hb d_DA_changeWeight_16 rfl (lv_at hl 3 rfl) ?_
  refine lv_iload_n hx hb d_DA_changeWeight_17 rfl (lv_at hl 4 rfl) ?_
  refine xw_iast hx hb hK hP hA hS 0 (XS_w hX d (by omega)) (by omega) rfl (by omega) (by decide) d_DA_changeWeight_18 (fun H locs hP hS => ?_)
  have hX := XS_set_wt (d := d) (j := y) (x := x) (by omega) hX
  generalize va_up _ (3 + d) _ = C at hP hX
  refine lv_iload hx hb d_DA_changeWeight_19 (lv_at hl 0 rfl) ?_
  exact xw_iret hx hb hr hlocks hP hS ⟨rfl, hX⟩ d_DA_changeWeight_21

set_option maxHeartbeats 4000000 in
set_option maxRecDepth 100000 in
/-- a share is changed -/
theorem c_DA_changeShare (l : Launch) (D : va_G) (ca : Nat → ClassId) (b : Nat) (C0 : Nat → va_E) {wt : Nat → Nat → Nat} {ab : Nat → Nat} {be : Nat → Nat} {nd : Nat} {fr : Nat → Nat} {tt : Nat → Option Nat} {le : Nat → Nat} {mo : Nat → Nat} {nf : Nat → Bool} {tr : Nat → Nat} {nt : Nat} {nm : Nat} {fy : Nat → Option Nat} {fb : Nat → Option Nat} {od : Nat → Nat} {pa : Nat → Option Nat} {rp : Nat → Option Nat} {se : Nat → Bool} {im : Nat → Bool} {qd : Nat} {hm : Nat} {gv : Nat → Nat} (d x y : Nat) (hX : XS ca b C0 wt ab be nd fr tt le mo nf tr nt nm fy fb od pa rp se im qd hm gv) (hd : d < 6) : Met l y_DA_changeShare (k_DA_changeShare :: gw) ({ frames := 1, cells := 0, slots := 0, locals := 12 }) (xPc D ca b 219 C0 [.ref (b + 1), .int (nI d), .int (nI x), .int (nI y)]) (xQ D b 219 (fun r C1 => r = none ∧ XS ca b C1 wt (va_up ab d x) (va_up be d y) nd fr tt le mo nf tr nt nm fy fb od pa rp se im qd hm gv)) 0 0 (xr b 219) := by
  refine Met.ofW (cc := b_DA_changeShare) (maxL := 4) (ret := none) (by decide) rfl ?_
  intro p e s m args below meth c s₁ B hml hv
  obtain ⟨hav, hP, hK⟩ := hv
  have hx := B.exec
  have hb := B.bytes
  have hr := B.returns
  have hts := atoms_spec (ws := k_DA_changeShare :: gw) B.pre
  have hown : s.vm.findClass R_DA = some m.cls := findClass_of_methodNamed B.named
  have hlocks := B.notSynchronized
  have hA : ∀ k, k < 219 → xr b 219 (b + k) := xr_in
  have hS : va_S (xr b 219) s.heap s.heap [] := va_S.rf
  have hl := lv_entry ([.ref (b + 1), .int (nI d), .int (nI x), .int (nI y)]) (n := 4) (Nat.le_of_ble_eq_true rfl)
  rw [hav, lg_entry_eq]
  generalize (lg_sl ([.ref (b + 1), .int (nI d), .int (nI x), .int (nI y)]) ++ List.replicate (4 - (lg_sl ([.ref (b + 1), .int (nI d), .int (nI x), .int (nI y)])).length) Slot.unset).toArray = ls at hl ⊢
  have hl : lv_has ls 4 [(0, .ref (b + 1)), (1, .int (nI d)), (2, .int (nI x)), (3, .int (nI y))] := hl
  rw [← hav]
  refine lv_aload_n hx hb d_DA_changeShare_0 rfl (lv_at hl 0 rfl) ?_
  refine xw_get (v := .ref (b + 9)) hx hb hts (fun w h => mw (uw_DA w h)) hown hK hP (XS_1 hX) (by decide) rfl 1 (by decide) (hts _ (mw tb_32)) (fun _ h => h) rfl d_DA_changeShare_1 ?_
  refine lv_iload_n hx hb d_DA_changeShare_4 rfl (lv_at hl 1 rfl) ?_
  refine lv_iload_n hx hb d_DA_changeShare_5 rfl (lv_at hl 2 rfl) ?_
  refine xw_iast hx hb hK hP hA hS 0 (XS_9 hX) (by decide) rfl (by omega) (by decide) d_DA_changeShare_6 (fun H locs hP hS => ?_)
  have hX := XS_set_ab (j := d) (x := x) hX
  generalize va_up _ 9 _ = C at hP hX
  refine lv_aload_n hx hb d_DA_changeShare_7 rfl (lv_at hl 0 rfl) ?_
  refine xw_get (v := .ref (b + 10)) hx hb hts (fun w h => mw (uw_DA w h)) hown hK hP (XS_1 hX) (by decide) rfl 2 (by decide) (hts _ (mw tb_33)) (fun _ h => h) rfl d_DA_changeShare_8 ?_
  refine lv_iload_n hx hb d_DA_changeShare_11 rfl (lv_at hl 1 rfl) ?_
  refine lv_iload_n hx hb d_DA_changeShare_12 rfl (lv_at hl 3 rfl) ?_
  refine xw_iast hx hb hK hP hA hS 0 (XS_10 hX) (by decide) rfl (by omega) (by decide) d_DA_changeShare_13 (fun H locs hP hS => ?_)
  have hX := XS_set_be (j := d) (x := y) hX
  generalize va_up _ 10 _ = C at hP hX
  exact xw_vret hx hb hr hlocks hP hS ⟨rfl, hX⟩ d_DA_changeShare_14

set_option maxHeartbeats 4000000 in
set_option maxRecDepth 100000 in
/-- what a year counts for all shares but the outliers -/
theorem c_DA_inlying (l : Launch) (D : va_G) (ca : Nat → ClassId) (b : Nat) (C0 : Nat → va_E) {wt : Nat → Nat → Nat} {ab : Nat → Nat} {be : Nat → Nat} {nd : Nat} {fr : Nat → Nat} {tt : Nat → Option Nat} {le : Nat → Nat} {mo : Nat → Nat} {nf : Nat → Bool} {tr : Nat → Nat} {nt : Nat} {nm : Nat} {fy : Nat → Option Nat} {fb : Nat → Option Nat} {od : Nat → Nat} {pa : Nat → Option Nat} {rp : Nat → Option Nat} {se : Nat → Bool} {im : Nat → Bool} {qd : Nat} {hm : Nat} {gv : Nat → Nat} (d y : Nat) (hX : XS ca b C0 wt ab be nd fr tt le mo nf tr nt nm fy fb od pa rp se im qd hm gv) (hd : d < 6) (hy : y < 12) (hab : ab d ≤ be d) : Met l y_DA_inlying (k_DA_inlying :: gw) ({ frames := 1, cells := 0, slots := 0, locals := 12 }) (xPc D ca b 219 C0 [.ref (b + 1), .int (nI d), .int (nI y)]) (xQ D b 219 (fun r C1 => r = some (.int (nI ((be d - ab d) * 12 * wt d y))) ∧ XS ca b C1 wt ab be nd fr tt le mo nf tr nt nm fy fb od pa rp se im qd hm gv)) 0 0 (xr b 219) := by
  refine Met.ofW (cc := b_DA_inlying) (maxL := 3) (ret := (some FieldType.int)) (by decide) rfl ?_
  intro p e s m args below meth c s₁ B hml hv
  obtain ⟨hav, hP, hK⟩ := hv
  have hx := B.exec
  have hb := B.bytes
  have hr := B.returns
  have hts := atoms_spec (ws := k_DA_inlying :: gw) B.pre
  have hown : s.vm.findClass R_DA = some m.cls := findClass_of_methodNamed B.named
  have hlocks := B.notSynchronized
  have hA : ∀ k, k < 219 → xr b 219 (b + k) := xr_in
  have hS : va_S (xr b 219) s.heap s.heap [] := va_S.rf
  have hl := lv_entry ([.ref (b + 1), .int (nI d), .int (nI y)]) (n := 3) (Nat.le_of_ble_eq_true rfl)
  rw [hav, lg_entry_eq]
  generalize (lg_sl ([.ref (b + 1), .int (nI d), .int (nI y)]) ++ List.replicate (3 - (lg_sl ([.ref (b + 1), .int (nI d), .int (nI y)])).length) Slot.unset).toArray = ls at hl ⊢
  have hl : lv_has ls 3 [(0, .ref (b + 1)), (1, .int (nI d)), (2, .int (nI y))] := hl
  rw [← hav]
  refine lv_aload_n hx hb d_DA_inlying_0 rfl (lv_at hl 0 rfl) ?_
  refine xw_get (v := .ref (b + 10)) hx hb hts (fun w h => mw (uw_DA w h)) hown hK hP (XS_1 hX) (by decide) rfl 2 (by decide) (hts _ (mw tb_33)) (fun _ h => h) rfl d_DA_inlying_1 ?_
  refine lv_iload_n hx hb d_DA_inlying_4 rfl (lv_at hl 1 rfl) ?_
  refine xw_iald hx hb hK hP 0 (XS_10 hX) (by decide) rfl (by omega) (by decide) d_DA_inlying_5 ?_
  refine lv_aload_n hx hb d_DA_inlying_6 rfl (lv_at hl 0 rfl) ?_
  refine xw_get (v := .ref (b + 9)) hx hb hts (fun w h => mw (uw_DA w h)) hown hK hP (XS_1 hX) (by decide) rfl 1 (by decide) (hts _ (mw tb_32)) (fun _ h => h) rfl d_DA_inlying_7 ?_
  refine lv_iload_n hx hb d_DA_inlying_10 rfl (lv_at hl 1 rfl) ?_
  refine xw_iald hx hb hK hP 0 (XS_9 hX) (by decide) rfl (by omega) (by decide) d_DA_inlying_11 ?_
  refine lv_isub hx hb d_DA_inlying_12 ?_
  refine ti (nI ((be d) - (ab d))) (pk_sub (by omega)) ?_
  refine lv_bipush (v := nI 12) hx hb d_DA_inlying_13 (by decide) ?_
  refine lv_imul hx hb d_DA_inlying_15 ?_
  refine ti (nI (((be d) - (ab d)) * 12)) (pk_mul _ _) ?_
  refine lv_aload_n hx hb d_DA_inlying_16 rfl (lv_at hl 0 rfl) ?_
  refine xw_get (v := .ref (b + 2)) hx hb hts (fun w h => mw (uw_DA w h)) hown hK hP (XS_1 hX) (by decide) rfl 0 (by decide) (hts _ (mw tb_31)) (fun _ h => h) rfl d_DA_inlying_17 ?_
  refine lv_iload_n hx hb d_DA_inlying_20 rfl (lv_at hl 1 rfl) ?_
  refine xw_aalA (q := b + (3 + d)) hx hb hK hP 4 (XS_2 hX) (by decide) rfl (by omega) (by decide) rfl d_DA_inlying_21 ?_
  refine lv_iload_n hx hb d_DA_inlying_22 rfl (lv_at hl 2 rfl) ?_
  refine xw_iald hx hb hK hP 0 (XS_w hX d (by omega)) (by omega) rfl (by omega) (by decide) d_DA_inlying_23 ?_
  refine lv_imul hx hb d_DA_inlying_24 ?_
  refine ti (nI ((((be d) - (ab d)) * 12) * (wt d y))) (pk_mul _ _) ?_
  exact xw_iret hx hb hr hlocks hP hS ⟨rfl, hX⟩ d_DA_inlying_25

set_option maxHeartbeats 4000000 in
set_option maxRecDepth 100000 in
/-- what every year counts for the outliers -/
theorem c_DA_outlying (l : Launch) (D : va_G) (ca : Nat → ClassId) (b : Nat) (C0 : Nat → va_E) {wt : Nat → Nat → Nat} {ab : Nat → Nat} {be : Nat → Nat} {nd : Nat} {fr : Nat → Nat} {tt : Nat → Option Nat} {le : Nat → Nat} {mo : Nat → Nat} {nf : Nat → Bool} {tr : Nat → Nat} {nt : Nat} {nm : Nat} {fy : Nat → Option Nat} {fb : Nat → Option Nat} {od : Nat → Nat} {pa : Nat → Option Nat} {rp : Nat → Option Nat} {se : Nat → Bool} {im : Nat → Bool} {qd : Nat} {hm : Nat} {gv : Nat → Nat} (d : Nat) (hX : XS ca b C0 wt ab be nd fr tt le mo nf tr nt nm fy fb od pa rp se im qd hm gv) (hd : d < 6) : Met l y_DA_outlying (k_DA_outlying :: gw) ({ frames := 1, cells := 0, slots := 0, locals := 12 }) (xPc D ca b 219 C0 [.ref (b + 1), .int (nI d)]) (xQ D b 219 (fun r C1 => r = some (.int (nI (ab d * sm (wt d) 12))) ∧ XS ca b C1 wt ab be nd fr tt le mo nf tr nt nm fy fb od pa rp se im qd hm gv)) 0 0 (xr b 219) := by
  refine Met.ofW (cc := b_DA_outlying) (maxL := 4) (ret := (some FieldType.int)) (by decide) rfl ?_
  intro p e s m args below meth c s₁ B hml hv
  obtain ⟨hav, hP, hK⟩ := hv
  have hx := B.exec
  have hb := B.bytes
  have hr := B.returns
  have hts := atoms_spec (ws := k_DA_outlying :: gw) B.pre
  have hown : s.vm.findClass R_DA = some m.cls := findClass_of_methodNamed B.named
  have hlocks := B.notSynchronized
  have hA : ∀ k, k < 219 → xr b 219 (b + k) := xr_in
  have hS : va_S (xr b 219) s.heap s.heap [] := va_S.rf
  have hl := lv_entry ([.ref (b + 1), .int (nI d)]) (n := 4) (Nat.le_of_ble_eq_true rfl)
  rw [hav, lg_entry_eq]
  generalize (lg_sl ([.ref (b + 1), .int (nI d)]) ++ List.replicate (4 - (lg_sl ([.ref (b + 1), .int (nI d)])).length) Slot.unset).toArray = ls at hl ⊢
  have hl : lv_has ls 4 [(0, .ref (b + 1)), (1, .int (nI d))] := hl
  rw [← hav]
  refine lv_iconst (v := nI 0) hx hb d_DA_outlying_0 (by decide) ?_
  refine lv_istore_n (lv' := [(2, .int (nI 0)), (0, .ref (b + 1)), (1, .int (nI d))]) hx hb d_DA_outlying_1 rfl hl (by decide) rfl (fun ls hl => ?_)
  refine lv_iconst (v := nI 0) hx hb d_DA_outlying_2 (by decide) ?_
  refine lv_istore_n (lv' := [(3, .int (nI 0)), (2, .int (nI 0)), (0, .ref (b + 1)), (1, .int (nI d))]) hx hb d_DA_outlying_3 rfl hl (by decide) rfl (fun ls hl => ?_)
  have loop4 : ∀ (r : Nat) (i : Nat) (C : Nat → va_E) (H : Heap) (locs : List Loc) (ls : Array Slot), 12 < i + r → i ≤ 12 → va_P D classes (wl b 219 C) H → va_S (xr b 219) s.heap H locs → XS ca b C wt ab be nd fr tt le mo nf tr nt nm fy fb od pa rp se im qd hm gv → lv_has ls 4 [(0, .ref (b + 1)), (1, .int (nI d)), (2, .int (nI (sm (wt d) i))), (3, .int (nI i))] → W p l e (headSpec (k_DA_outlying :: gw) ({ frames := 1, cells := 0, slots := 0, locals := 12 })).room s m args below meth c H locs 0 0 (MQ below (xQ D b 219 (fun r C1 => r = some (.int (nI (ab d * sm (wt d) 12))) ∧ XS ca b C1 wt ab be nd fr tt le mo nf tr nt nm fy fb od pa rp se im qd hm gv)) args s 0 0 (xr b 219)) (F0 m 4 ls []) := by
    intro r
    induction r with
    | zero => intro i C H locs ls hm hi; exact absurd hm (by omega)
    | succ r ih4 =>
      intro i C H locs ls hm hi hP hS hX hl
      refine lv_iload_n hx hb d_DA_outlying_4 rfl (lv_at hl 3 rfl) ?_
      refine lv_bipush (v := nI 12) hx hb d_DA_outlying_5 (by decide) ?_
      refine xi_ge (tgt := 27) hx hb d_DA_outlying_7 (by decide) (by omega) (by omega) (fun h7 => ?_) (fun h7 => ?_)
      · skip
        have hi12 : i = 12 := by omega
        refine lv_aload_n hx hb d_DA_outlying_27 rfl (lv_at hl 0 rfl) ?_
        refine xw_get (v := .ref (b + 9)) hx hb hts (fun w h => mw (uw_DA w h)) hown hK hP (XS_1 hX) (by decide) rfl 1 (by decide) (hts _ (mw tb_32)) (fun _ h => h) rfl d_DA_outlying_28 ?_
        refine lv_iload_n hx hb d_DA_outlying_31 rfl (lv_at hl 1 rfl) ?_
        refine xw_iald hx hb hK hP 0 (XS_9 hX) (by decide) rfl (by omega) (by decide) d_DA_outlying_32 ?_
        refine lv_iload_n hx hb d_DA_outlying_33 rfl (lv_at hl 2 rfl) ?_
        refine lv_imul hx hb d_DA_outlying_34 ?_
        refine ti (nI ((ab d) * (sm (wt d) i))) (pk_mul _ _) ?_
        exact xw_iret hx hb hr hlocks hP hS ⟨by rw [hi12], hX⟩ d_DA_outlying_35
      · skip
        refine lv_iload_n hx hb d_DA_outlying_10 rfl (lv_at hl 2 rfl) ?_
        refine lv_aload_n hx hb d_DA_outlying_11 rfl (lv_at hl 0 rfl) ?_
        refine xw_get (v := .ref (b + 2)) hx hb hts (fun w h => mw (uw_DA w h)) hown hK hP (XS_1 hX) (by decide) rfl 0 (by decide) (hts _ (mw tb_31)) (fun _ h => h) rfl d_DA_outlying_12 ?_
        refine lv_iload_n hx hb d_DA_outlying_15 rfl (lv_at hl 1 rfl) ?_
        refine xw_aalA (q := b + (3 + d)) hx hb hK hP 4 (XS_2 hX) (by decide) rfl (by omega) (by decide) rfl d_DA_outlying_16 ?_
        refine lv_iload_n hx hb d_DA_outlying_17 rfl (lv_at hl 3 rfl) ?_
        refine xw_iald hx hb hK hP 0 (XS_w hX d (by omega)) (by omega) rfl (by omega) (by decide) d_DA_outlying_18 ?_
        refine lv_iadd hx hb d_DA_outlying_19 ?_
        refine ti (nI ((sm (wt d) i) + (wt d i))) (nI_add _ _) ?_
        refine lv_istore_n (lv' := [(2, .int (nI ((sm (wt d) i) + (wt d i)))), (0, .ref (b + 1)), (1, .int (nI d)), (3, .int (nI i))]) hx hb d_DA_outlying_20 rfl hl (by decide) rfl (fun ls hl => ?_)
        refine lv_iinc (v := nI (i + 1)) (lv' := [(3, .int (nI (i + 1))), (2, .int (nI ((sm (wt d) i) + (wt d i)))), (0, .ref (b + 1)), (1, .int (nI d))]) hx hb d_DA_outlying_21 hl (k := 3) rfl (show nI i + Int32.ofInt 1 = nI (i + 1) from nI_add _ _) (by decide) rfl (fun ls hl => ?_)
        refine lv_goto (tgt := 4) hx hb d_DA_outlying_24 (by decide) ?_
        exact ih4 (i + 1) _ _ _ _ (by omega) (by omega) hP hS hX (lv_sub hl [2, 3, 1, 0] rfl)
  exact loop4 13 0 _ _ _ _ (by omega) (by omega) hP hS hX (lv_sub hl [2, 3, 1, 0] rfl)

