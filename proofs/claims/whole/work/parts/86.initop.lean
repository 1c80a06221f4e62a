/-! An OrderPassing is made -/
theorem gvOf_0 (g : Nat) : gvOf (fun _ _ => 0) (fun _ => 0) (fun _ => 0) 0 0 0 0 0 g = 0 := by
  unfold gvOf
  repeat (first | rfl | split)
set_option maxHeartbeats 4000000 in
set_option maxRecDepth 100000 in
/-- an OrderPassing is made: no dates, nothing told -/
theorem c_OP_init (l : Launch) (D : va_G) (ca : Nat → ClassId) (b : Nat) (C0 : Nat → va_E) (h0 : C0 0 = .inr (0, [.null, .null, .null, .null, .null])) : Met l y_OP_init (k_OP_init :: gw) ({ frames := 3, cells := 218, slots := 1041, locals := 56 }) (nPc D ca b 1 C0 [.ref (b + 0)]) (nQ D b 219 (fun C1 => XM ca b C1 0 0 (fun _ => 0) (fun _ => 0) (fun _ => 0) (fun _ => 0) (fun _ => 0) (fun _ => 0) (fun _ => 0))) 218 1041 (fun q => b ≤ q) := by
  refine Met.ofW (cc := b_OP_init) (maxL := 1) (ret := none) (by decide) rfl ?_
  intro p e s m args below meth c s₁ B hml hv
  obtain ⟨hav, hP, hsz, hK, hZ⟩ := hv
  have hx := B.exec
  have hb := B.bytes
  have hr := B.returns
  have hts := atoms_spec (ws := k_OP_init :: gw) B.pre
  have hown : s.vm.findClass R_OP = some m.cls := findClass_of_methodNamed B.named
  have hlocks := B.notSynchronized
  have hin : meth.name = "<init>" := (name_of_methodNamed B.named B.method).1
  have hS : va_S (fun q => b ≤ q) s.heap s.heap [] := va_S.rf
  have hs0 : s.heap.size = b + 1 := hsz
  have hl := lv_entry ([.ref (b + 0)]) (n := 1) (Nat.le_of_ble_eq_true rfl)
  rw [hav, lg_entry_eq]
  generalize (lg_sl ([.ref (b + 0)]) ++ List.replicate (1 - (lg_sl ([.ref (b + 0)])).length) Slot.unset).toArray = ls at hl ⊢
  have hl : lv_has ls 1 [(0, .ref (b + 0))] := hl
  rw [← hav]
  refine lv_aload_n hx hb d_OP_init_0 rfl (lv_at hl 0 rfl) ?_
  refine W.objInit hx hb hown (hts _ (mw tb_20)) (hts _ (mw tb_21)) (hts _ (mw tb_22)) rfl (by rw [hml]; exact hl.1) rfl d_OP_init_1 (Nat.le_of_ble_eq_true rfl) (Nat.le_of_ble_eq_true rfl) ?_
  refine lv_aload_n hx hb d_OP_init_4 rfl (lv_at hl 0 rfl) ?_
  refine xw_new (n := 1) (ci := 1) (fs := [.null, .null, .null, .int (nI 0)]) hx hb hts (fun w h => mw (uw_DA w h)) t_DA t_DA_ok hown (hts _ (mw tb_23)) (hts _ (mw tb_24)) (hts _ (mw tb_2)) hK hP hS hsz rfl (by decide) (by decide) (by decide) d_OP_init_5 (fun H hP hsz hS => ?_)
  refine lv_dup hx hb d_OP_init_8 rfl ?_
  refine xc_IN (n1 := 11) (g0 := 1) hx hb hml hown hts (c_DA_init l D ca b _ 1 (va_up_self _ _ _)) km_DA_init hZ.1 tb_26 tb_2 rfl (by decide +kernel) rfl rfl ⟨by decide, by decide⟩ hK hZ hP hsz hl (Nat.le_of_ble_eq_true rfl) d_OP_init_9 ⟨by decide, by decide⟩ hS (fun Cm1 H locs hp hP hsz hS => ?_)
  have hCf : ∀ k, k < 1 → Cm1 k = C0 k := fun k hk => (hp.1 k hk).trans (va_up_ne _ _ (by omega))
  have h0 : Cm1 0 = .inr (0, [.null, .null, .null, .null, .null]) := (hCf 0 (by omega)).trans h0
  obtain ⟨-, e1, e2, er, e9, e10⟩ := hp
  have e1 : Cm1 1 = .inr (1, [.ref (b + 2), .ref (b + 9), .ref (b + 10), .int (nI 0)]) := e1
  have e2 : Cm1 2 = .inl (ca 4, 6, .inr (.inr (.inr (.inr (fun i => some (b + (3 + i))))))) := e2
  have er : ∀ i, i < 6 → Cm1 (3 + i) = .inl (ca 0, 12, .inl (fun _ => nI 0)) := er
  have e9 : Cm1 9 = .inl (ca 0, 6, .inl (fun _ => nI 0)) := e9
  have e10 : Cm1 10 = .inl (ca 0, 6, .inl (fun _ => nI 0)) := e10
  refine xw_putF (v := .ref (b + 1)) (ty := t_OP 0) hx hb hts (fun w h => mw (uw_OP w h)) t_OP t_OP_ok n_OP hown hK hP (fun k _ => Nat.le_add_right _ _) hS h0 (by omega) rfl 0 (by decide) (hts _ (mw tb_149)) (fun _ h => h) rfl hin rfl (by decide +kernel) rfl rfl (Nat.le_of_ble_eq_true rfl) d_OP_init_12 (fun H locs hP hS => ?_)
  generalize hCd : va_up Cm1 0 _ = Cp0 at hP
  have h0 : Cp0 0 = .inr (0, [.ref (b + 1), .null, .null, .null, .null]) := by rw [← hCd]; exact va_up_self _ _ _
  have hCf : ∀ k, k ≠ 0 → Cp0 k = Cm1 k := fun k hk => by rw [← hCd]; exact va_up_ne _ _ hk
  have e1 : Cp0 1 = .inr (1, [.ref (b + 2), .ref (b + 9), .ref (b + 10), .int (nI 0)]) := (hCf _ (by omega)).trans e1
  have e2 : Cp0 2 = .inl (ca 4, 6, .inr (.inr (.inr (.inr (fun i => some (b + (3 + i))))))) := (hCf _ (by omega)).trans e2
  have er : ∀ i, i < 6 → Cp0 (3 + i) = .inl (ca 0, 12, .inl (fun _ => nI 0)) := fun i hi => (hCf _ (by omega)).trans (er i hi)
  have e9 : Cp0 9 = .inl (ca 0, 6, .inl (fun _ => nI 0)) := (hCf _ (by omega)).trans e9
  have e10 : Cp0 10 = .inl (ca 0, 6, .inl (fun _ => nI 0)) := (hCf _ (by omega)).trans e10
  clear hCd
  refine lv_aload_n hx hb d_OP_init_15 rfl (lv_at hl 0 rfl) ?_
  refine xw_sz (n := 11) (by omega) hP (by omega) (fun hsz => ?_)
  refine xw_new (n := 11) (ci := 4) (fs := [.null, .null, .null, .null, .null, .null, .int (nI 0), .int (nI 0)]) hx hb hts (fun w h => mw (uw_TE w h)) t_TE t_TE_ok hown (hts _ (mw tb_45)) (hts _ (mw tb_46)) (hts _ (mw tb_3)) hK hP hS hsz rfl (by decide) (by decide) (by decide) d_OP_init_16 (fun H hP hsz hS => ?_)
  refine lv_dup hx hb d_OP_init_19 rfl ?_
  refine xc_IN (n1 := 18) (g0 := 11) hx hb hml hown hts (c_TE_init l D ca b _ 11 (va_up_self _ _ _)) km_TE_init hZ.2.1 tb_48 tb_3 rfl (by decide +kernel) rfl rfl ⟨by decide, by decide⟩ hK hZ hP hsz hl (Nat.le_of_ble_eq_true rfl) d_OP_init_20 ⟨by decide, by decide⟩ hS (fun Cm2 H locs hp hP hsz hS => ?_)
  have hCf : ∀ k, k < 11 → Cm2 k = Cp0 k := fun k hk => (hp.1 k hk).trans (va_up_ne _ _ (by omega))
  have h0 : Cm2 0 = .inr (0, [.ref (b + 1), .null, .null, .null, .null]) := (hCf 0 (by omega)).trans h0
  have e1 : Cm2 1 = .inr (1, [.ref (b + 2), .ref (b + 9), .ref (b + 10), .int (nI 0)]) := (hCf _ (by omega)).trans e1
  have e2 : Cm2 2 = .inl (ca 4, 6, .inr (.inr (.inr (.inr (fun i => some (b + (3 + i))))))) := (hCf _ (by omega)).trans e2
  have er : ∀ i, i < 6 → Cm2 (3 + i) = .inl (ca 0, 12, .inl (fun _ => nI 0)) := fun i hi => (hCf _ (by omega)).trans (er i hi)
  have e9 : Cm2 9 = .inl (ca 0, 6, .inl (fun _ => nI 0)) := (hCf _ (by omega)).trans e9
  have e10 : Cm2 10 = .inl (ca 0, 6, .inl (fun _ => nI 0)) := (hCf _ (by omega)).trans e10
  obtain ⟨-, f0, f1, f2, f3, f4, f5, f6⟩ := hp
  have f0 : Cm2 11 = .inr (4, [.ref (b + 12), .ref (b + 13), .ref (b + 14), .ref (b + 15), .ref (b + 16), .ref (b + 17), .int (nI 0), .int (nI 0)]) := f0
  have f1 : Cm2 12 = .inl (ca 0, 6, .inl (fun _ => nI 0)) := f1
  have f2 : Cm2 13 = .inl (ca 0, 6, .inl (fun _ => nI 0)) := f2
  have f3 : Cm2 14 = .inl (ca 0, 6, .inl (fun _ => nI 0)) := f3
  have f4 : Cm2 15 = .inl (ca 0, 6, .inl (fun _ => nI 0)) := f4
  have f5 : Cm2 16 = .inl (ca 2, 6, .inl (fun _ => nI 0)) := f5
  have f6 : Cm2 17 = .inl (ca 0, 6, .inl (fun _ => nI 0)) := f6
  refine xw_putF (v := .ref (b + 11)) (ty := t_OP 1) hx hb hts (fun w h => mw (uw_OP w h)) t_OP t_OP_ok n_OP hown hK hP (fun k _ => Nat.le_add_right _ _) hS h0 (by omega) rfl 1 (by decide) (hts _ (mw tb_150)) (fun _ h => h) rfl hin rfl (by decide +kernel) rfl rfl (Nat.le_of_ble_eq_true rfl) d_OP_init_23 (fun H locs hP hS => ?_)
  generalize hCd : va_up Cm2 0 _ = Cp1 at hP
  have h0 : Cp1 0 = .inr (0, [.ref (b + 1), .ref (b + 11), .null, .null, .null]) := by rw [← hCd]; exact va_up_self _ _ _
  have hCf : ∀ k, k ≠ 0 → Cp1 k = Cm2 k := fun k hk => by rw [← hCd]; exact va_up_ne _ _ hk
  have e1 : Cp1 1 = .inr (1, [.ref (b + 2), .ref (b + 9), .ref (b + 10), .int (nI 0)]) := (hCf _ (by omega)).trans e1
  have e2 : Cp1 2 = .inl (ca 4, 6, .inr (.inr (.inr (.inr (fun i => some (b + (3 + i))))))) := (hCf _ (by omega)).trans e2
  have er : ∀ i, i < 6 → Cp1 (3 + i) = .inl (ca 0, 12, .inl (fun _ => nI 0)) := fun i hi => (hCf _ (by omega)).trans (er i hi)
  have e9 : Cp1 9 = .inl (ca 0, 6, .inl (fun _ => nI 0)) := (hCf _ (by omega)).trans e9
  have e10 : Cp1 10 = .inl (ca 0, 6, .inl (fun _ => nI 0)) := (hCf _ (by omega)).trans e10
  have f0 : Cp1 11 = .inr (4, [.ref (b + 12), .ref (b + 13), .ref (b + 14), .ref (b + 15), .ref (b + 16), .ref (b + 17), .int (nI 0), .int (nI 0)]) := (hCf _ (by omega)).trans f0
  have f1 : Cp1 12 = .inl (ca 0, 6, .inl (fun _ => nI 0)) := (hCf _ (by omega)).trans f1
  have f2 : Cp1 13 = .inl (ca 0, 6, .inl (fun _ => nI 0)) := (hCf _ (by omega)).trans f2
  have f3 : Cp1 14 = .inl (ca 0, 6, .inl (fun _ => nI 0)) := (hCf _ (by omega)).trans f3
  have f4 : Cp1 15 = .inl (ca 0, 6, .inl (fun _ => nI 0)) := (hCf _ (by omega)).trans f4
  have f5 : Cp1 16 = .inl (ca 2, 6, .inl (fun _ => nI 0)) := (hCf _ (by omega)).trans f5
  have f6 : Cp1 17 = .inl (ca 0, 6, .inl (fun _ => nI 0)) := (hCf _ (by omega)).trans f6
  clear hCd
  refine lv_aload_n hx hb d_OP_init_26 rfl (lv_at hl 0 rfl) ?_
  refine xw_sz (n := 18) (by omega) hP (by omega) (fun hsz => ?_)
  refine xw_new (n := 18) (ci := 3) (fs := [.null, .null, .null, .null, .null, .null, .null, .null, .null, .null, .null, .null, .null, .int (nI 0), .int (nI 0)]) hx hb hts (fun w h => mw (uw_PA w h)) t_PA t_PA_ok hown (hts _ (mw tb_77)) (hts _ (mw tb_78)) (hts _ (mw tb_4)) hK hP hS hsz rfl (by decide) (by decide) (by decide) d_OP_init_27 (fun H hP hsz hS => ?_)
  refine lv_dup hx hb d_OP_init_30 rfl ?_
  refine xc_I (n1 := 215) (g0 := 18) hx hb hml hown hts (c_PA_init l D ca b _ 18 (va_up_self _ _ _)) km_PA_init tb_79 tb_80 tb_4 rfl (by decide +kernel) rfl rfl ⟨by decide, by decide⟩ hK hZ hP hsz hl (Nat.le_of_ble_eq_true rfl) d_OP_init_31 ⟨by decide, by decide⟩ hS (fun Cm3 H locs hp hP hsz hS => ?_)
  have hCf : ∀ k, k < 18 → Cm3 k = Cp1 k := fun k hk => (hp.1 k hk).trans (va_up_ne _ _ (by omega))
  have h0 : Cm3 0 = .inr (0, [.ref (b + 1), .ref (b + 11), .null, .null, .null]) := (hCf 0 (by omega)).trans h0
  have e1 : Cm3 1 = .inr (1, [.ref (b + 2), .ref (b + 9), .ref (b + 10), .int (nI 0)]) := (hCf _ (by omega)).trans e1
  have e2 : Cm3 2 = .inl (ca 4, 6, .inr (.inr (.inr (.inr (fun i => some (b + (3 + i))))))) := (hCf _ (by omega)).trans e2
  have er : ∀ i, i < 6 → Cm3 (3 + i) = .inl (ca 0, 12, .inl (fun _ => nI 0)) := fun i hi => (hCf _ (by omega)).trans (er i hi)
  have e9 : Cm3 9 = .inl (ca 0, 6, .inl (fun _ => nI 0)) := (hCf _ (by omega)).trans e9
  have e10 : Cm3 10 = .inl (ca 0, 6, .inl (fun _ => nI 0)) := (hCf _ (by omega)).trans e10
  have f0 : Cm3 11 = .inr (4, [.ref (b + 12), .ref (b + 13), .ref (b + 14), .ref (b + 15), .ref (b + 16), .ref (b + 17), .int (nI 0), .int (nI 0)]) := (hCf _ (by omega)).trans f0
  have f1 : Cm3 12 = .inl (ca 0, 6, .inl (fun _ => nI 0)) := (hCf _ (by omega)).trans f1
  have f2 : Cm3 13 = .inl (ca 0, 6, .inl (fun _ => nI 0)) := (hCf _ (by omega)).trans f2
  have f3 : Cm3 14 = .inl (ca 0, 6, .inl (fun _ => nI 0)) := (hCf _ (by omega)).trans f3
  have f4 : Cm3 15 = .inl (ca 0, 6, .inl (fun _ => nI 0)) := (hCf _ (by omega)).trans f4
  have f5 : Cm3 16 = .inl (ca 2, 6, .inl (fun _ => nI 0)) := (hCf _ (by omega)).trans f5
  have f6 : Cm3 17 = .inl (ca 0, 6, .inl (fun _ => nI 0)) := (hCf _ (by omega)).trans f6
  obtain ⟨-, p0, p1, p2, p3, p4, p6, p8, q10, q11, q12, q13, q14, q15, q16, z1, z2, z3⟩ := hp
  have p0 : Cm3 18 = .inr (3, [.ref (b + 19), .ref (b + 20), .ref (b + 21), .ref (b + 22), .ref (b + 24), .ref (b + 26), .ref (b + 28), .ref (b + 29), .ref (b + 30), .ref (b + 31), .ref (b + 32), .ref (b + 33), .ref (b + 34), .int (nI 0), .int (nI 0)]) := p0
  have p1 : Cm3 19 = .inl (ca 3, 72, .inr (.inr (.inr (.inr (fun j => some (b + (35 + 2 * j))))))) := p1
  have p2 : Cm3 20 = .inl (ca 3, 6, .inr (.inr (.inr (.inr (fun j => some (b + (179 + 2 * j))))))) := p2
  have p3 : Cm3 21 = .inl (ca 3, 12, .inr (.inr (.inr (.inr (fun j => some (b + (191 + 2 * j))))))) := p3
  have p4 : zG ca b Cm3 22 := p4
  have p6 : zG ca b Cm3 24 := p6
  have p8 : zG ca b Cm3 26 := p8
  have q10 : Cm3 28 = .inl (ca 0, 6, .inl (fun _ => eo none)) := q10
  have q11 : Cm3 29 = .inl (ca 0, 2, .inl (fun _ => eo none)) := q11
  have q12 : Cm3 30 = .inl (ca 0, 6, .inl (fun _ => nI 0)) := q12
  have q13 : Cm3 31 = .inl (ca 0, 6, .inl (fun _ => nI 0)) := q13
  have q14 : Cm3 32 = .inl (ca 0, 6, .inl (fun _ => nI 0)) := q14
  have q15 : Cm3 33 = .inl (ca 2, 6, .inl (fun _ => nI 0)) := q15
  have q16 : Cm3 34 = .inl (ca 2, 6, .inl (fun _ => nI 0)) := q16
  have z1 : ∀ j, j < 72 → zG ca b Cm3 (35 + 2 * j) := z1
  have z2 : ∀ j, j < 6 → zG ca b Cm3 (179 + 2 * j) := z2
  have z3 : ∀ j, j < 12 → zG ca b Cm3 (191 + 2 * j) := z3
  refine xw_putF (v := .ref (b + 18)) (ty := t_OP 2) hx hb hts (fun w h => mw (uw_OP w h)) t_OP t_OP_ok n_OP hown hK hP (fun k _ => Nat.le_add_right _ _) hS h0 (by omega) rfl 2 (by decide) (hts _ (mw tb_151)) (fun _ h => h) rfl hin rfl (by decide +kernel) rfl rfl (Nat.le_of_ble_eq_true rfl) d_OP_init_34 (fun H locs hP hS => ?_)
  generalize hCd : va_up Cm3 0 _ = Cp2 at hP
  have h0 : Cp2 0 = .inr (0, [.ref (b + 1), .ref (b + 11), .ref (b + 18), .null, .null]) := by rw [← hCd]; exact va_up_self _ _ _
  have hCf : ∀ k, k ≠ 0 → Cp2 k = Cm3 k := fun k hk => by rw [← hCd]; exact va_up_ne _ _ hk
  have e1 : Cp2 1 = .inr (1, [.ref (b + 2), .ref (b + 9), .ref (b + 10), .int (nI 0)]) := (hCf _ (by omega)).trans e1
  have e2 : Cp2 2 = .inl (ca 4, 6, .inr (.inr (.inr (.inr (fun i => some (b + (3 + i))))))) := (hCf _ (by omega)).trans e2
  have er : ∀ i, i < 6 → Cp2 (3 + i) = .inl (ca 0, 12, .inl (fun _ => nI 0)) := fun i hi => (hCf _ (by omega)).trans (er i hi)
  have e9 : Cp2 9 = .inl (ca 0, 6, .inl (fun _ => nI 0)) := (hCf _ (by omega)).trans e9
  have e10 : Cp2 10 = .inl (ca 0, 6, .inl (fun _ => nI 0)) := (hCf _ (by omega)).trans e10
  have f0 : Cp2 11 = .inr (4, [.ref (b + 12), .ref (b + 13), .ref (b + 14), .ref (b + 15), .ref (b + 16), .ref (b + 17), .int (nI 0), .int (nI 0)]) := (hCf _ (by omega)).trans f0
  have f1 : Cp2 12 = .inl (ca 0, 6, .inl (fun _ => nI 0)) := (hCf _ (by omega)).trans f1
  have f2 : Cp2 13 = .inl (ca 0, 6, .inl (fun _ => nI 0)) := (hCf _ (by omega)).trans f2
  have f3 : Cp2 14 = .inl (ca 0, 6, .inl (fun _ => nI 0)) := (hCf _ (by omega)).trans f3
  have f4 : Cp2 15 = .inl (ca 0, 6, .inl (fun _ => nI 0)) := (hCf _ (by omega)).trans f4
  have f5 : Cp2 16 = .inl (ca 2, 6, .inl (fun _ => nI 0)) := (hCf _ (by omega)).trans f5
  have f6 : Cp2 17 = .inl (ca 0, 6, .inl (fun _ => nI 0)) := (hCf _ (by omega)).trans f6
  have p0 : Cp2 18 = .inr (3, [.ref (b + 19), .ref (b + 20), .ref (b + 21), .ref (b + 22), .ref (b + 24), .ref (b + 26), .ref (b + 28), .ref (b + 29), .ref (b + 30), .ref (b + 31), .ref (b + 32), .ref (b + 33), .ref (b + 34), .int (nI 0), .int (nI 0)]) := (hCf _ (by omega)).trans p0
  have p1 : Cp2 19 = .inl (ca 3, 72, .inr (.inr (.inr (.inr (fun j => some (b + (35 + 2 * j))))))) := (hCf _ (by omega)).trans p1
  have p2 : Cp2 20 = .inl (ca 3, 6, .inr (.inr (.inr (.inr (fun j => some (b + (179 + 2 * j))))))) := (hCf _ (by omega)).trans p2
  have p3 : Cp2 21 = .inl (ca 3, 12, .inr (.inr (.inr (.inr (fun j => some (b + (191 + 2 * j))))))) := (hCf _ (by omega)).trans p3
  have p4 : zG ca b Cp2 22 := p4.fr (hCf _ (by omega)) (hCf _ (by omega))
  have p6 : zG ca b Cp2 24 := p6.fr (hCf _ (by omega)) (hCf _ (by omega))
  have p8 : zG ca b Cp2 26 := p8.fr (hCf _ (by omega)) (hCf _ (by omega))
  have q10 : Cp2 28 = .inl (ca 0, 6, .inl (fun _ => eo none)) := (hCf _ (by omega)).trans q10
  have q11 : Cp2 29 = .inl (ca 0, 2, .inl (fun _ => eo none)) := (hCf _ (by omega)).trans q11
  have q12 : Cp2 30 = .inl (ca 0, 6, .inl (fun _ => nI 0)) := (hCf _ (by omega)).trans q12
  have q13 : Cp2 31 = .inl (ca 0, 6, .inl (fun _ => nI 0)) := (hCf _ (by omega)).trans q13
  have q14 : Cp2 32 = .inl (ca 0, 6, .inl (fun _ => nI 0)) := (hCf _ (by omega)).trans q14
  have q15 : Cp2 33 = .inl (ca 2, 6, .inl (fun _ => nI 0)) := (hCf _ (by omega)).trans q15
  have q16 : Cp2 34 = .inl (ca 2, 6, .inl (fun _ => nI 0)) := (hCf _ (by omega)).trans q16
  have z1 : ∀ j, j < 72 → zG ca b Cp2 (35 + 2 * j) := fun j hj => (z1 j hj).fr (hCf _ (by omega)) (hCf _ (by omega))
  have z2 : ∀ j, j < 6 → zG ca b Cp2 (179 + 2 * j) := fun j hj => (z2 j hj).fr (hCf _ (by omega)) (hCf _ (by omega))
  have z3 : ∀ j, j < 12 → zG ca b Cp2 (191 + 2 * j) := fun j hj => (z3 j hj).fr (hCf _ (by omega)) (hCf _ (by omega))
  clear hCd
  refine lv_aload_n hx hb d_OP_init_37 rfl (lv_at hl 0 rfl) ?_
  refine xw_sz (n := 215) (by omega) hP (by omega) (fun hsz => ?_)
  refine xw_mkG hx hb hml hown hts tb_147 hZ.2.2.2.1 hK hZ hP hsz hl (Nat.le_of_ble_eq_true rfl) d_OP_init_38 d_OP_init_41 d_OP_init_42 (by decide) (by decide) ⟨by decide, by decide⟩ hS (fun Cg4 H locs hCf hzG hP hsz hS => ?_)
  have h0 : Cg4 0 = .inr (0, [.ref (b + 1), .ref (b + 11), .ref (b + 18), .null, .null]) := (hCf 0 (by omega)).trans h0
  have e1 : Cg4 1 = .inr (1, [.ref (b + 2), .ref (b + 9), .ref (b + 10), .int (nI 0)]) := (hCf _ (by omega)).trans e1
  have e2 : Cg4 2 = .inl (ca 4, 6, .inr (.inr (.inr (.inr (fun i => some (b + (3 + i))))))) := (hCf _ (by omega)).trans e2
  have er : ∀ i, i < 6 → Cg4 (3 + i) = .inl (ca 0, 12, .inl (fun _ => nI 0)) := fun i hi => (hCf _ (by omega)).trans (er i hi)
  have e9 : Cg4 9 = .inl (ca 0, 6, .inl (fun _ => nI 0)) := (hCf _ (by omega)).trans e9
  have e10 : Cg4 10 = .inl (ca 0, 6, .inl (fun _ => nI 0)) := (hCf _ (by omega)).trans e10
  have f0 : Cg4 11 = .inr (4, [.ref (b + 12), .ref (b + 13), .ref (b + 14), .ref (b + 15), .ref (b + 16), .ref (b + 17), .int (nI 0), .int (nI 0)]) := (hCf _ (by omega)).trans f0
  have f1 : Cg4 12 = .inl (ca 0, 6, .inl (fun _ => nI 0)) := (hCf _ (by omega)).trans f1
  have f2 : Cg4 13 = .inl (ca 0, 6, .inl (fun _ => nI 0)) := (hCf _ (by omega)).trans f2
  have f3 : Cg4 14 = .inl (ca 0, 6, .inl (fun _ => nI 0)) := (hCf _ (by omega)).trans f3
  have f4 : Cg4 15 = .inl (ca 0, 6, .inl (fun _ => nI 0)) := (hCf _ (by omega)).trans f4
  have f5 : Cg4 16 = .inl (ca 2, 6, .inl (fun _ => nI 0)) := (hCf _ (by omega)).trans f5
  have f6 : Cg4 17 = .inl (ca 0, 6, .inl (fun _ => nI 0)) := (hCf _ (by omega)).trans f6
  have p0 : Cg4 18 = .inr (3, [.ref (b + 19), .ref (b + 20), .ref (b + 21), .ref (b + 22), .ref (b + 24), .ref (b + 26), .ref (b + 28), .ref (b + 29), .ref (b + 30), .ref (b + 31), .ref (b + 32), .ref (b + 33), .ref (b + 34), .int (nI 0), .int (nI 0)]) := (hCf _ (by omega)).trans p0
  have p1 : Cg4 19 = .inl (ca 3, 72, .inr (.inr (.inr (.inr (fun j => some (b + (35 + 2 * j))))))) := (hCf _ (by omega)).trans p1
  have p2 : Cg4 20 = .inl (ca 3, 6, .inr (.inr (.inr (.inr (fun j => some (b + (179 + 2 * j))))))) := (hCf _ (by omega)).trans p2
  have p3 : Cg4 21 = .inl (ca 3, 12, .inr (.inr (.inr (.inr (fun j => some (b + (191 + 2 * j))))))) := (hCf _ (by omega)).trans p3
  have p4 : zG ca b Cg4 22 := p4.fr (hCf _ (by omega)) (hCf _ (by omega))
  have p6 : zG ca b Cg4 24 := p6.fr (hCf _ (by omega)) (hCf _ (by omega))
  have p8 : zG ca b Cg4 26 := p8.fr (hCf _ (by omega)) (hCf _ (by omega))
  have q10 : Cg4 28 = .inl (ca 0, 6, .inl (fun _ => eo none)) := (hCf _ (by omega)).trans q10
  have q11 : Cg4 29 = .inl (ca 0, 2, .inl (fun _ => eo none)) := (hCf _ (by omega)).trans q11
  have q12 : Cg4 30 = .inl (ca 0, 6, .inl (fun _ => nI 0)) := (hCf _ (by omega)).trans q12
  have q13 : Cg4 31 = .inl (ca 0, 6, .inl (fun _ => nI 0)) := (hCf _ (by omega)).trans q13
  have q14 : Cg4 32 = .inl (ca 0, 6, .inl (fun _ => nI 0)) := (hCf _ (by omega)).trans q14
  have q15 : Cg4 33 = .inl (ca 2, 6, .inl (fun _ => nI 0)) := (hCf _ (by omega)).trans q15
  have q16 : Cg4 34 = .inl (ca 2, 6, .inl (fun _ => nI 0)) := (hCf _ (by omega)).trans q16
  have z1 : ∀ j, j < 72 → zG ca b Cg4 (35 + 2 * j) := fun j hj => (z1 j hj).fr (hCf _ (by omega)) (hCf _ (by omega))
  have z2 : ∀ j, j < 6 → zG ca b Cg4 (179 + 2 * j) := fun j hj => (z2 j hj).fr (hCf _ (by omega)) (hCf _ (by omega))
  have z3 : ∀ j, j < 12 → zG ca b Cg4 (191 + 2 * j) := fun j hj => (z3 j hj).fr (hCf _ (by omega)) (hCf _ (by omega))
  have w4 : zG ca b Cg4 215 := hzG
  refine xw_putF (v := .ref (b + 215)) (ty := t_OP 3) hx hb hts (fun w h => mw (uw_OP w h)) t_OP t_OP_ok n_OP hown hK hP (fun k _ => Nat.le_add_right _ _) hS h0 (by omega) rfl 3 (by decide) (hts _ (mw tb_152)) (fun _ h => h) rfl hin rfl (by decide +kernel) rfl rfl (Nat.le_of_ble_eq_true rfl) d_OP_init_45 (fun H locs hP hS => ?_)
  generalize hCd : va_up Cg4 0 _ = Cp3 at hP
  have h0 : Cp3 0 = .inr (0, [.ref (b + 1), .ref (b + 11), .ref (b + 18), .ref (b + 215), .null]) := by rw [← hCd]; exact va_up_self _ _ _
  have hCf : ∀ k, k ≠ 0 → Cp3 k = Cg4 k := fun k hk => by rw [← hCd]; exact va_up_ne _ _ hk
  have e1 : Cp3 1 = .inr (1, [.ref (b + 2), .ref (b + 9), .ref (b + 10), .int (nI 0)]) := (hCf _ (by omega)).trans e1
  have e2 : Cp3 2 = .inl (ca 4, 6, .inr (.inr (.inr (.inr (fun i => some (b + (3 + i))))))) := (hCf _ (by omega)).trans e2
  have er : ∀ i, i < 6 → Cp3 (3 + i) = .inl (ca 0, 12, .inl (fun _ => nI 0)) := fun i hi => (hCf _ (by omega)).trans (er i hi)
  have e9 : Cp3 9 = .inl (ca 0, 6, .inl (fun _ => nI 0)) := (hCf _ (by omega)).trans e9
  have e10 : Cp3 10 = .inl (ca 0, 6, .inl (fun _ => nI 0)) := (hCf _ (by omega)).trans e10
  have f0 : Cp3 11 = .inr (4, [.ref (b + 12), .ref (b + 13), .ref (b + 14), .ref (b + 15), .ref (b + 16), .ref (b + 17), .int (nI 0), .int (nI 0)]) := (hCf _ (by omega)).trans f0
  have f1 : Cp3 12 = .inl (ca 0, 6, .inl (fun _ => nI 0)) := (hCf _ (by omega)).trans f1
  have f2 : Cp3 13 = .inl (ca 0, 6, .inl (fun _ => nI 0)) := (hCf _ (by omega)).trans f2
  have f3 : Cp3 14 = .inl (ca 0, 6, .inl (fun _ => nI 0)) := (hCf _ (by omega)).trans f3
  have f4 : Cp3 15 = .inl (ca 0, 6, .inl (fun _ => nI 0)) := (hCf _ (by omega)).trans f4
  have f5 : Cp3 16 = .inl (ca 2, 6, .inl (fun _ => nI 0)) := (hCf _ (by omega)).trans f5
  have f6 : Cp3 17 = .inl (ca 0, 6, .inl (fun _ => nI 0)) := (hCf _ (by omega)).trans f6
  have p0 : Cp3 18 = .inr (3, [.ref (b + 19), .ref (b + 20), .ref (b + 21), .ref (b + 22), .ref (b + 24), .ref (b + 26), .ref (b + 28), .ref (b + 29), .ref (b + 30), .ref (b + 31), .ref (b + 32), .ref (b + 33), .ref (b + 34), .int (nI 0), .int (nI 0)]) := (hCf _ (by omega)).trans p0
  have p1 : Cp3 19 = .inl (ca 3, 72, .inr (.inr (.inr (.inr (fun j => some (b + (35 + 2 * j))))))) := (hCf _ (by omega)).trans p1
  have p2 : Cp3 20 = .inl (ca 3, 6, .inr (.inr (.inr (.inr (fun j => some (b + (179 + 2 * j))))))) := (hCf _ (by omega)).trans p2
  have p3 : Cp3 21 = .inl (ca 3, 12, .inr (.inr (.inr (.inr (fun j => some (b + (191 + 2 * j))))))) := (hCf _ (by omega)).trans p3
  have p4 : zG ca b Cp3 22 := p4.fr (hCf _ (by omega)) (hCf _ (by omega))
  have p6 : zG ca b Cp3 24 := p6.fr (hCf _ (by omega)) (hCf _ (by omega))
  have p8 : zG ca b Cp3 26 := p8.fr (hCf _ (by omega)) (hCf _ (by omega))
  have q10 : Cp3 28 = .inl (ca 0, 6, .inl (fun _ => eo none)) := (hCf _ (by omega)).trans q10
  have q11 : Cp3 29 = .inl (ca 0, 2, .inl (fun _ => eo none)) := (hCf _ (by omega)).trans q11
  have q12 : Cp3 30 = .inl (ca 0, 6, .inl (fun _ => nI 0)) := (hCf _ (by omega)).trans q12
  have q13 : Cp3 31 = .inl (ca 0, 6, .inl (fun _ => nI 0)) := (hCf _ (by omega)).trans q13
  have q14 : Cp3 32 = .inl (ca 0, 6, .inl (fun _ => nI 0)) := (hCf _ (by omega)).trans q14
  have q15 : Cp3 33 = .inl (ca 2, 6, .inl (fun _ => nI 0)) := (hCf _ (by omega)).trans q15
  have q16 : Cp3 34 = .inl (ca 2, 6, .inl (fun _ => nI 0)) := (hCf _ (by omega)).trans q16
  have z1 : ∀ j, j < 72 → zG ca b Cp3 (35 + 2 * j) := fun j hj => (z1 j hj).fr (hCf _ (by omega)) (hCf _ (by omega))
  have z2 : ∀ j, j < 6 → zG ca b Cp3 (179 + 2 * j) := fun j hj => (z2 j hj).fr (hCf _ (by omega)) (hCf _ (by omega))
  have z3 : ∀ j, j < 12 → zG ca b Cp3 (191 + 2 * j) := fun j hj => (z3 j hj).fr (hCf _ (by omega)) (hCf _ (by omega))
  have w4 : zG ca b Cp3 215 := w4.fr (hCf _ (by omega)) (hCf _ (by omega))
  clear hCd
  refine lv_aload_n hx hb d_OP_init_48 rfl (lv_at hl 0 rfl) ?_
  refine xw_sz (n := 217) (by omega) hP (by omega) (fun hsz => ?_)
  refine xw_mkG hx hb hml hown hts tb_147 hZ.2.2.2.1 hK hZ hP hsz hl (Nat.le_of_ble_eq_true rfl) d_OP_init_49 d_OP_init_52 d_OP_init_53 (by decide) (by decide) ⟨by decide, by decide⟩ hS (fun Cg5 H locs hCf hzG hP hsz hS => ?_)
  have h0 : Cg5 0 = .inr (0, [.ref (b + 1), .ref (b + 11), .ref (b + 18), .ref (b + 215), .null]) := (hCf 0 (by omega)).trans h0
  have e1 : Cg5 1 = .inr (1, [.ref (b + 2), .ref (b + 9), .ref (b + 10), .int (nI 0)]) := (hCf _ (by omega)).trans e1
  have e2 : Cg5 2 = .inl (ca 4, 6, .inr (.inr (.inr (.inr (fun i => some (b + (3 + i))))))) := (hCf _ (by omega)).trans e2
  have er : ∀ i, i < 6 → Cg5 (3 + i) = .inl (ca 0, 12, .inl (fun _ => nI 0)) := fun i hi => (hCf _ (by omega)).trans (er i hi)
  have e9 : Cg5 9 = .inl (ca 0, 6, .inl (fun _ => nI 0)) := (hCf _ (by omega)).trans e9
  have e10 : Cg5 10 = .inl (ca 0, 6, .inl (fun _ => nI 0)) := (hCf _ (by omega)).trans e10
  have f0 : Cg5 11 = .inr (4, [.ref (b + 12), .ref (b + 13), .ref (b + 14), .ref (b + 15), .ref (b + 16), .ref (b + 17), .int (nI 0), .int (nI 0)]) := (hCf _ (by omega)).trans f0
  have f1 : Cg5 12 = .inl (ca 0, 6, .inl (fun _ => nI 0)) := (hCf _ (by omega)).trans f1
  have f2 : Cg5 13 = .inl (ca 0, 6, .inl (fun _ => nI 0)) := (hCf _ (by omega)).trans f2
  have f3 : Cg5 14 = .inl (ca 0, 6, .inl (fun _ => nI 0)) := (hCf _ (by omega)).trans f3
  have f4 : Cg5 15 = .inl (ca 0, 6, .inl (fun _ => nI 0)) := (hCf _ (by omega)).trans f4
  have f5 : Cg5 16 = .inl (ca 2, 6, .inl (fun _ => nI 0)) := (hCf _ (by omega)).trans f5
  have f6 : Cg5 17 = .inl (ca 0, 6, .inl (fun _ => nI 0)) := (hCf _ (by omega)).trans f6
  have p0 : Cg5 18 = .inr (3, [.ref (b + 19), .ref (b + 20), .ref (b + 21), .ref (b + 22), .ref (b + 24), .ref (b + 26), .ref (b + 28), .ref (b + 29), .ref (b + 30), .ref (b + 31), .ref (b + 32), .ref (b + 33), .ref (b + 34), .int (nI 0), .int (nI 0)]) := (hCf _ (by omega)).trans p0
  have p1 : Cg5 19 = .inl (ca 3, 72, .inr (.inr (.inr (.inr (fun j => some (b + (35 + 2 * j))))))) := (hCf _ (by omega)).trans p1
  have p2 : Cg5 20 = .inl (ca 3, 6, .inr (.inr (.inr (.inr (fun j => some (b + (179 + 2 * j))))))) := (hCf _ (by omega)).trans p2
  have p3 : Cg5 21 = .inl (ca 3, 12, .inr (.inr (.inr (.inr (fun j => some (b + (191 + 2 * j))))))) := (hCf _ (by omega)).trans p3
  have p4 : zG ca b Cg5 22 := p4.fr (hCf _ (by omega)) (hCf _ (by omega))
  have p6 : zG ca b Cg5 24 := p6.fr (hCf _ (by omega)) (hCf _ (by omega))
  have p8 : zG ca b Cg5 26 := p8.fr (hCf _ (by omega)) (hCf _ (by omega))
  have q10 : Cg5 28 = .inl (ca 0, 6, .inl (fun _ => eo none)) := (hCf _ (by omega)).trans q10
  have q11 : Cg5 29 = .inl (ca 0, 2, .inl (fun _ => eo none)) := (hCf _ (by omega)).trans q11
  have q12 : Cg5 30 = .inl (ca 0, 6, .inl (fun _ => nI 0)) := (hCf _ (by omega)).trans q12
  have q13 : Cg5 31 = .inl (ca 0, 6, .inl (fun _ => nI 0)) := (hCf _ (by omega)).trans q13
  have q14 : Cg5 32 = .inl (ca 0, 6, .inl (fun _ => nI 0)) := (hCf _ (by omega)).trans q14
  have q15 : Cg5 33 = .inl (ca 2, 6, .inl (fun _ => nI 0)) := (hCf _ (by omega)).trans q15
  have q16 : Cg5 34 = .inl (ca 2, 6, .inl (fun _ => nI 0)) := (hCf _ (by omega)).trans q16
  have z1 : ∀ j, j < 72 → zG ca b Cg5 (35 + 2 * j) := fun j hj => (z1 j hj).fr (hCf _ (by omega)) (hCf _ (by omega))
  have z2 : ∀ j, j < 6 → zG ca b Cg5 (179 + 2 * j) := fun j hj => (z2 j hj).fr (hCf _ (by omega)) (hCf _ (by omega))
  have z3 : ∀ j, j < 12 → zG ca b Cg5 (191 + 2 * j) := fun j hj => (z3 j hj).fr (hCf _ (by omega)) (hCf _ (by omega))
  have w4 : zG ca b Cg5 215 := w4.fr (hCf _ (by omega)) (hCf _ (by omega))
  have w5 : zG ca b Cg5 217 := hzG
  refine xw_putF (v := .ref (b + 217)) (ty := t_OP 4) hx hb hts (fun w h => mw (uw_OP w h)) t_OP t_OP_ok n_OP hown hK hP (fun k _ => Nat.le_add_right _ _) hS h0 (by omega) rfl 4 (by decide) (hts _ (mw tb_153)) (fun _ h => h) rfl hin rfl (by decide +kernel) rfl rfl (Nat.le_of_ble_eq_true rfl) d_OP_init_56 (fun H locs hP hS => ?_)
  generalize hCd : va_up Cg5 0 _ = Cp4 at hP
  have h0 : Cp4 0 = .inr (0, [.ref (b + 1), .ref (b + 11), .ref (b + 18), .ref (b + 215), .ref (b + 217)]) := by rw [← hCd]; exact va_up_self _ _ _
  have hCf : ∀ k, k ≠ 0 → Cp4 k = Cg5 k := fun k hk => by rw [← hCd]; exact va_up_ne _ _ hk
  have e1 : Cp4 1 = .inr (1, [.ref (b + 2), .ref (b + 9), .ref (b + 10), .int (nI 0)]) := (hCf _ (by omega)).trans e1
  have e2 : Cp4 2 = .inl (ca 4, 6, .inr (.inr (.inr (.inr (fun i => some (b + (3 + i))))))) := (hCf _ (by omega)).trans e2
  have er : ∀ i, i < 6 → Cp4 (3 + i) = .inl (ca 0, 12, .inl (fun _ => nI 0)) := fun i hi => (hCf _ (by omega)).trans (er i hi)
  have e9 : Cp4 9 = .inl (ca 0, 6, .inl (fun _ => nI 0)) := (hCf _ (by omega)).trans e9
  have e10 : Cp4 10 = .inl (ca 0, 6, .inl (fun _ => nI 0)) := (hCf _ (by omega)).trans e10
  have f0 : Cp4 11 = .inr (4, [.ref (b + 12), .ref (b + 13), .ref (b + 14), .ref (b + 15), .ref (b + 16), .ref (b + 17), .int (nI 0), .int (nI 0)]) := (hCf _ (by omega)).trans f0
  have f1 : Cp4 12 = .inl (ca 0, 6, .inl (fun _ => nI 0)) := (hCf _ (by omega)).trans f1
  have f2 : Cp4 13 = .inl (ca 0, 6, .inl (fun _ => nI 0)) := (hCf _ (by omega)).trans f2
  have f3 : Cp4 14 = .inl (ca 0, 6, .inl (fun _ => nI 0)) := (hCf _ (by omega)).trans f3
  have f4 : Cp4 15 = .inl (ca 0, 6, .inl (fun _ => nI 0)) := (hCf _ (by omega)).trans f4
  have f5 : Cp4 16 = .inl (ca 2, 6, .inl (fun _ => nI 0)) := (hCf _ (by omega)).trans f5
  have f6 : Cp4 17 = .inl (ca 0, 6, .inl (fun _ => nI 0)) := (hCf _ (by omega)).trans f6
  have p0 : Cp4 18 = .inr (3, [.ref (b + 19), .ref (b + 20), .ref (b + 21), .ref (b + 22), .ref (b + 24), .ref (b + 26), .ref (b + 28), .ref (b + 29), .ref (b + 30), .ref (b + 31), .ref (b + 32), .ref (b + 33), .ref (b + 34), .int (nI 0), .int (nI 0)]) := (hCf _ (by omega)).trans p0
  have p1 : Cp4 19 = .inl (ca 3, 72, .inr (.inr (.inr (.inr (fun j => some (b + (35 + 2 * j))))))) := (hCf _ (by omega)).trans p1
  have p2 : Cp4 20 = .inl (ca 3, 6, .inr (.inr (.inr (.inr (fun j => some (b + (179 + 2 * j))))))) := (hCf _ (by omega)).trans p2
  have p3 : Cp4 21 = .inl (ca 3, 12, .inr (.inr (.inr (.inr (fun j => some (b + (191 + 2 * j))))))) := (hCf _ (by omega)).trans p3
  have p4 : zG ca b Cp4 22 := p4.fr (hCf _ (by omega)) (hCf _ (by omega))
  have p6 : zG ca b Cp4 24 := p6.fr (hCf _ (by omega)) (hCf _ (by omega))
  have p8 : zG ca b Cp4 26 := p8.fr (hCf _ (by omega)) (hCf _ (by omega))
  have q10 : Cp4 28 = .inl (ca 0, 6, .inl (fun _ => eo none)) := (hCf _ (by omega)).trans q10
  have q11 : Cp4 29 = .inl (ca 0, 2, .inl (fun _ => eo none)) := (hCf _ (by omega)).trans q11
  have q12 : Cp4 30 = .inl (ca 0, 6, .inl (fun _ => nI 0)) := (hCf _ (by omega)).trans q12
  have q13 : Cp4 31 = .inl (ca 0, 6, .inl (fun _ => nI 0)) := (hCf _ (by omega)).trans q13
  have q14 : Cp4 32 = .inl (ca 0, 6, .inl (fun _ => nI 0)) := (hCf _ (by omega)).trans q14
  have q15 : Cp4 33 = .inl (ca 2, 6, .inl (fun _ => nI 0)) := (hCf _ (by omega)).trans q15
  have q16 : Cp4 34 = .inl (ca 2, 6, .inl (fun _ => nI 0)) := (hCf _ (by omega)).trans q16
  have z1 : ∀ j, j < 72 → zG ca b Cp4 (35 + 2 * j) := fun j hj => (z1 j hj).fr (hCf _ (by omega)) (hCf _ (by omega))
  have z2 : ∀ j, j < 6 → zG ca b Cp4 (179 + 2 * j) := fun j hj => (z2 j hj).fr (hCf _ (by omega)) (hCf _ (by omega))
  have z3 : ∀ j, j < 12 → zG ca b Cp4 (191 + 2 * j) := fun j hj => (z3 j hj).fr (hCf _ (by omega)) (hCf _ (by omega))
  have w4 : zG ca b Cp4 215 := w4.fr (hCf _ (by omega)) (hCf _ (by omega))
  have w5 : zG ca b Cp4 217 := w5.fr (hCf _ (by omega)) (hCf _ (by omega))
  clear hCd
  refine xw_sz (n := 219) (by omega) hP (by omega) (fun hsz => ?_)
  refine W.widen (k := 218) (n := 1041) (by decide) (by decide) ?_
  refine nw_ret hx hb hr hlocks hP hsz hS ?_ d_OP_init_59
  refine ⟨fun _ _ => 0, fun _ => 0, fun _ => 0, fun _ => 0, fun _ => some 0, fun _ => 0, fun _ => 0, fun _ => false, fun _ => 0, 0, fun _ => none, fun _ => none, (fun _ => false, fun _ => some 0, fun _ => some 0, fun _ => 0, 0), fun _ => false, 0, fun _ _ => 0, fun _ => 0, fun _ => 0, 0, 0, 0, 0, 0, ⟨h0, e1, e2, e9, e10, f0, f1, f2, f3, f4, f5, f6, p0, p1, p2, p3, q10, q11, q12, q13, q14, q15, q16, er, fun g hg => ?_⟩, ⟨fun _ _ _ _ => rfl, fun _ _ => ⟨rfl, rfl⟩, fun i hi => absurd hi (Nat.not_lt_zero _), rfl⟩, fun i hi => absurd hi (Nat.not_lt_zero _), fun _ _ => rfl, fun _ _ => rfl⟩
  rw [gvOf_0]
  have key : zG ca b Cp4 g := by
    rcases hg with h | h | h | ⟨h1, h2, h3⟩
    · rw [h]; exact p4
    · rw [h]; exact p6
    · rw [h]; exact p8
    · by_cases q1 : g < 179
      · have := z1 ((g - 35) / 2) (by omega); rw [show 35 + 2 * ((g - 35) / 2) = g by omega] at this; exact this
      · by_cases q2 : g < 191
        · have := z2 ((g - 179) / 2) (by omega); rw [show 179 + 2 * ((g - 179) / 2) = g by omega] at this; exact this
        · by_cases q3 : g < 215
          · have := z3 ((g - 191) / 2) (by omega); rw [show 191 + 2 * ((g - 191) / 2) = g by omega] at this; exact this
          · by_cases q4 : g = 215
            · rw [q4]; exact w4
            · rw [show g = 217 by omega]; exact w5
  exact key.is

