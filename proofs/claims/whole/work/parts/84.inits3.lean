set_option maxHeartbeats 4000000 in
set_option maxRecDepth 100000 in
/-- the reference is made -/
theorem c_MO_init (l : Launch) (D : va_G) (ca : Nat → ClassId) (b : Nat) (C0 : Nat → va_E) (g : Nat) (h0 : C0 g = .inr (5, [.int (nI 0), .int (nI 0), .null, .null, .null, .int (nI 0), .null, .null, .null, .null, .null, .null, .null, .int (nI 0), .int (nI 0), .int (nI 0), .int (nI 0), .int (nI 0)])) : Met l y_MO_init (k_MO_init :: gw) ({ frames := 1, cells := 10, slots := 1231, locals := 12 }) (nPc D ca b (g + 1) C0 [.ref (b + g)]) (nQ D b (g + 11) (fun C1 => (∀ k, k < g → C1 k = C0 k) ∧ C1 g = .inr (5, [.int (nI 0), .int (nI 0), .ref (b + (g + 1)), .ref (b + (g + 2)), .ref (b + (g + 3)), .int (nI 0), .ref (b + (g + 4)), .ref (b + (g + 5)), .ref (b + (g + 6)), .ref (b + (g + 7)), .ref (b + (g + 8)), .ref (b + (g + 9)), .ref (b + (g + 10)), .int (nI 0), .int (nI 0), .int (nI 0), .int (nI 0), .int (nI 0)]) ∧ C1 (g + 1) = .inl (ca 0, 72, .inl (fun _ => nI 0)) ∧ C1 (g + 2) = .inl (ca 0, 6, .inl (fun _ => nI 0)) ∧ C1 (g + 3) = .inl (ca 0, 6, .inl (fun _ => nI 0)) ∧ C1 (g + 4) = .inl (ca 0, 6, .inl (fun _ => nI 0)) ∧ C1 (g + 5) = .inl (ca 0, 6, .inl (fun _ => nI 0)) ∧ C1 (g + 6) = .inl (ca 0, 6, .inl (fun _ => nI 0)) ∧ C1 (g + 7) = .inl (ca 0, 6, .inl (fun _ => nI 0)) ∧ C1 (g + 8) = .inl (ca 0, 1092, .inl (fun _ => nI 0)) ∧ C1 (g + 9) = .inl (ca 0, 25, .inl (fun _ => nI 0)) ∧ C1 (g + 10) = .inl (ca 0, 6, .inl (fun _ => nI 0)))) 10 1231 (fun q => b ≤ q) := by
  refine Met.ofW (cc := b_MO_init) (maxL := 1) (ret := none) (by decide) rfl ?_
  intro p e s m args below meth c s₁ B hml hv
  obtain ⟨hav, hP, hsz, hK, hZ⟩ := hv
  have hx := B.exec
  have hb := B.bytes
  have hr := B.returns
  have hts := atoms_spec (ws := k_MO_init :: gw) B.pre
  have hown : s.vm.findClass R_MO = some m.cls := findClass_of_methodNamed B.named
  have hlocks := B.notSynchronized
  have hin : meth.name = "<init>" := (name_of_methodNamed B.named B.method).1
  have hS : va_S (fun q => b ≤ q) s.heap s.heap [] := va_S.rf
  have hs0 : s.heap.size = b + (g + 1) := hsz
  have hfr : ∀ k, k < g → C0 k = C0 k := fun _ _ => rfl
  have hl := lv_entry ([.ref (b + g)]) (n := 1) (Nat.le_of_ble_eq_true rfl)
  rw [hav, lg_entry_eq]
  generalize (lg_sl ([.ref (b + g)]) ++ List.replicate (1 - (lg_sl ([.ref (b + g)])).length) Slot.unset).toArray = ls at hl ⊢
  have hl : lv_has ls 1 [(0, .ref (b + g))] := hl
  rw [← hav]
  refine lv_aload_n hx hb d_MO_init_0 rfl (lv_at hl 0 rfl) ?_
  refine W.objInit hx hb hown (hts _ (mw tb_594)) (hts _ (mw tb_21)) (hts _ (mw tb_22)) rfl (by rw [hml]; exact hl.1) rfl d_MO_init_1 (Nat.le_of_ble_eq_true rfl) (Nat.le_of_ble_eq_true rfl) ?_
  refine lv_aload_n hx hb d_MO_init_4 rfl (lv_at hl 0 rfl) ?_
  refine lv_bipush (v := nI 72) hx hb d_MO_init_5 (by decide) ?_
  refine xw_newa (atype := .int) (ty := .int) (a0 := (72, .inl (fun _ => nI 0))) hx hb 0 (hts _ (mw tb_44)) rfl hK rfl (hK.2 0 _ rfl).2 hP hS hsz rfl (by decide) (by decide) (by decide) (by decide) (by decide) d_MO_init_7 (fun H hP hsz hS => ?_)
  generalize hCd : va_up C0 (g + 1) _ = C91 at hP
  have hfr : ∀ k, k < g → C91 k = C0 k := fun k hk => by rw [← hCd]; exact (va_up_ne _ _ (by omega)).trans (hfr k hk)
  have h0 : C91 g = .inr (5, [.int (nI 0), .int (nI 0), .null, .null, .null, .int (nI 0), .null, .null, .null, .null, .null, .null, .null, .int (nI 0), .int (nI 0), .int (nI 0), .int (nI 0), .int (nI 0)]) := by rw [← hCd]; exact (va_up_ne _ _ (by omega)).trans h0
  have h1 : C91 (g + 1) = .inl (ca 0, 72, .inl (fun _ => nI 0)) := by rw [← hCd]; exact va_up_self _ _ _
  clear hCd
  refine xw_putF (v := .ref (b + (g + 1))) (ty := t_MO 2) hx hb hts (fun w h => mw (uw_MO w h)) t_MO t_MO_ok n_MO hown hK hP (fun k _ => Nat.le_add_right _ _) hS h0 (by omega) rfl 2 (by decide) (hts _ (mw tb_597)) (fun _ h => h) rfl hin rfl (by decide +kernel) rfl rfl (Nat.le_of_ble_eq_true rfl) d_MO_init_9 (fun H locs hP hS => ?_)
  generalize hCd : va_up C91 g _ = C92 at hP
  have hfr : ∀ k, k < g → C92 k = C0 k := fun k hk => by rw [← hCd]; exact (va_up_ne _ _ (by omega)).trans (hfr k hk)
  have h0 : C92 g = .inr (5, [.int (nI 0), .int (nI 0), .ref (b + (g + 1)), .null, .null, .int (nI 0), .null, .null, .null, .null, .null, .null, .null, .int (nI 0), .int (nI 0), .int (nI 0), .int (nI 0), .int (nI 0)]) := by rw [← hCd]; exact va_up_self _ _ _
  have h1 : C92 (g + 1) = .inl (ca 0, 72, .inl (fun _ => nI 0)) := by rw [← hCd]; exact (va_up_ne _ _ (by omega)).trans h1
  clear hCd
  refine lv_aload_n hx hb d_MO_init_12 rfl (lv_at hl 0 rfl) ?_
  refine lv_bipush (v := nI 6) hx hb d_MO_init_13 (by decide) ?_
  refine xw_sz (n := g + 2) (by omega) hP (by omega) (fun hsz => ?_)
  refine xw_newa (atype := .int) (ty := .int) (a0 := (6, .inl (fun _ => nI 0))) hx hb 0 (hts _ (mw tb_44)) rfl hK rfl (hK.2 0 _ rfl).2 hP hS hsz rfl (by decide) (by decide) (by decide) (by decide) (by decide) d_MO_init_15 (fun H hP hsz hS => ?_)
  generalize hCd : va_up C92 (g + 2) _ = C93 at hP
  have hfr : ∀ k, k < g → C93 k = C0 k := fun k hk => by rw [← hCd]; exact (va_up_ne _ _ (by omega)).trans (hfr k hk)
  have h0 : C93 g = .inr (5, [.int (nI 0), .int (nI 0), .ref (b + (g + 1)), .null, .null, .int (nI 0), .null, .null, .null, .null, .null, .null, .null, .int (nI 0), .int (nI 0), .int (nI 0), .int (nI 0), .int (nI 0)]) := by rw [← hCd]; exact (va_up_ne _ _ (by omega)).trans h0
  have h1 : C93 (g + 1) = .inl (ca 0, 72, .inl (fun _ => nI 0)) := by rw [← hCd]; exact (va_up_ne _ _ (by omega)).trans h1
  have h2 : C93 (g + 2) = .inl (ca 0, 6, .inl (fun _ => nI 0)) := by rw [← hCd]; exact va_up_self _ _ _
  clear hCd
  refine xw_putF (v := .ref (b + (g + 2))) (ty := t_MO 3) hx hb hts (fun w h => mw (uw_MO w h)) t_MO t_MO_ok n_MO hown hK hP (fun k _ => Nat.le_add_right _ _) hS h0 (by omega) rfl 3 (by decide) (hts _ (mw tb_598)) (fun _ h => h) rfl hin rfl (by decide +kernel) rfl rfl (Nat.le_of_ble_eq_true rfl) d_MO_init_17 (fun H locs hP hS => ?_)
  generalize hCd : va_up C93 g _ = C94 at hP
  have hfr : ∀ k, k < g → C94 k = C0 k := fun k hk => by rw [← hCd]; exact (va_up_ne _ _ (by omega)).trans (hfr k hk)
  have h0 : C94 g = .inr (5, [.int (nI 0), .int (nI 0), .ref (b + (g + 1)), .ref (b + (g + 2)), .null, .int (nI 0), .null, .null, .null, .null, .null, .null, .null, .int (nI 0), .int (nI 0), .int (nI 0), .int (nI 0), .int (nI 0)]) := by rw [← hCd]; exact va_up_self _ _ _
  have h1 : C94 (g + 1) = .inl (ca 0, 72, .inl (fun _ => nI 0)) := by rw [← hCd]; exact (va_up_ne _ _ (by omega)).trans h1
  have h2 : C94 (g + 2) = .inl (ca 0, 6, .inl (fun _ => nI 0)) := by rw [← hCd]; exact (va_up_ne _ _ (by omega)).trans h2
  clear hCd
  refine lv_aload_n hx hb d_MO_init_20 rfl (lv_at hl 0 rfl) ?_
  refine lv_bipush (v := nI 6) hx hb d_MO_init_21 (by decide) ?_
  refine xw_sz (n := g + 3) (by omega) hP (by omega) (fun hsz => ?_)
  refine xw_newa (atype := .int) (ty := .int) (a0 := (6, .inl (fun _ => nI 0))) hx hb 0 (hts _ (mw tb_44)) rfl hK rfl (hK.2 0 _ rfl).2 hP hS hsz rfl (by decide) (by decide) (by decide) (by decide) (by decide) d_MO_init_23 (fun H hP hsz hS => ?_)
  generalize hCd : va_up C94 (g + 3) _ = C95 at hP
  have hfr : ∀ k, k < g → C95 k = C0 k := fun k hk => by rw [← hCd]; exact (va_up_ne _ _ (by omega)).trans (hfr k hk)
  have h0 : C95 g = .inr (5, [.int (nI 0), .int (nI 0), .ref (b + (g + 1)), .ref (b + (g + 2)), .null, .int (nI 0), .null, .null, .null, .null, .null, .null, .null, .int (nI 0), .int (nI 0), .int (nI 0), .int (nI 0), .int (nI 0)]) := by rw [← hCd]; exact (va_up_ne _ _ (by omega)).trans h0
  have h1 : C95 (g + 1) = .inl (ca 0, 72, .inl (fun _ => nI 0)) := by rw [← hCd]; exact (va_up_ne _ _ (by omega)).trans h1
  have h2 : C95 (g + 2) = .inl (ca 0, 6, .inl (fun _ => nI 0)) := by rw [← hCd]; exact (va_up_ne _ _ (by omega)).trans h2
  have h3 : C95 (g + 3) = .inl (ca 0, 6, .inl (fun _ => nI 0)) := by rw [← hCd]; exact va_up_self _ _ _
  clear hCd
  refine xw_putF (v := .ref (b + (g + 3))) (ty := t_MO 4) hx hb hts (fun w h => mw (uw_MO w h)) t_MO t_MO_ok n_MO hown hK hP (fun k _ => Nat.le_add_right _ _) hS h0 (by omega) rfl 4 (by decide) (hts _ (mw tb_599)) (fun _ h => h) rfl hin rfl (by decide +kernel) rfl rfl (Nat.le_of_ble_eq_true rfl) d_MO_init_25 (fun H locs hP hS => ?_)
  generalize hCd : va_up C95 g _ = C96 at hP
  have hfr : ∀ k, k < g → C96 k = C0 k := fun k hk => by rw [← hCd]; exact (va_up_ne _ _ (by omega)).trans (hfr k hk)
  have h0 : C96 g = .inr (5, [.int (nI 0), .int (nI 0), .ref (b + (g + 1)), .ref (b + (g + 2)), .ref (b + (g + 3)), .int (nI 0), .null, .null, .null, .null, .null, .null, .null, .int (nI 0), .int (nI 0), .int (nI 0), .int (nI 0), .int (nI 0)]) := by rw [← hCd]; exact va_up_self _ _ _
  have h1 : C96 (g + 1) = .inl (ca 0, 72, .inl (fun _ => nI 0)) := by rw [← hCd]; exact (va_up_ne _ _ (by omega)).trans h1
  have h2 : C96 (g + 2) = .inl (ca 0, 6, .inl (fun _ => nI 0)) := by rw [← hCd]; exact (va_up_ne _ _ (by omega)).trans h2
  have h3 : C96 (g + 3) = .inl (ca 0, 6, .inl (fun _ => nI 0)) := by rw [← hCd]; exact (va_up_ne _ _ (by omega)).trans h3
  clear hCd
  refine lv_aload_n hx hb d_MO_init_28 rfl (lv_at hl 0 rfl) ?_
  refine lv_bipush (v := nI 6) hx hb d_MO_init_29 (by decide) ?_
  refine xw_sz (n := g + 4) (by omega) hP (by omega) (fun hsz => ?_)
  refine xw_newa (atype := .int) (ty := .int) (a0 := (6, .inl (fun _ => nI 0))) hx hb 0 (hts _ (mw tb_44)) rfl hK rfl (hK.2 0 _ rfl).2 hP hS hsz rfl (by decide) (by decide) (by decide) (by decide) (by decide) d_MO_init_31 (fun H hP hsz hS => ?_)
  generalize hCd : va_up C96 (g + 4) _ = C97 at hP
  have hfr : ∀ k, k < g → C97 k = C0 k := fun k hk => by rw [← hCd]; exact (va_up_ne _ _ (by omega)).trans (hfr k hk)
  have h0 : C97 g = .inr (5, [.int (nI 0), .int (nI 0), .ref (b + (g + 1)), .ref (b + (g + 2)), .ref (b + (g + 3)), .int (nI 0), .null, .null, .null, .null, .null, .null, .null, .int (nI 0), .int (nI 0), .int (nI 0), .int (nI 0), .int (nI 0)]) := by rw [← hCd]; exact (va_up_ne _ _ (by omega)).trans h0
  have h1 : C97 (g + 1) = .inl (ca 0, 72, .inl (fun _ => nI 0)) := by rw [← hCd]; exact (va_up_ne _ _ (by omega)).trans h1
  have h2 : C97 (g + 2) = .inl (ca 0, 6, .inl (fun _ => nI 0)) := by rw [← hCd]; exact (va_up_ne _ _ (by omega)).trans h2
  have h3 : C97 (g + 3) = .inl (ca 0, 6, .inl (fun _ => nI 0)) := by rw [← hCd]; exact (va_up_ne _ _ (by omega)).trans h3
  have h4 : C97 (g + 4) = .inl (ca 0, 6, .inl (fun _ => nI 0)) := by rw [← hCd]; exact va_up_self _ _ _
  clear hCd
  refine xw_putF (v := .ref (b + (g + 4))) (ty := t_MO 6) hx hb hts (fun w h => mw (uw_MO w h)) t_MO t_MO_ok n_MO hown hK hP (fun k _ => Nat.le_add_right _ _) hS h0 (by omega) rfl 6 (by decide) (hts _ (mw tb_601)) (fun _ h => h) rfl hin rfl (by decide +kernel) rfl rfl (Nat.le_of_ble_eq_true rfl) d_MO_init_33 (fun H locs hP hS => ?_)
  generalize hCd : va_up C97 g _ = C98 at hP
  have hfr : ∀ k, k < g → C98 k = C0 k := fun k hk => by rw [← hCd]; exact (va_up_ne _ _ (by omega)).trans (hfr k hk)
  have h0 : C98 g = .inr (5, [.int (nI 0), .int (nI 0), .ref (b + (g + 1)), .ref (b + (g + 2)), .ref (b + (g + 3)), .int (nI 0), .ref (b + (g + 4)), .null, .null, .null, .null, .null, .null, .int (nI 0), .int (nI 0), .int (nI 0), .int (nI 0), .int (nI 0)]) := by rw [← hCd]; exact va_up_self _ _ _
  have h1 : C98 (g + 1) = .inl (ca 0, 72, .inl (fun _ => nI 0)) := by rw [← hCd]; exact (va_up_ne _ _ (by omega)).trans h1
  have h2 : C98 (g + 2) = .inl (ca 0, 6, .inl (fun _ => nI 0)) := by rw [← hCd]; exact (va_up_ne _ _ (by omega)).trans h2
  have h3 : C98 (g + 3) = .inl (ca 0, 6, .inl (fun _ => nI 0)) := by rw [← hCd]; exact (va_up_ne _ _ (by omega)).trans h3
  have h4 : C98 (g + 4) = .inl (ca 0, 6, .inl (fun _ => nI 0)) := by rw [← hCd]; exact (va_up_ne _ _ (by omega)).trans h4
  clear hCd
  refine lv_aload_n hx hb d_MO_init_36 rfl (lv_at hl 0 rfl) ?_
  refine lv_bipush (v := nI 6) hx hb d_MO_init_37 (by decide) ?_
  refine xw_sz (n := g + 5) (by omega) hP (by omega) (fun hsz => ?_)
  refine xw_newa (atype := .int) (ty := .int) (a0 := (6, .inl (fun _ => nI 0))) hx hb 0 (hts _ (mw tb_44)) rfl hK rfl (hK.2 0 _ rfl).2 hP hS hsz rfl (by decide) (by decide) (by decide) (by decide) (by decide) d_MO_init_39 (fun H hP hsz hS => ?_)
  generalize hCd : va_up C98 (g + 5) _ = C99 at hP
  have hfr : ∀ k, k < g → C99 k = C0 k := fun k hk => by rw [← hCd]; exact (va_up_ne _ _ (by omega)).trans (hfr k hk)
  have h0 : C99 g = .inr (5, [.int (nI 0), .int (nI 0), .ref (b + (g + 1)), .ref (b + (g + 2)), .ref (b + (g + 3)), .int (nI 0), .ref (b + (g + 4)), .null, .null, .null, .null, .null, .null, .int (nI 0), .int (nI 0), .int (nI 0), .int (nI 0), .int (nI 0)]) := by rw [← hCd]; exact (va_up_ne _ _ (by omega)).trans h0
  have h1 : C99 (g + 1) = .inl (ca 0, 72, .inl (fun _ => nI 0)) := by rw [← hCd]; exact (va_up_ne _ _ (by omega)).trans h1
  have h2 : C99 (g + 2) = .inl (ca 0, 6, .inl (fun _ => nI 0)) := by rw [← hCd]; exact (va_up_ne _ _ (by omega)).trans h2
  have h3 : C99 (g + 3) = .inl (ca 0, 6, .inl (fun _ => nI 0)) := by rw [← hCd]; exact (va_up_ne _ _ (by omega)).trans h3
  have h4 : C99 (g + 4) = .inl (ca 0, 6, .inl (fun _ => nI 0)) := by rw [← hCd]; exact (va_up_ne _ _ (by omega)).trans h4
  have h5 : C99 (g + 5) = .inl (ca 0, 6, .inl (fun _ => nI 0)) := by rw [← hCd]; exact va_up_self _ _ _
  clear hCd
  refine xw_putF (v := .ref (b + (g + 5))) (ty := t_MO 7) hx hb hts (fun w h => mw (uw_MO w h)) t_MO t_MO_ok n_MO hown hK hP (fun k _ => Nat.le_add_right _ _) hS h0 (by omega) rfl 7 (by decide) (hts _ (mw tb_602)) (fun _ h => h) rfl hin rfl (by decide +kernel) rfl rfl (Nat.le_of_ble_eq_true rfl) d_MO_init_41 (fun H locs hP hS => ?_)
  generalize hCd : va_up C99 g _ = C910 at hP
  have hfr : ∀ k, k < g → C910 k = C0 k := fun k hk => by rw [← hCd]; exact (va_up_ne _ _ (by omega)).trans (hfr k hk)
  have h0 : C910 g = .inr (5, [.int (nI 0), .int (nI 0), .ref (b + (g + 1)), .ref (b + (g + 2)), .ref (b + (g + 3)), .int (nI 0), .ref (b + (g + 4)), .ref (b + (g + 5)), .null, .null, .null, .null, .null, .int (nI 0), .int (nI 0), .int (nI 0), .int (nI 0), .int (nI 0)]) := by rw [← hCd]; exact va_up_self _ _ _
  have h1 : C910 (g + 1) = .inl (ca 0, 72, .inl (fun _ => nI 0)) := by rw [← hCd]; exact (va_up_ne _ _ (by omega)).trans h1
  have h2 : C910 (g + 2) = .inl (ca 0, 6, .inl (fun _ => nI 0)) := by rw [← hCd]; exact (va_up_ne _ _ (by omega)).trans h2
  have h3 : C910 (g + 3) = .inl (ca 0, 6, .inl (fun _ => nI 0)) := by rw [← hCd]; exact (va_up_ne _ _ (by omega)).trans h3
  have h4 : C910 (g + 4) = .inl (ca 0, 6, .inl (fun _ => nI 0)) := by rw [← hCd]; exact (va_up_ne _ _ (by omega)).trans h4
  have h5 : C910 (g + 5) = .inl (ca 0, 6, .inl (fun _ => nI 0)) := by rw [← hCd]; exact (va_up_ne _ _ (by omega)).trans h5
  clear hCd
  refine lv_aload_n hx hb d_MO_init_44 rfl (lv_at hl 0 rfl) ?_
  refine lv_bipush (v := nI 6) hx hb d_MO_init_45 (by decide) ?_
  refine xw_sz (n := g + 6) (by omega) hP (by omega) (fun hsz => ?_)
  refine xw_newa (atype := .int) (ty := .int) (a0 := (6, .inl (fun _ => nI 0))) hx hb 0 (hts _ (mw tb_44)) rfl hK rfl (hK.2 0 _ rfl).2 hP hS hsz rfl (by decide) (by decide) (by decide) (by decide) (by decide) d_MO_init_47 (fun H hP hsz hS => ?_)
  generalize hCd : va_up C910 (g + 6) _ = C911 at hP
  have hfr : ∀ k, k < g → C911 k = C0 k := fun k hk => by rw [← hCd]; exact (va_up_ne _ _ (by omega)).trans (hfr k hk)
  have h0 : C911 g = .inr (5, [.int (nI 0), .int (nI 0), .ref (b + (g + 1)), .ref (b + (g + 2)), .ref (b + (g + 3)), .int (nI 0), .ref (b + (g + 4)), .ref (b + (g + 5)), .null, .null, .null, .null, .null, .int (nI 0), .int (nI 0), .int (nI 0), .int (nI 0), .int (nI 0)]) := by rw [← hCd]; exact (va_up_ne _ _ (by omega)).trans h0
  have h1 : C911 (g + 1) = .inl (ca 0, 72, .inl (fun _ => nI 0)) := by rw [← hCd]; exact (va_up_ne _ _ (by omega)).trans h1
  have h2 : C911 (g + 2) = .inl (ca 0, 6, .inl (fun _ => nI 0)) := by rw [← hCd]; exact (va_up_ne _ _ (by omega)).trans h2
  have h3 : C911 (g + 3) = .inl (ca 0, 6, .inl (fun _ => nI 0)) := by rw [← hCd]; exact (va_up_ne _ _ (by omega)).trans h3
  have h4 : C911 (g + 4) = .inl (ca 0, 6, .inl (fun _ => nI 0)) := by rw [← hCd]; exact (va_up_ne _ _ (by omega)).trans h4
  have h5 : C911 (g + 5) = .inl (ca 0, 6, .inl (fun _ => nI 0)) := by rw [← hCd]; exact (va_up_ne _ _ (by omega)).trans h5
  have h6 : C911 (g + 6) = .inl (ca 0, 6, .inl (fun _ => nI 0)) := by rw [← hCd]; exact va_up_self _ _ _
  clear hCd
  refine xw_putF (v := .ref (b + (g + 6))) (ty := t_MO 8) hx hb hts (fun w h => mw (uw_MO w h)) t_MO t_MO_ok n_MO hown hK hP (fun k _ => Nat.le_add_right _ _) hS h0 (by omega) rfl 8 (by decide) (hts _ (mw tb_603)) (fun _ h => h) rfl hin rfl (by decide +kernel) rfl rfl (Nat.le_of_ble_eq_true rfl) d_MO_init_49 (fun H locs hP hS => ?_)
  generalize hCd : va_up C911 g _ = C912 at hP
  have hfr : ∀ k, k < g → C912 k = C0 k := fun k hk => by rw [← hCd]; exact (va_up_ne _ _ (by omega)).trans (hfr k hk)
  have h0 : C912 g = .inr (5, [.int (nI 0), .int (nI 0), .ref (b + (g + 1)), .ref (b + (g + 2)), .ref (b + (g + 3)), .int (nI 0), .ref (b + (g + 4)), .ref (b + (g + 5)), .ref (b + (g + 6)), .null, .null, .null, .null, .int (nI 0), .int (nI 0), .int (nI 0), .int (nI 0), .int (nI 0)]) := by rw [← hCd]; exact va_up_self _ _ _
  have h1 : C912 (g + 1) = .inl (ca 0, 72, .inl (fun _ => nI 0)) := by rw [← hCd]; exact (va_up_ne _ _ (by omega)).trans h1
  have h2 : C912 (g + 2) = .inl (ca 0, 6, .inl (fun _ => nI 0)) := by rw [← hCd]; exact (va_up_ne _ _ (by omega)).trans h2
  have h3 : C912 (g + 3) = .inl (ca 0, 6, .inl (fun _ => nI 0)) := by rw [← hCd]; exact (va_up_ne _ _ (by omega)).trans h3
  have h4 : C912 (g + 4) = .inl (ca 0, 6, .inl (fun _ => nI 0)) := by rw [← hCd]; exact (va_up_ne _ _ (by omega)).trans h4
  have h5 : C912 (g + 5) = .inl (ca 0, 6, .inl (fun _ => nI 0)) := by rw [← hCd]; exact (va_up_ne _ _ (by omega)).trans h5
  have h6 : C912 (g + 6) = .inl (ca 0, 6, .inl (fun _ => nI 0)) := by rw [← hCd]; exact (va_up_ne _ _ (by omega)).trans h6
  clear hCd
  refine lv_aload_n hx hb d_MO_init_52 rfl (lv_at hl 0 rfl) ?_
  refine lv_bipush (v := nI 6) hx hb d_MO_init_53 (by decide) ?_
  refine xw_sz (n := g + 7) (by omega) hP (by omega) (fun hsz => ?_)
  refine xw_newa (atype := .int) (ty := .int) (a0 := (6, .inl (fun _ => nI 0))) hx hb 0 (hts _ (mw tb_44)) rfl hK rfl (hK.2 0 _ rfl).2 hP hS hsz rfl (by decide) (by decide) (by decide) (by decide) (by decide) d_MO_init_55 (fun H hP hsz hS => ?_)
  generalize hCd : va_up C912 (g + 7) _ = C913 at hP
  have hfr : ∀ k, k < g → C913 k = C0 k := fun k hk => by rw [← hCd]; exact (va_up_ne _ _ (by omega)).trans (hfr k hk)
  have h0 : C913 g = .inr (5, [.int (nI 0), .int (nI 0), .ref (b + (g + 1)), .ref (b + (g + 2)), .ref (b + (g + 3)), .int (nI 0), .ref (b + (g + 4)), .ref (b + (g + 5)), .ref (b + (g + 6)), .null, .null, .null, .null, .int (nI 0), .int (nI 0), .int (nI 0), .int (nI 0), .int (nI 0)]) := by rw [← hCd]; exact (va_up_ne _ _ (by omega)).trans h0
  have h1 : C913 (g + 1) = .inl (ca 0, 72, .inl (fun _ => nI 0)) := by rw [← hCd]; exact (va_up_ne _ _ (by omega)).trans h1
  have h2 : C913 (g + 2) = .inl (ca 0, 6, .inl (fun _ => nI 0)) := by rw [← hCd]; exact (va_up_ne _ _ (by omega)).trans h2
  have h3 : C913 (g + 3) = .inl (ca 0, 6, .inl (fun _ => nI 0)) := by rw [← hCd]; exact (va_up_ne _ _ (by omega)).trans h3
  have h4 : C913 (g + 4) = .inl (ca 0, 6, .inl (fun _ => nI 0)) := by rw [← hCd]; exact (va_up_ne _ _ (by omega)).trans h4
  have h5 : C913 (g + 5) = .inl (ca 0, 6, .inl (fun _ => nI 0)) := by rw [← hCd]; exact (va_up_ne _ _ (by omega)).trans h5
  have h6 : C913 (g + 6) = .inl (ca 0, 6, .inl (fun _ => nI 0)) := by rw [← hCd]; exact (va_up_ne _ _ (by omega)).trans h6
  have h7 : C913 (g + 7) = .inl (ca 0, 6, .inl (fun _ => nI 0)) := by rw [← hCd]; exact va_up_self _ _ _
  clear hCd
  refine xw_putF (v := .ref (b + (g + 7))) (ty := t_MO 9) hx hb hts (fun w h => mw (uw_MO w h)) t_MO t_MO_ok n_MO hown hK hP (fun k _ => Nat.le_add_right _ _) hS h0 (by omega) rfl 9 (by decide) (hts _ (mw tb_604)) (fun _ h => h) rfl hin rfl (by decide +kernel) rfl rfl (Nat.le_of_ble_eq_true rfl) d_MO_init_57 (fun H locs hP hS => ?_)
  generalize hCd : va_up C913 g _ = C914 at hP
  have hfr : ∀ k, k < g → C914 k = C0 k := fun k hk => by rw [← hCd]; exact (va_up_ne _ _ (by omega)).trans (hfr k hk)
  have h0 : C914 g = .inr (5, [.int (nI 0), .int (nI 0), .ref (b + (g + 1)), .ref (b + (g + 2)), .ref (b + (g + 3)), .int (nI 0), .ref (b + (g + 4)), .ref (b + (g + 5)), .ref (b + (g + 6)), .ref (b + (g + 7)), .null, .null, .null, .int (nI 0), .int (nI 0), .int (nI 0), .int (nI 0), .int (nI 0)]) := by rw [← hCd]; exact va_up_self _ _ _
  have h1 : C914 (g + 1) = .inl (ca 0, 72, .inl (fun _ => nI 0)) := by rw [← hCd]; exact (va_up_ne _ _ (by omega)).trans h1
  have h2 : C914 (g + 2) = .inl (ca 0, 6, .inl (fun _ => nI 0)) := by rw [← hCd]; exact (va_up_ne _ _ (by omega)).trans h2
  have h3 : C914 (g + 3) = .inl (ca 0, 6, .inl (fun _ => nI 0)) := by rw [← hCd]; exact (va_up_ne _ _ (by omega)).trans h3
  have h4 : C914 (g + 4) = .inl (ca 0, 6, .inl (fun _ => nI 0)) := by rw [← hCd]; exact (va_up_ne _ _ (by omega)).trans h4
  have h5 : C914 (g + 5) = .inl (ca 0, 6, .inl (fun _ => nI 0)) := by rw [← hCd]; exact (va_up_ne _ _ (by omega)).trans h5
  have h6 : C914 (g + 6) = .inl (ca 0, 6, .inl (fun _ => nI 0)) := by rw [← hCd]; exact (va_up_ne _ _ (by omega)).trans h6
  have h7 : C914 (g + 7) = .inl (ca 0, 6, .inl (fun _ => nI 0)) := by rw [← hCd]; exact (va_up_ne _ _ (by omega)).trans h7
  clear hCd
  refine lv_aload_n hx hb d_MO_init_60 rfl (lv_at hl 0 rfl) ?_
  refine lv_sipush (v := nI 1092) hx hb d_MO_init_61 (by decide) ?_
  refine xw_sz (n := g + 8) (by omega) hP (by omega) (fun hsz => ?_)
  refine xw_newa (atype := .int) (ty := .int) (a0 := (1092, .inl (fun _ => nI 0))) hx hb 0 (hts _ (mw tb_44)) rfl hK rfl (hK.2 0 _ rfl).2 hP hS hsz rfl (by decide) (by decide) (by decide) (by decide) (by decide) d_MO_init_64 (fun H hP hsz hS => ?_)
  generalize hCd : va_up C914 (g + 8) _ = C915 at hP
  have hfr : ∀ k, k < g → C915 k = C0 k := fun k hk => by rw [← hCd]; exact (va_up_ne _ _ (by omega)).trans (hfr k hk)
  have h0 : C915 g = .inr (5, [.int (nI 0), .int (nI 0), .ref (b + (g + 1)), .ref (b + (g + 2)), .ref (b + (g + 3)), .int (nI 0), .ref (b + (g + 4)), .ref (b + (g + 5)), .ref (b + (g + 6)), .ref (b + (g + 7)), .null, .null, .null, .int (nI 0), .int (nI 0), .int (nI 0), .int (nI 0), .int (nI 0)]) := by rw [← hCd]; exact (va_up_ne _ _ (by omega)).trans h0
  have h1 : C915 (g + 1) = .inl (ca 0, 72, .inl (fun _ => nI 0)) := by rw [← hCd]; exact (va_up_ne _ _ (by omega)).trans h1
  have h2 : C915 (g + 2) = .inl (ca 0, 6, .inl (fun _ => nI 0)) := by rw [← hCd]; exact (va_up_ne _ _ (by omega)).trans h2
  have h3 : C915 (g + 3) = .inl (ca 0, 6, .inl (fun _ => nI 0)) := by rw [← hCd]; exact (va_up_ne _ _ (by omega)).trans h3
  have h4 : C915 (g + 4) = .inl (ca 0, 6, .inl (fun _ => nI 0)) := by rw [← hCd]; exact (va_up_ne _ _ (by omega)).trans h4
  have h5 : C915 (g + 5) = .inl (ca 0, 6, .inl (fun _ => nI 0)) := by rw [← hCd]; exact (va_up_ne _ _ (by omega)).trans h5
  have h6 : C915 (g + 6) = .inl (ca 0, 6, .inl (fun _ => nI 0)) := by rw [← hCd]; exact (va_up_ne _ _ (by omega)).trans h6
  have h7 : C915 (g + 7) = .inl (ca 0, 6, .inl (fun _ => nI 0)) := by rw [← hCd]; exact (va_up_ne _ _ (by omega)).trans h7
  have h8 : C915 (g + 8) = .inl (ca 0, 1092, .inl (fun _ => nI 0)) := by rw [← hCd]; exact va_up_self _ _ _
  clear hCd
  refine xw_putF (v := .ref (b + (g + 8))) (ty := t_MO 10) hx hb hts (fun w h => mw (uw_MO w h)) t_MO t_MO_ok n_MO hown hK hP (fun k _ => Nat.le_add_right _ _) hS h0 (by omega) rfl 10 (by decide) (hts _ (mw tb_605)) (fun _ h => h) rfl hin rfl (by decide +kernel) rfl rfl (Nat.le_of_ble_eq_true rfl) d_MO_init_66 (fun H locs hP hS => ?_)
  generalize hCd : va_up C915 g _ = C916 at hP
  have hfr : ∀ k, k < g → C916 k = C0 k := fun k hk => by rw [← hCd]; exact (va_up_ne _ _ (by omega)).trans (hfr k hk)
  have h0 : C916 g = .inr (5, [.int (nI 0), .int (nI 0), .ref (b + (g + 1)), .ref (b + (g + 2)), .ref (b + (g + 3)), .int (nI 0), .ref (b + (g + 4)), .ref (b + (g + 5)), .ref (b + (g + 6)), .ref (b + (g + 7)), .ref (b + (g + 8)), .null, .null, .int (nI 0), .int (nI 0), .int (nI 0), .int (nI 0), .int (nI 0)]) := by rw [← hCd]; exact va_up_self _ _ _
  have h1 : C916 (g + 1) = .inl (ca 0, 72, .inl (fun _ => nI 0)) := by rw [← hCd]; exact (va_up_ne _ _ (by omega)).trans h1
  have h2 : C916 (g + 2) = .inl (ca 0, 6, .inl (fun _ => nI 0)) := by rw [← hCd]; exact (va_up_ne _ _ (by omega)).trans h2
  have h3 : C916 (g + 3) = .inl (ca 0, 6, .inl (fun _ => nI 0)) := by rw [← hCd]; exact (va_up_ne _ _ (by omega)).trans h3
  have h4 : C916 (g + 4) = .inl (ca 0, 6, .inl (fun _ => nI 0)) := by rw [← hCd]; exact (va_up_ne _ _ (by omega)).trans h4
  have h5 : C916 (g + 5) = .inl (ca 0, 6, .inl (fun _ => nI 0)) := by rw [← hCd]; exact (va_up_ne _ _ (by omega)).trans h5
  have h6 : C916 (g + 6) = .inl (ca 0, 6, .inl (fun _ => nI 0)) := by rw [← hCd]; exact (va_up_ne _ _ (by omega)).trans h6
  have h7 : C916 (g + 7) = .inl (ca 0, 6, .inl (fun _ => nI 0)) := by rw [← hCd]; exact (va_up_ne _ _ (by omega)).trans h7
  have h8 : C916 (g + 8) = .inl (ca 0, 1092, .inl (fun _ => nI 0)) := by rw [← hCd]; exact (va_up_ne _ _ (by omega)).trans h8
  clear hCd
  refine lv_aload_n hx hb d_MO_init_69 rfl (lv_at hl 0 rfl) ?_
  refine lv_bipush (v := nI 25) hx hb d_MO_init_70 (by decide) ?_
  refine xw_sz (n := g + 9) (by omega) hP (by omega) (fun hsz => ?_)
  refine xw_newa (atype := .int) (ty := .int) (a0 := (25, .inl (fun _ => nI 0))) hx hb 0 (hts _ (mw tb_44)) rfl hK rfl (hK.2 0 _ rfl).2 hP hS hsz rfl (by decide) (by decide) (by decide) (by decide) (by decide) d_MO_init_72 (fun H hP hsz hS => ?_)
  generalize hCd : va_up C916 (g + 9) _ = C917 at hP
  have hfr : ∀ k, k < g → C917 k = C0 k := fun k hk => by rw [← hCd]; exact (va_up_ne _ _ (by omega)).trans (hfr k hk)
  have h0 : C917 g = .inr (5, [.int (nI 0), .int (nI 0), .ref (b + (g + 1)), .ref (b + (g + 2)), .ref (b + (g + 3)), .int (nI 0), .ref (b + (g + 4)), .ref (b + (g + 5)), .ref (b + (g + 6)), .ref (b + (g + 7)), .ref (b + (g + 8)), .null, .null, .int (nI 0), .int (nI 0), .int (nI 0), .int (nI 0), .int (nI 0)]) := by rw [← hCd]; exact (va_up_ne _ _ (by omega)).trans h0
  have h1 : C917 (g + 1) = .inl (ca 0, 72, .inl (fun _ => nI 0)) := by rw [← hCd]; exact (va_up_ne _ _ (by omega)).trans h1
  have h2 : C917 (g + 2) = .inl (ca 0, 6, .inl (fun _ => nI 0)) := by rw [← hCd]; exact (va_up_ne _ _ (by omega)).trans h2
  have h3 : C917 (g + 3) = .inl (ca 0, 6, .inl (fun _ => nI 0)) := by rw [← hCd]; exact (va_up_ne _ _ (by omega)).trans h3
  have h4 : C917 (g + 4) = .inl (ca 0, 6, .inl (fun _ => nI 0)) := by rw [← hCd]; exact (va_up_ne _ _ (by omega)).trans h4
  have h5 : C917 (g + 5) = .inl (ca 0, 6, .inl (fun _ => nI 0)) := by rw [← hCd]; exact (va_up_ne _ _ (by omega)).trans h5
  have h6 : C917 (g + 6) = .inl (ca 0, 6, .inl (fun _ => nI 0)) := by rw [← hCd]; exact (va_up_ne _ _ (by omega)).trans h6
  have h7 : C917 (g + 7) = .inl (ca 0, 6, .inl (fun _ => nI 0)) := by rw [← hCd]; exact (va_up_ne _ _ (by omega)).trans h7
  have h8 : C917 (g + 8) = .inl (ca 0, 1092, .inl (fun _ => nI 0)) := by rw [← hCd]; exact (va_up_ne _ _ (by omega)).trans h8
  have h9 : C917 (g + 9) = .inl (ca 0, 25, .inl (fun _ => nI 0)) := by rw [← hCd]; exact va_up_self _ _ _
  clear hCd
  refine xw_putF (v := .ref (b + (g + 9))) (ty := t_MO 11) hx hb hts (fun w h => mw (uw_MO w h)) t_MO t_MO_ok n_MO hown hK hP (fun k _ => Nat.le_add_right _ _) hS h0 (by omega) rfl 11 (by decide) (hts _ (mw tb_606)) (fun _ h => h) rfl hin rfl (by decide +kernel) rfl rfl (Nat.le_of_ble_eq_true rfl) d_MO_init_74 (fun H locs hP hS => ?_)
  generalize hCd : va_up C917 g _ = C918 at hP
  have hfr : ∀ k, k < g → C918 k = C0 k := fun k hk => by rw [← hCd]; exact (va_up_ne _ _ (by omega)).trans (hfr k hk)
  have h0 : C918 g = .inr (5, [.int (nI 0), .int (nI 0), .ref (b + (g + 1)), .ref (b + (g + 2)), .ref (b + (g + 3)), .int (nI 0), .ref (b + (g + 4)), .ref (b + (g + 5)), .ref (b + (g + 6)), .ref (b + (g + 7)), .ref (b + (g + 8)), .ref (b + (g + 9)), .null, .int (nI 0), .int (nI 0), .int (nI 0), .int (nI 0), .int (nI 0)]) := by rw [← hCd]; exact va_up_self _ _ _
  have h1 : C918 (g + 1) = .inl (ca 0, 72, .inl (fun _ => nI 0)) := by rw [← hCd]; exact (va_up_ne _ _ (by omega)).trans h1
  have h2 : C918 (g + 2) = .inl (ca 0, 6, .inl (fun _ => nI 0)) := by rw [← hCd]; exact (va_up_ne _ _ (by omega)).trans h2
  have h3 : C918 (g + 3) = .inl (ca 0, 6, .inl (fun _ => nI 0)) := by rw [← hCd]; exact (va_up_ne _ _ (by omega)).trans h3
  have h4 : C918 (g + 4) = .inl (ca 0, 6, .inl (fun _ => nI 0)) := by rw [← hCd]; exact (va_up_ne _ _ (by omega)).trans h4
  have h5 : C918 (g + 5) = .inl (ca 0, 6, .inl (fun _ => nI 0)) := by rw [← hCd]; exact (va_up_ne _ _ (by omega)).trans h5
  have h6 : C918 (g + 6) = .inl (ca 0, 6, .inl (fun _ => nI 0)) := by rw [← hCd]; exact (va_up_ne _ _ (by omega)).trans h6
  have h7 : C918 (g + 7) = .inl (ca 0, 6, .inl (fun _ => nI 0)) := by rw [← hCd]; exact (va_up_ne _ _ (by omega)).trans h7
  have h8 : C918 (g + 8) = .inl (ca 0, 1092, .inl (fun _ => nI 0)) := by rw [← hCd]; exact (va_up_ne _ _ (by omega)).trans h8
  have h9 : C918 (g + 9) = .inl (ca 0, 25, .inl (fun _ => nI 0)) := by rw [← hCd]; exact (va_up_ne _ _ (by omega)).trans h9
  clear hCd
  refine lv_aload_n hx hb d_MO_init_77 rfl (lv_at hl 0 rfl) ?_
  refine lv_bipush (v := nI 6) hx hb d_MO_init_78 (by decide) ?_
  refine xw_sz (n := g + 10) (by omega) hP (by omega) (fun hsz => ?_)
  refine xw_newa (atype := .int) (ty := .int) (a0 := (6, .inl (fun _ => nI 0))) hx hb 0 (hts _ (mw tb_44)) rfl hK rfl (hK.2 0 _ rfl).2 hP hS hsz rfl (by decide) (by decide) (by decide) (by decide) (by decide) d_MO_init_80 (fun H hP hsz hS => ?_)
  generalize hCd : va_up C918 (g + 10) _ = C919 at hP
  have hfr : ∀ k, k < g → C919 k = C0 k := fun k hk => by rw [← hCd]; exact (va_up_ne _ _ (by omega)).trans (hfr k hk)
  have h0 : C919 g = .inr (5, [.int (nI 0), .int (nI 0), .ref (b + (g + 1)), .ref (b + (g + 2)), .ref (b + (g + 3)), .int (nI 0), .ref (b + (g + 4)), .ref (b + (g + 5)), .ref (b + (g + 6)), .ref (b + (g + 7)), .ref (b + (g + 8)), .ref (b + (g + 9)), .null, .int (nI 0), .int (nI 0), .int (nI 0), .int (nI 0), .int (nI 0)]) := by rw [← hCd]; exact (va_up_ne _ _ (by omega)).trans h0
  have h1 : C919 (g + 1) = .inl (ca 0, 72, .inl (fun _ => nI 0)) := by rw [← hCd]; exact (va_up_ne _ _ (by omega)).trans h1
  have h2 : C919 (g + 2) = .inl (ca 0, 6, .inl (fun _ => nI 0)) := by rw [← hCd]; exact (va_up_ne _ _ (by omega)).trans h2
  have h3 : C919 (g + 3) = .inl (ca 0, 6, .inl (fun _ => nI 0)) := by rw [← hCd]; exact (va_up_ne _ _ (by omega)).trans h3
  have h4 : C919 (g + 4) = .inl (ca 0, 6, .inl (fun _ => nI 0)) := by rw [← hCd]; exact (va_up_ne _ _ (by omega)).trans h4
  have h5 : C919 (g + 5) = .inl (ca 0, 6, .inl (fun _ => nI 0)) := by rw [← hCd]; exact (va_up_ne _ _ (by omega)).trans h5
  have h6 : C919 (g + 6) = .inl (ca 0, 6, .inl (fun _ => nI 0)) := by rw [← hCd]; exact (va_up_ne _ _ (by omega)).trans h6
  have h7 : C919 (g + 7) = .inl (ca 0, 6, .inl (fun _ => nI 0)) := by rw [← hCd]; exact (va_up_ne _ _ (by omega)).trans h7
  have h8 : C919 (g + 8) = .inl (ca 0, 1092, .inl (fun _ => nI 0)) := by rw [← hCd]; exact (va_up_ne _ _ (by omega)).trans h8
  have h9 : C919 (g + 9) = .inl (ca 0, 25, .inl (fun _ => nI 0)) := by rw [← hCd]; exact (va_up_ne _ _ (by omega)).trans h9
  have h10 : C919 (g + 10) = .inl (ca 0, 6, .inl (fun _ => nI 0)) := by rw [← hCd]; exact va_up_self _ _ _
  clear hCd
  refine xw_putF (v := .ref (b + (g + 10))) (ty := t_MO 12) hx hb hts (fun w h => mw (uw_MO w h)) t_MO t_MO_ok n_MO hown hK hP (fun k _ => Nat.le_add_right _ _) hS h0 (by omega) rfl 12 (by decide) (hts _ (mw tb_607)) (fun _ h => h) rfl hin rfl (by decide +kernel) rfl rfl (Nat.le_of_ble_eq_true rfl) d_MO_init_82 (fun H locs hP hS => ?_)
  generalize hCd : va_up C919 g _ = C920 at hP
  have hfr : ∀ k, k < g → C920 k = C0 k := fun k hk => by rw [← hCd]; exact (va_up_ne _ _ (by omega)).trans (hfr k hk)
  have h0 : C920 g = .inr (5, [.int (nI 0), .int (nI 0), .ref (b + (g + 1)), .ref (b + (g + 2)), .ref (b + (g + 3)), .int (nI 0), .ref (b + (g + 4)), .ref (b + (g + 5)), .ref (b + (g + 6)), .ref (b + (g + 7)), .ref (b + (g + 8)), .ref (b + (g + 9)), .ref (b + (g + 10)), .int (nI 0), .int (nI 0), .int (nI 0), .int (nI 0), .int (nI 0)]) := by rw [← hCd]; exact va_up_self _ _ _
  have h1 : C920 (g + 1) = .inl (ca 0, 72, .inl (fun _ => nI 0)) := by rw [← hCd]; exact (va_up_ne _ _ (by omega)).trans h1
  have h2 : C920 (g + 2) = .inl (ca 0, 6, .inl (fun _ => nI 0)) := by rw [← hCd]; exact (va_up_ne _ _ (by omega)).trans h2
  have h3 : C920 (g + 3) = .inl (ca 0, 6, .inl (fun _ => nI 0)) := by rw [← hCd]; exact (va_up_ne _ _ (by omega)).trans h3
  have h4 : C920 (g + 4) = .inl (ca 0, 6, .inl (fun _ => nI 0)) := by rw [← hCd]; exact (va_up_ne _ _ (by omega)).trans h4
  have h5 : C920 (g + 5) = .inl (ca 0, 6, .inl (fun _ => nI 0)) := by rw [← hCd]; exact (va_up_ne _ _ (by omega)).trans h5
  have h6 : C920 (g + 6) = .inl (ca 0, 6, .inl (fun _ => nI 0)) := by rw [← hCd]; exact (va_up_ne _ _ (by omega)).trans h6
  have h7 : C920 (g + 7) = .inl (ca 0, 6, .inl (fun _ => nI 0)) := by rw [← hCd]; exact (va_up_ne _ _ (by omega)).trans h7
  have h8 : C920 (g + 8) = .inl (ca 0, 1092, .inl (fun _ => nI 0)) := by rw [← hCd]; exact (va_up_ne _ _ (by omega)).trans h8
  have h9 : C920 (g + 9) = .inl (ca 0, 25, .inl (fun _ => nI 0)) := by rw [← hCd]; exact (va_up_ne _ _ (by omega)).trans h9
  have h10 : C920 (g + 10) = .inl (ca 0, 6, .inl (fun _ => nI 0)) := by rw [← hCd]; exact (va_up_ne _ _ (by omega)).trans h10
  clear hCd
  refine xw_sz (n := g + 11) (by omega) hP (by omega) (fun hsz => ?_)
  refine W.widen (k := 10) (n := 1231) (by decide) (by decide) ?_
  exact nw_ret hx hb hr hlocks hP hsz hS ⟨hfr, h0, h1, h2, h3, h4, h5, h6, h7, h8, h9, h10⟩ d_MO_init_85

