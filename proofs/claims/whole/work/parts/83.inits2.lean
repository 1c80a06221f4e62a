set_option maxHeartbeats 4000000 in
set_option maxRecDepth 100000 in
/-- the Dates are made -/
theorem c_DA_init (l : Launch) (D : va_G) (ca : Nat → ClassId) (b : Nat) (C0 : Nat → va_E) (g : Nat) (h0 : C0 g = .inr (1, [.null, .null, .null, .int (nI 0)])) : Met l y_DA_init (k_DA_init :: gw) ({ frames := 1, cells := 9, slots := 90, locals := 12 }) (nPc D ca b (g + 1) C0 [.ref (b + g)]) (nQ D b (g + 10) (fun C1 => (∀ k, k < g → C1 k = C0 k) ∧ C1 g = .inr (1, [.ref (b + (g + 1)), .ref (b + (g + 8)), .ref (b + (g + 9)), .int (nI 0)]) ∧ C1 (g + 1) = .inl (ca 4, 6, .inr (.inr (.inr (.inr (fun i => some (b + (g + 1 + 1 + i))))))) ∧ (∀ i, i < 6 → C1 (g + 1 + 1 + i) = .inl (ca 0, 12, .inl (fun _ => nI 0))) ∧ C1 (g + 8) = .inl (ca 0, 6, .inl (fun _ => nI 0)) ∧ C1 (g + 9) = .inl (ca 0, 6, .inl (fun _ => nI 0)))) 9 90 (fun q => b ≤ q) := by
  refine Met.ofW (cc := b_DA_init) (maxL := 1) (ret := none) (by decide) rfl ?_
  intro p e s m args below meth c s₁ B hml hv
  obtain ⟨hav, hP, hsz, hK, hZ⟩ := hv
  have hx := B.exec
  have hb := B.bytes
  have hr := B.returns
  have hts := atoms_spec (ws := k_DA_init :: gw) B.pre
  have hown : s.vm.findClass R_DA = some m.cls := findClass_of_methodNamed B.named
  have hlocks := B.notSynchronized
  have hin : meth.name = "<init>" := (name_of_methodNamed B.named B.method).1
  have hS : va_S (fun q => b ≤ q) s.heap s.heap [] := va_S.rf
  have hs0 : s.heap.size = b + (g + 1) := hsz
  have hfr : ∀ k, k < g → C0 k = C0 k := fun _ _ => rfl
  have hl := lv_entry ([.ref (b + g)]) (n := 1) (Nat.le_of_ble_eq_true rfl)
  rw [hav, lg_entry_eq]
  generalize (lg_sl ([.ref (b + g)]) ++ List.replicate (1 - (lg_sl ([.ref (b + g)])).length) Slot.unset).toArray = ls at hl ⊢
  have hl : lv_has ls 1 [(0, .ref (b + g))] := hl
  rw [← hav]
  refine lv_aload_n hx hb d_DA_init_0 rfl (lv_at hl 0 rfl) ?_
  refine W.objInit hx hb hown (hts _ (mw tb_28)) (hts _ (mw tb_21)) (hts _ (mw tb_22)) rfl (by rw [hml]; exact hl.1) rfl d_DA_init_1 (Nat.le_of_ble_eq_true rfl) (Nat.le_of_ble_eq_true rfl) ?_
  refine lv_aload_n hx hb d_DA_init_4 rfl (lv_at hl 0 rfl) ?_
  refine lv_bipush (v := nI 6) hx hb d_DA_init_5 (by decide) ?_
  refine lv_bipush (v := nI 12) hx hb d_DA_init_7 (by decide) ?_
  refine xw_mna hx hb hown (hts _ (mw tb_29)) hZ.2.2.2.2.2 (hts _ (mw tb_44)) hK hP hS hsz (by decide) (by decide) d_DA_init_9 (fun H C91 hP hsz hCo h1 hrw hS => ?_)
  have hfr : ∀ k, k < g → C91 k = C0 k := fun k hk => hCo k (by omega)
  have h0 : C91 g = .inr (1, [.null, .null, .null, .int (nI 0)]) := by rw [hCo g (by omega)]; exact h0
  refine xw_putF (v := .ref (b + (g + 1))) (ty := t_DA 0) hx hb hts (fun w h => mw (uw_DA w h)) t_DA t_DA_ok n_DA hown hK hP (fun k _ => Nat.le_add_right _ _) hS h0 (by omega) rfl 0 (by decide) (hts _ (mw tb_31)) (fun _ h => h) rfl hin rfl (by decide +kernel) rfl rfl (Nat.le_of_ble_eq_true rfl) d_DA_init_13 (fun H locs hP hS => ?_)
  generalize hCd : va_up C91 g _ = C92 at hP
  have hfr : ∀ k, k < g → C92 k = C0 k := fun k hk => by rw [← hCd]; exact (va_up_ne _ _ (by omega)).trans (hfr k hk)
  have h0 : C92 g = .inr (1, [.ref (b + (g + 1)), .null, .null, .int (nI 0)]) := by rw [← hCd]; exact va_up_self _ _ _
  have h1 : C92 (g + 1) = .inl (ca 4, 6, .inr (.inr (.inr (.inr (fun i => some (b + (g + 1 + 1 + i))))))) := by rw [← hCd]; exact (va_up_ne _ _ (by omega)).trans h1
  have hrw : ∀ i, i < 6 → C92 (g + 1 + 1 + i) = .inl (ca 0, 12, .inl (fun _ => nI 0)) := fun i hi => by rw [← hCd]; exact (va_up_ne _ _ (by omega)).trans (hrw i hi)
  clear hCd
  refine lv_aload_n hx hb d_DA_init_16 rfl (lv_at hl 0 rfl) ?_
  refine lv_bipush (v := nI 6) hx hb d_DA_init_17 (by decide) ?_
  refine xw_sz (n := g + 8) (by omega) hP (by omega) (fun hsz => ?_)
  refine xw_newa (atype := .int) (ty := .int) (a0 := (6, .inl (fun _ => nI 0))) hx hb 0 (hts _ (mw tb_44)) rfl hK rfl (hK.2 0 _ rfl).2 hP hS hsz rfl (by decide) (by decide) (by decide) (by decide) (by decide) d_DA_init_19 (fun H hP hsz hS => ?_)
  generalize hCd : va_up C92 (g + 8) _ = C93 at hP
  have hfr : ∀ k, k < g → C93 k = C0 k := fun k hk => by rw [← hCd]; exact (va_up_ne _ _ (by omega)).trans (hfr k hk)
  have h0 : C93 g = .inr (1, [.ref (b + (g + 1)), .null, .null, .int (nI 0)]) := by rw [← hCd]; exact (va_up_ne _ _ (by omega)).trans h0
  have h1 : C93 (g + 1) = .inl (ca 4, 6, .inr (.inr (.inr (.inr (fun i => some (b + (g + 1 + 1 + i))))))) := by rw [← hCd]; exact (va_up_ne _ _ (by omega)).trans h1
  have h8 : C93 (g + 8) = .inl (ca 0, 6, .inl (fun _ => nI 0)) := by rw [← hCd]; exact va_up_self _ _ _
  have hrw : ∀ i, i < 6 → C93 (g + 1 + 1 + i) = .inl (ca 0, 12, .inl (fun _ => nI 0)) := fun i hi => by rw [← hCd]; exact (va_up_ne _ _ (by omega)).trans (hrw i hi)
  clear hCd
  refine xw_putF (v := .ref (b + (g + 8))) (ty := t_DA 1) hx hb hts (fun w h => mw (uw_DA w h)) t_DA t_DA_ok n_DA hown hK hP (fun k _ => Nat.le_add_right _ _) hS h0 (by omega) rfl 1 (by decide) (hts _ (mw tb_32)) (fun _ h => h) rfl hin rfl (by decide +kernel) rfl rfl (Nat.le_of_ble_eq_true rfl) d_DA_init_21 (fun H locs hP hS => ?_)
  generalize hCd : va_up C93 g _ = C94 at hP
  have hfr : ∀ k, k < g → C94 k = C0 k := fun k hk => by rw [← hCd]; exact (va_up_ne _ _ (by omega)).trans (hfr k hk)
  have h0 : C94 g = .inr (1, [.ref (b + (g + 1)), .ref (b + (g + 8)), .null, .int (nI 0)]) := by rw [← hCd]; exact va_up_self _ _ _
  have h1 : C94 (g + 1) = .inl (ca 4, 6, .inr (.inr (.inr (.inr (fun i => some (b + (g + 1 + 1 + i))))))) := by rw [← hCd]; exact (va_up_ne _ _ (by omega)).trans h1
  have h8 : C94 (g + 8) = .inl (ca 0, 6, .inl (fun _ => nI 0)) := by rw [← hCd]; exact (va_up_ne _ _ (by omega)).trans h8
  have hrw : ∀ i, i < 6 → C94 (g + 1 + 1 + i) = .inl (ca 0, 12, .inl (fun _ => nI 0)) := fun i hi => by rw [← hCd]; exact (va_up_ne _ _ (by omega)).trans (hrw i hi)
  clear hCd
  refine lv_aload_n hx hb d_DA_init_24 rfl (lv_at hl 0 rfl) ?_
  refine lv_bipush (v := nI 6) hx hb d_DA_init_25 (by decide) ?_
  refine xw_sz (n := g + 9) (by omega) hP (by omega) (fun hsz => ?_)
  refine xw_newa (atype := .int) (ty := .int) (a0 := (6, .inl (fun _ => nI 0))) hx hb 0 (hts _ (mw tb_44)) rfl hK rfl (hK.2 0 _ rfl).2 hP hS hsz rfl (by decide) (by decide) (by decide) (by decide) (by decide) d_DA_init_27 (fun H hP hsz hS => ?_)
  generalize hCd : va_up C94 (g + 9) _ = C95 at hP
  have hfr : ∀ k, k < g → C95 k = C0 k := fun k hk => by rw [← hCd]; exact (va_up_ne _ _ (by omega)).trans (hfr k hk)
  have h0 : C95 g = .inr (1, [.ref (b + (g + 1)), .ref (b + (g + 8)), .null, .int (nI 0)]) := by rw [← hCd]; exact (va_up_ne _ _ (by omega)).trans h0
  have h1 : C95 (g + 1) = .inl (ca 4, 6, .inr (.inr (.inr (.inr (fun i => some (b + (g + 1 + 1 + i))))))) := by rw [← hCd]; exact (va_up_ne _ _ (by omega)).trans h1
  have h8 : C95 (g + 8) = .inl (ca 0, 6, .inl (fun _ => nI 0)) := by rw [← hCd]; exact (va_up_ne _ _ (by omega)).trans h8
  have h9 : C95 (g + 9) = .inl (ca 0, 6, .inl (fun _ => nI 0)) := by rw [← hCd]; exact va_up_self _ _ _
  have hrw : ∀ i, i < 6 → C95 (g + 1 + 1 + i) = .inl (ca 0, 12, .inl (fun _ => nI 0)) := fun i hi => by rw [← hCd]; exact (va_up_ne _ _ (by omega)).trans (hrw i hi)
  clear hCd
  refine xw_putF (v := .ref (b + (g + 9))) (ty := t_DA 2) hx hb hts (fun w h => mw (uw_DA w h)) t_DA t_DA_ok n_DA hown hK hP (fun k _ => Nat.le_add_right _ _) hS h0 (by omega) rfl 2 (by decide) (hts _ (mw tb_33)) (fun _ h => h) rfl hin rfl (by decide +kernel) rfl rfl (Nat.le_of_ble_eq_true rfl) d_DA_init_29 (fun H locs hP hS => ?_)
  generalize hCd : va_up C95 g _ = C96 at hP
  have hfr : ∀ k, k < g → C96 k = C0 k := fun k hk => by rw [← hCd]; exact (va_up_ne _ _ (by omega)).trans (hfr k hk)
  have h0 : C96 g = .inr (1, [.ref (b + (g + 1)), .ref (b + (g + 8)), .ref (b + (g + 9)), .int (nI 0)]) := by rw [← hCd]; exact va_up_self _ _ _
  have h1 : C96 (g + 1) = .inl (ca 4, 6, .inr (.inr (.inr (.inr (fun i => some (b + (g + 1 + 1 + i))))))) := by rw [← hCd]; exact (va_up_ne _ _ (by omega)).trans h1
  have h8 : C96 (g + 8) = .inl (ca 0, 6, .inl (fun _ => nI 0)) := by rw [← hCd]; exact (va_up_ne _ _ (by omega)).trans h8
  have h9 : C96 (g + 9) = .inl (ca 0, 6, .inl (fun _ => nI 0)) := by rw [← hCd]; exact (va_up_ne _ _ (by omega)).trans h9
  have hrw : ∀ i, i < 6 → C96 (g + 1 + 1 + i) = .inl (ca 0, 12, .inl (fun _ => nI 0)) := fun i hi => by rw [← hCd]; exact (va_up_ne _ _ (by omega)).trans (hrw i hi)
  clear hCd
  refine lv_aload_n hx hb d_DA_init_32 rfl (lv_at hl 0 rfl) ?_
  refine lv_iconst (v := nI 0) hx hb d_DA_init_33 (by decide) ?_
  refine xw_put (v := .int (nI 0)) (ty := t_DA 3) hx hb hts (fun w h => mw (uw_DA w h)) t_DA t_DA_ok n_DA hown hK hP (fun k _ => Nat.le_add_right _ _) hS h0 (by omega) rfl 3 (by decide) (hts _ (mw tb_34)) (fun _ h => h) rfl (by decide +kernel) rfl rfl (Nat.le_of_ble_eq_true rfl) d_DA_init_34 (fun H locs hP hS => ?_)
  generalize hCd : va_up C96 g _ = C97 at hP
  have hfr : ∀ k, k < g → C97 k = C0 k := fun k hk => by rw [← hCd]; exact (va_up_ne _ _ (by omega)).trans (hfr k hk)
  have h0 : C97 g = .inr (1, [.ref (b + (g + 1)), .ref (b + (g + 8)), .ref (b + (g + 9)), .int (nI 0)]) := by rw [← hCd]; exact va_up_self _ _ _
  have h1 : C97 (g + 1) = .inl (ca 4, 6, .inr (.inr (.inr (.inr (fun i => some (b + (g + 1 + 1 + i))))))) := by rw [← hCd]; exact (va_up_ne _ _ (by omega)).trans h1
  have h8 : C97 (g + 8) = .inl (ca 0, 6, .inl (fun _ => nI 0)) := by rw [← hCd]; exact (va_up_ne _ _ (by omega)).trans h8
  have h9 : C97 (g + 9) = .inl (ca 0, 6, .inl (fun _ => nI 0)) := by rw [← hCd]; exact (va_up_ne _ _ (by omega)).trans h9
  have hrw : ∀ i, i < 6 → C97 (g + 1 + 1 + i) = .inl (ca 0, 12, .inl (fun _ => nI 0)) := fun i hi => by rw [← hCd]; exact (va_up_ne _ _ (by omega)).trans (hrw i hi)
  clear hCd
  refine xw_sz (n := g + 10) (by omega) hP (by omega) (fun hsz => ?_)
  refine W.widen (k := 9) (n := 90) (by decide) (by decide) ?_
  exact nw_ret hx hb hr hlocks hP hsz hS ⟨hfr, h0, h1, hrw, h8, h9⟩ d_DA_init_37

set_option maxHeartbeats 4000000 in
set_option maxRecDepth 100000 in
/-- the Telling is made -/
theorem c_TE_init (l : Launch) (D : va_G) (ca : Nat → ClassId) (b : Nat) (C0 : Nat → va_E) (g : Nat) (h0 : C0 g = .inr (4, [.null, .null, .null, .null, .null, .null, .int (nI 0), .int (nI 0)])) : Met l y_TE_init (k_TE_init :: gw) ({ frames := 1, cells := 6, slots := 36, locals := 12 }) (nPc D ca b (g + 1) C0 [.ref (b + g)]) (nQ D b (g + 7) (fun C1 => (∀ k, k < g → C1 k = C0 k) ∧ C1 g = .inr (4, [.ref (b + (g + 1)), .ref (b + (g + 2)), .ref (b + (g + 3)), .ref (b + (g + 4)), .ref (b + (g + 5)), .ref (b + (g + 6)), .int (nI 0), .int (nI 0)]) ∧ C1 (g + 1) = .inl (ca 0, 6, .inl (fun _ => nI 0)) ∧ C1 (g + 2) = .inl (ca 0, 6, .inl (fun _ => nI 0)) ∧ C1 (g + 3) = .inl (ca 0, 6, .inl (fun _ => nI 0)) ∧ C1 (g + 4) = .inl (ca 0, 6, .inl (fun _ => nI 0)) ∧ C1 (g + 5) = .inl (ca 2, 6, .inl (fun _ => nI 0)) ∧ C1 (g + 6) = .inl (ca 0, 6, .inl (fun _ => nI 0)))) 6 36 (fun q => b ≤ q) := by
  refine Met.ofW (cc := b_TE_init) (maxL := 1) (ret := none) (by decide) rfl ?_
  intro p e s m args below meth c s₁ B hml hv
  obtain ⟨hav, hP, hsz, hK, hZ⟩ := hv
  have hx := B.exec
  have hb := B.bytes
  have hr := B.returns
  have hts := atoms_spec (ws := k_TE_init :: gw) B.pre
  have hown : s.vm.findClass R_TE = some m.cls := findClass_of_methodNamed B.named
  have hlocks := B.notSynchronized
  have hin : meth.name = "<init>" := (name_of_methodNamed B.named B.method).1
  have hS : va_S (fun q => b ≤ q) s.heap s.heap [] := va_S.rf
  have hs0 : s.heap.size = b + (g + 1) := hsz
  have hfr : ∀ k, k < g → C0 k = C0 k := fun _ _ => rfl
  have hl := lv_entry ([.ref (b + g)]) (n := 1) (Nat.le_of_ble_eq_true rfl)
  rw [hav, lg_entry_eq]
  generalize (lg_sl ([.ref (b + g)]) ++ List.replicate (1 - (lg_sl ([.ref (b + g)])).length) Slot.unset).toArray = ls at hl ⊢
  have hl : lv_has ls 1 [(0, .ref (b + g))] := hl
  rw [← hav]
  refine lv_aload_n hx hb d_TE_init_0 rfl (lv_at hl 0 rfl) ?_
  refine W.objInit hx hb hown (hts _ (mw tb_50)) (hts _ (mw tb_21)) (hts _ (mw tb_22)) rfl (by rw [hml]; exact hl.1) rfl d_TE_init_1 (Nat.le_of_ble_eq_true rfl) (Nat.le_of_ble_eq_true rfl) ?_
  refine lv_aload_n hx hb d_TE_init_4 rfl (lv_at hl 0 rfl) ?_
  refine lv_bipush (v := nI 6) hx hb d_TE_init_5 (by decide) ?_
  refine xw_newa (atype := .int) (ty := .int) (a0 := (6, .inl (fun _ => nI 0))) hx hb 0 (hts _ (mw tb_44)) rfl hK rfl (hK.2 0 _ rfl).2 hP hS hsz rfl (by decide) (by decide) (by decide) (by decide) (by decide) d_TE_init_7 (fun H hP hsz hS => ?_)
  generalize hCd : va_up C0 (g + 1) _ = C91 at hP
  have hfr : ∀ k, k < g → C91 k = C0 k := fun k hk => by rw [← hCd]; exact (va_up_ne _ _ (by omega)).trans (hfr k hk)
  have h0 : C91 g = .inr (4, [.null, .null, .null, .null, .null, .null, .int (nI 0), .int (nI 0)]) := by rw [← hCd]; exact (va_up_ne _ _ (by omega)).trans h0
  have h1 : C91 (g + 1) = .inl (ca 0, 6, .inl (fun _ => nI 0)) := by rw [← hCd]; exact va_up_self _ _ _
  clear hCd
  refine xw_putF (v := .ref (b + (g + 1))) (ty := t_TE 0) hx hb hts (fun w h => mw (uw_TE w h)) t_TE t_TE_ok n_TE hown hK hP (fun k _ => Nat.le_add_right _ _) hS h0 (by omega) rfl 0 (by decide) (hts _ (mw tb_51)) (fun _ h => h) rfl hin rfl (by decide +kernel) rfl rfl (Nat.le_of_ble_eq_true rfl) d_TE_init_9 (fun H locs hP hS => ?_)
  generalize hCd : va_up C91 g _ = C92 at hP
  have hfr : ∀ k, k < g → C92 k = C0 k := fun k hk => by rw [← hCd]; exact (va_up_ne _ _ (by omega)).trans (hfr k hk)
  have h0 : C92 g = .inr (4, [.ref (b + (g + 1)), .null, .null, .null, .null, .null, .int (nI 0), .int (nI 0)]) := by rw [← hCd]; exact va_up_self _ _ _
  have h1 : C92 (g + 1) = .inl (ca 0, 6, .inl (fun _ => nI 0)) := by rw [← hCd]; exact (va_up_ne _ _ (by omega)).trans h1
  clear hCd
  refine lv_aload_n hx hb d_TE_init_12 rfl (lv_at hl 0 rfl) ?_
  refine lv_bipush (v := nI 6) hx hb d_TE_init_13 (by decide) ?_
  refine xw_sz (n := g + 2) (by omega) hP (by omega) (fun hsz => ?_)
  refine xw_newa (atype := .int) (ty := .int) (a0 := (6, .inl (fun _ => nI 0))) hx hb 0 (hts _ (mw tb_44)) rfl hK rfl (hK.2 0 _ rfl).2 hP hS hsz rfl (by decide) (by decide) (by decide) (by decide) (by decide) d_TE_init_15 (fun H hP hsz hS => ?_)
  generalize hCd : va_up C92 (g + 2) _ = C93 at hP
  have hfr : ∀ k, k < g → C93 k = C0 k := fun k hk => by rw [← hCd]; exact (va_up_ne _ _ (by omega)).trans (hfr k hk)
  have h0 : C93 g = .inr (4, [.ref (b + (g + 1)), .null, .null, .null, .null, .null, .int (nI 0), .int (nI 0)]) := by rw [← hCd]; exact (va_up_ne _ _ (by omega)).trans h0
  have h1 : C93 (g + 1) = .inl (ca 0, 6, .inl (fun _ => nI 0)) := by rw [← hCd]; exact (va_up_ne _ _ (by omega)).trans h1
  have h2 : C93 (g + 2) = .inl (ca 0, 6, .inl (fun _ => nI 0)) := by rw [← hCd]; exact va_up_self _ _ _
  clear hCd
  refine xw_putF (v := .ref (b + (g + 2))) (ty := t_TE 1) hx hb hts (fun w h => mw (uw_TE w h)) t_TE t_TE_ok n_TE hown hK hP (fun k _ => Nat.le_add_right _ _) hS h0 (by omega) rfl 1 (by decide) (hts _ (mw tb_52)) (fun _ h => h) rfl hin rfl (by decide +kernel) rfl rfl (Nat.le_of_ble_eq_true rfl) d_TE_init_17 (fun H locs hP hS => ?_)
  generalize hCd : va_up C93 g _ = C94 at hP
  have hfr : ∀ k, k < g → C94 k = C0 k := fun k hk => by rw [← hCd]; exact (va_up_ne _ _ (by omega)).trans (hfr k hk)
  have h0 : C94 g = .inr (4, [.ref (b + (g + 1)), .ref (b + (g + 2)), .null, .null, .null, .null, .int (nI 0), .int (nI 0)]) := by rw [← hCd]; exact va_up_self _ _ _
  have h1 : C94 (g + 1) = .inl (ca 0, 6, .inl (fun _ => nI 0)) := by rw [← hCd]; exact (va_up_ne _ _ (by omega)).trans h1
  have h2 : C94 (g + 2) = .inl (ca 0, 6, .inl (fun _ => nI 0)) := by rw [← hCd]; exact (va_up_ne _ _ (by omega)).trans h2
  clear hCd
  refine lv_aload_n hx hb d_TE_init_20 rfl (lv_at hl 0 rfl) ?_
  refine lv_bipush (v := nI 6) hx hb d_TE_init_21 (by decide) ?_
  refine xw_sz (n := g + 3) (by omega) hP (by omega) (fun hsz => ?_)
  refine xw_newa (atype := .int) (ty := .int) (a0 := (6, .inl (fun _ => nI 0))) hx hb 0 (hts _ (mw tb_44)) rfl hK rfl (hK.2 0 _ rfl).2 hP hS hsz rfl (by decide) (by decide) (by decide) (by decide) (by decide) d_TE_init_23 (fun H hP hsz hS => ?_)
  generalize hCd : va_up C94 (g + 3) _ = C95 at hP
  have hfr : ∀ k, k < g → C95 k = C0 k := fun k hk => by rw [← hCd]; exact (va_up_ne _ _ (by omega)).trans (hfr k hk)
  have h0 : C95 g = .inr (4, [.ref (b + (g + 1)), .ref (b + (g + 2)), .null, .null, .null, .null, .int (nI 0), .int (nI 0)]) := by rw [← hCd]; exact (va_up_ne _ _ (by omega)).trans h0
  have h1 : C95 (g + 1) = .inl (ca 0, 6, .inl (fun _ => nI 0)) := by rw [← hCd]; exact (va_up_ne _ _ (by omega)).trans h1
  have h2 : C95 (g + 2) = .inl (ca 0, 6, .inl (fun _ => nI 0)) := by rw [← hCd]; exact (va_up_ne _ _ (by omega)).trans h2
  have h3 : C95 (g + 3) = .inl (ca 0, 6, .inl (fun _ => nI 0)) := by rw [← hCd]; exact va_up_self _ _ _
  clear hCd
  refine xw_putF (v := .ref (b + (g + 3))) (ty := t_TE 2) hx hb hts (fun w h => mw (uw_TE w h)) t_TE t_TE_ok n_TE hown hK hP (fun k _ => Nat.le_add_right _ _) hS h0 (by omega) rfl 2 (by decide) (hts _ (mw tb_53)) (fun _ h => h) rfl hin rfl (by decide +kernel) rfl rfl (Nat.le_of_ble_eq_true rfl) d_TE_init_25 (fun H locs hP hS => ?_)
  generalize hCd : va_up C95 g _ = C96 at hP
  have hfr : ∀ k, k < g → C96 k = C0 k := fun k hk => by rw [← hCd]; exact (va_up_ne _ _ (by omega)).trans (hfr k hk)
  have h0 : C96 g = .inr (4, [.ref (b + (g + 1)), .ref (b + (g + 2)), .ref (b + (g + 3)), .null, .null, .null, .int (nI 0), .int (nI 0)]) := by rw [← hCd]; exact va_up_self _ _ _
  have h1 : C96 (g + 1) = .inl (ca 0, 6, .inl (fun _ => nI 0)) := by rw [← hCd]; exact (va_up_ne _ _ (by omega)).trans h1
  have h2 : C96 (g + 2) = .inl (ca 0, 6, .inl (fun _ => nI 0)) := by rw [← hCd]; exact (va_up_ne _ _ (by omega)).trans h2
  have h3 : C96 (g + 3) = .inl (ca 0, 6, .inl (fun _ => nI 0)) := by rw [← hCd]; exact (va_up_ne _ _ (by omega)).trans h3
  clear hCd
  refine lv_aload_n hx hb d_TE_init_28 rfl (lv_at hl 0 rfl) ?_
  refine lv_bipush (v := nI 6) hx hb d_TE_init_29 (by decide) ?_
  refine xw_sz (n := g + 4) (by omega) hP (by omega) (fun hsz => ?_)
  refine xw_newa (atype := .int) (ty := .int) (a0 := (6, .inl (fun _ => nI 0))) hx hb 0 (hts _ (mw tb_44)) rfl hK rfl (hK.2 0 _ rfl).2 hP hS hsz rfl (by decide) (by decide) (by decide) (by decide) (by decide) d_TE_init_31 (fun H hP hsz hS => ?_)
  generalize hCd : va_up C96 (g + 4) _ = C97 at hP
  have hfr : ∀ k, k < g → C97 k = C0 k := fun k hk => by rw [← hCd]; exact (va_up_ne _ _ (by omega)).trans (hfr k hk)
  have h0 : C97 g = .inr (4, [.ref (b + (g + 1)), .ref (b + (g + 2)), .ref (b + (g + 3)), .null, .null, .null, .int (nI 0), .int (nI 0)]) := by rw [← hCd]; exact (va_up_ne _ _ (by omega)).trans h0
  have h1 : C97 (g + 1) = .inl (ca 0, 6, .inl (fun _ => nI 0)) := by rw [← hCd]; exact (va_up_ne _ _ (by omega)).trans h1
  have h2 : C97 (g + 2) = .inl (ca 0, 6, .inl (fun _ => nI 0)) := by rw [← hCd]; exact (va_up_ne _ _ (by omega)).trans h2
  have h3 : C97 (g + 3) = .inl (ca 0, 6, .inl (fun _ => nI 0)) := by rw [← hCd]; exact (va_up_ne _ _ (by omega)).trans h3
  have h4 : C97 (g + 4) = .inl (ca 0, 6, .inl (fun _ => nI 0)) := by rw [← hCd]; exact va_up_self _ _ _
  clear hCd
  refine xw_putF (v := .ref (b + (g + 4))) (ty := t_TE 3) hx hb hts (fun w h => mw (uw_TE w h)) t_TE t_TE_ok n_TE hown hK hP (fun k _ => Nat.le_add_right _ _) hS h0 (by omega) rfl 3 (by decide) (hts _ (mw tb_54)) (fun _ h => h) rfl hin rfl (by decide +kernel) rfl rfl (Nat.le_of_ble_eq_true rfl) d_TE_init_33 (fun H locs hP hS => ?_)
  generalize hCd : va_up C97 g _ = C98 at hP
  have hfr : ∀ k, k < g → C98 k = C0 k := fun k hk => by rw [← hCd]; exact (va_up_ne _ _ (by omega)).trans (hfr k hk)
  have h0 : C98 g = .inr (4, [.ref (b + (g + 1)), .ref (b + (g + 2)), .ref (b + (g + 3)), .ref (b + (g + 4)), .null, .null, .int (nI 0), .int (nI 0)]) := by rw [← hCd]; exact va_up_self _ _ _
  have h1 : C98 (g + 1) = .inl (ca 0, 6, .inl (fun _ => nI 0)) := by rw [← hCd]; exact (va_up_ne _ _ (by omega)).trans h1
  have h2 : C98 (g + 2) = .inl (ca 0, 6, .inl (fun _ => nI 0)) := by rw [← hCd]; exact (va_up_ne _ _ (by omega)).trans h2
  have h3 : C98 (g + 3) = .inl (ca 0, 6, .inl (fun _ => nI 0)) := by rw [← hCd]; exact (va_up_ne _ _ (by omega)).trans h3
  have h4 : C98 (g + 4) = .inl (ca 0, 6, .inl (fun _ => nI 0)) := by rw [← hCd]; exact (va_up_ne _ _ (by omega)).trans h4
  clear hCd
  refine lv_aload_n hx hb d_TE_init_36 rfl (lv_at hl 0 rfl) ?_
  refine lv_bipush (v := nI 6) hx hb d_TE_init_37 (by decide) ?_
  refine xw_sz (n := g + 5) (by omega) hP (by omega) (fun hsz => ?_)
  refine xw_newa (atype := .boolean) (ty := .boolean) (a0 := (6, .inl (fun _ => nI 0))) hx hb 2 (hts _ (mw tb_76)) rfl hK rfl (hK.2 2 _ rfl).2 hP hS hsz rfl (by decide) (by decide) (by decide) (by decide) (by decide) d_TE_init_39 (fun H hP hsz hS => ?_)
  generalize hCd : va_up C98 (g + 5) _ = C99 at hP
  have hfr : ∀ k, k < g → C99 k = C0 k := fun k hk => by rw [← hCd]; exact (va_up_ne _ _ (by omega)).trans (hfr k hk)
  have h0 : C99 g = .inr (4, [.ref (b + (g + 1)), .ref (b + (g + 2)), .ref (b + (g + 3)), .ref (b + (g + 4)), .null, .null, .int (nI 0), .int (nI 0)]) := by rw [← hCd]; exact (va_up_ne _ _ (by omega)).trans h0
  have h1 : C99 (g + 1) = .inl (ca 0, 6, .inl (fun _ => nI 0)) := by rw [← hCd]; exact (va_up_ne _ _ (by omega)).trans h1
  have h2 : C99 (g + 2) = .inl (ca 0, 6, .inl (fun _ => nI 0)) := by rw [← hCd]; exact (va_up_ne _ _ (by omega)).trans h2
  have h3 : C99 (g + 3) = .inl (ca 0, 6, .inl (fun _ => nI 0)) := by rw [← hCd]; exact (va_up_ne _ _ (by omega)).trans h3
  have h4 : C99 (g + 4) = .inl (ca 0, 6, .inl (fun _ => nI 0)) := by rw [← hCd]; exact (va_up_ne _ _ (by omega)).trans h4
  have h5 : C99 (g + 5) = .inl (ca 2, 6, .inl (fun _ => nI 0)) := by rw [← hCd]; exact va_up_self _ _ _
  clear hCd
  refine xw_putF (v := .ref (b + (g + 5))) (ty := t_TE 4) hx hb hts (fun w h => mw (uw_TE w h)) t_TE t_TE_ok n_TE hown hK hP (fun k _ => Nat.le_add_right _ _) hS h0 (by omega) rfl 4 (by decide) (hts _ (mw tb_55)) (fun _ h => h) rfl hin rfl (by decide +kernel) rfl rfl (Nat.le_of_ble_eq_true rfl) d_TE_init_41 (fun H locs hP hS => ?_)
  generalize hCd : va_up C99 g _ = C910 at hP
  have hfr : ∀ k, k < g → C910 k = C0 k := fun k hk => by rw [← hCd]; exact (va_up_ne _ _ (by omega)).trans (hfr k hk)
  have h0 : C910 g = .inr (4, [.ref (b + (g + 1)), .ref (b + (g + 2)), .ref (b + (g + 3)), .ref (b + (g + 4)), .ref (b + (g + 5)), .null, .int (nI 0), .int (nI 0)]) := by rw [← hCd]; exact va_up_self _ _ _
  have h1 : C910 (g + 1) = .inl (ca 0, 6, .inl (fun _ => nI 0)) := by rw [← hCd]; exact (va_up_ne _ _ (by omega)).trans h1
  have h2 : C910 (g + 2) = .inl (ca 0, 6, .inl (fun _ => nI 0)) := by rw [← hCd]; exact (va_up_ne _ _ (by omega)).trans h2
  have h3 : C910 (g + 3) = .inl (ca 0, 6, .inl (fun _ => nI 0)) := by rw [← hCd]; exact (va_up_ne _ _ (by omega)).trans h3
  have h4 : C910 (g + 4) = .inl (ca 0, 6, .inl (fun _ => nI 0)) := by rw [← hCd]; exact (va_up_ne _ _ (by omega)).trans h4
  have h5 : C910 (g + 5) = .inl (ca 2, 6, .inl (fun _ => nI 0)) := by rw [← hCd]; exact (va_up_ne _ _ (by omega)).trans h5
  clear hCd
  refine lv_aload_n hx hb d_TE_init_44 rfl (lv_at hl 0 rfl) ?_
  refine lv_bipush (v := nI 6) hx hb d_TE_init_45 (by decide) ?_
  refine xw_sz (n := g + 6) (by omega) hP (by omega) (fun hsz => ?_)
  refine xw_newa (atype := .int) (ty := .int) (a0 := (6, .inl (fun _ => nI 0))) hx hb 0 (hts _ (mw tb_44)) rfl hK rfl (hK.2 0 _ rfl).2 hP hS hsz rfl (by decide) (by decide) (by decide) (by decide) (by decide) d_TE_init_47 (fun H hP hsz hS => ?_)
  generalize hCd : va_up C910 (g + 6) _ = C911 at hP
  have hfr : ∀ k, k < g → C911 k = C0 k := fun k hk => by rw [← hCd]; exact (va_up_ne _ _ (by omega)).trans (hfr k hk)
  have h0 : C911 g = .inr (4, [.ref (b + (g + 1)), .ref (b + (g + 2)), .ref (b + (g + 3)), .ref (b + (g + 4)), .ref (b + (g + 5)), .null, .int (nI 0), .int (nI 0)]) := by rw [← hCd]; exact (va_up_ne _ _ (by omega)).trans h0
  have h1 : C911 (g + 1) = .inl (ca 0, 6, .inl (fun _ => nI 0)) := by rw [← hCd]; exact (va_up_ne _ _ (by omega)).trans h1
  have h2 : C911 (g + 2) = .inl (ca 0, 6, .inl (fun _ => nI 0)) := by rw [← hCd]; exact (va_up_ne _ _ (by omega)).trans h2
  have h3 : C911 (g + 3) = .inl (ca 0, 6, .inl (fun _ => nI 0)) := by rw [← hCd]; exact (va_up_ne _ _ (by omega)).trans h3
  have h4 : C911 (g + 4) = .inl (ca 0, 6, .inl (fun _ => nI 0)) := by rw [← hCd]; exact (va_up_ne _ _ (by omega)).trans h4
  have h5 : C911 (g + 5) = .inl (ca 2, 6, .inl (fun _ => nI 0)) := by rw [← hCd]; exact (va_up_ne _ _ (by omega)).trans h5
  have h6 : C911 (g + 6) = .inl (ca 0, 6, .inl (fun _ => nI 0)) := by rw [← hCd]; exact va_up_self _ _ _
  clear hCd
  refine xw_putF (v := .ref (b + (g + 6))) (ty := t_TE 5) hx hb hts (fun w h => mw (uw_TE w h)) t_TE t_TE_ok n_TE hown hK hP (fun k _ => Nat.le_add_right _ _) hS h0 (by omega) rfl 5 (by decide) (hts _ (mw tb_56)) (fun _ h => h) rfl hin rfl (by decide +kernel) rfl rfl (Nat.le_of_ble_eq_true rfl) d_TE_init_49 (fun H locs hP hS => ?_)
  generalize hCd : va_up C911 g _ = C912 at hP
  have hfr : ∀ k, k < g → C912 k = C0 k := fun k hk => by rw [← hCd]; exact (va_up_ne _ _ (by omega)).trans (hfr k hk)
  have h0 : C912 g = .inr (4, [.ref (b + (g + 1)), .ref (b + (g + 2)), .ref (b + (g + 3)), .ref (b + (g + 4)), .ref (b + (g + 5)), .ref (b + (g + 6)), .int (nI 0), .int (nI 0)]) := by rw [← hCd]; exact va_up_self _ _ _
  have h1 : C912 (g + 1) = .inl (ca 0, 6, .inl (fun _ => nI 0)) := by rw [← hCd]; exact (va_up_ne _ _ (by omega)).trans h1
  have h2 : C912 (g + 2) = .inl (ca 0, 6, .inl (fun _ => nI 0)) := by rw [← hCd]; exact (va_up_ne _ _ (by omega)).trans h2
  have h3 : C912 (g + 3) = .inl (ca 0, 6, .inl (fun _ => nI 0)) := by rw [← hCd]; exact (va_up_ne _ _ (by omega)).trans h3
  have h4 : C912 (g + 4) = .inl (ca 0, 6, .inl (fun _ => nI 0)) := by rw [← hCd]; exact (va_up_ne _ _ (by omega)).trans h4
  have h5 : C912 (g + 5) = .inl (ca 2, 6, .inl (fun _ => nI 0)) := by rw [← hCd]; exact (va_up_ne _ _ (by omega)).trans h5
  have h6 : C912 (g + 6) = .inl (ca 0, 6, .inl (fun _ => nI 0)) := by rw [← hCd]; exact (va_up_ne _ _ (by omega)).trans h6
  clear hCd
  refine lv_aload_n hx hb d_TE_init_52 rfl (lv_at hl 0 rfl) ?_
  refine lv_iconst (v := nI 0) hx hb d_TE_init_53 (by decide) ?_
  refine xw_put (v := .int (nI 0)) (ty := t_TE 6) hx hb hts (fun w h => mw (uw_TE w h)) t_TE t_TE_ok n_TE hown hK hP (fun k _ => Nat.le_add_right _ _) hS h0 (by omega) rfl 6 (by decide) (hts _ (mw tb_57)) (fun _ h => h) rfl (by decide +kernel) rfl rfl (Nat.le_of_ble_eq_true rfl) d_TE_init_54 (fun H locs hP hS => ?_)
  generalize hCd : va_up C912 g _ = C913 at hP
  have hfr : ∀ k, k < g → C913 k = C0 k := fun k hk => by rw [← hCd]; exact (va_up_ne _ _ (by omega)).trans (hfr k hk)
  have h0 : C913 g = .inr (4, [.ref (b + (g + 1)), .ref (b + (g + 2)), .ref (b + (g + 3)), .ref (b + (g + 4)), .ref (b + (g + 5)), .ref (b + (g + 6)), .int (nI 0), .int (nI 0)]) := by rw [← hCd]; exact va_up_self _ _ _
  have h1 : C913 (g + 1) = .inl (ca 0, 6, .inl (fun _ => nI 0)) := by rw [← hCd]; exact (va_up_ne _ _ (by omega)).trans h1
  have h2 : C913 (g + 2) = .inl (ca 0, 6, .inl (fun _ => nI 0)) := by rw [← hCd]; exact (va_up_ne _ _ (by omega)).trans h2
  have h3 : C913 (g + 3) = .inl (ca 0, 6, .inl (fun _ => nI 0)) := by rw [← hCd]; exact (va_up_ne _ _ (by omega)).trans h3
  have h4 : C913 (g + 4) = .inl (ca 0, 6, .inl (fun _ => nI 0)) := by rw [← hCd]; exact (va_up_ne _ _ (by omega)).trans h4
  have h5 : C913 (g + 5) = .inl (ca 2, 6, .inl (fun _ => nI 0)) := by rw [← hCd]; exact (va_up_ne _ _ (by omega)).trans h5
  have h6 : C913 (g + 6) = .inl (ca 0, 6, .inl (fun _ => nI 0)) := by rw [← hCd]; exact (va_up_ne _ _ (by omega)).trans h6
  clear hCd
  refine lv_aload_n hx hb d_TE_init_57 rfl (lv_at hl 0 rfl) ?_
  refine lv_iconst (v := nI 0) hx hb d_TE_init_58 (by decide) ?_
  refine xw_put (v := .int (nI 0)) (ty := t_TE 7) hx hb hts (fun w h => mw (uw_TE w h)) t_TE t_TE_ok n_TE hown hK hP (fun k _ => Nat.le_add_right _ _) hS h0 (by omega) rfl 7 (by decide) (hts _ (mw tb_58)) (fun _ h => h) rfl (by decide +kernel) rfl rfl (Nat.le_of_ble_eq_true rfl) d_TE_init_59 (fun H locs hP hS => ?_)
  generalize hCd : va_up C913 g _ = C914 at hP
  have hfr : ∀ k, k < g → C914 k = C0 k := fun k hk => by rw [← hCd]; exact (va_up_ne _ _ (by omega)).trans (hfr k hk)
  have h0 : C914 g = .inr (4, [.ref (b + (g + 1)), .ref (b + (g + 2)), .ref (b + (g + 3)), .ref (b + (g + 4)), .ref (b + (g + 5)), .ref (b + (g + 6)), .int (nI 0), .int (nI 0)]) := by rw [← hCd]; exact va_up_self _ _ _
  have h1 : C914 (g + 1) = .inl (ca 0, 6, .inl (fun _ => nI 0)) := by rw [← hCd]; exact (va_up_ne _ _ (by omega)).trans h1
  have h2 : C914 (g + 2) = .inl (ca 0, 6, .inl (fun _ => nI 0)) := by rw [← hCd]; exact (va_up_ne _ _ (by omega)).trans h2
  have h3 : C914 (g + 3) = .inl (ca 0, 6, .inl (fun _ => nI 0)) := by rw [← hCd]; exact (va_up_ne _ _ (by omega)).trans h3
  have h4 : C914 (g + 4) = .inl (ca 0, 6, .inl (fun _ => nI 0)) := by rw [← hCd]; exact (va_up_ne _ _ (by omega)).trans h4
  have h5 : C914 (g + 5) = .inl (ca 2, 6, .inl (fun _ => nI 0)) := by rw [← hCd]; exact (va_up_ne _ _ (by omega)).trans h5
  have h6 : C914 (g + 6) = .inl (ca 0, 6, .inl (fun _ => nI 0)) := by rw [← hCd]; exact (va_up_ne _ _ (by omega)).trans h6
  clear hCd
  refine xw_sz (n := g + 7) (by omega) hP (by omega) (fun hsz => ?_)
  refine W.widen (k := 6) (n := 36) (by decide) (by decide) ?_
  exact nw_ret hx hb hr hlocks hP hsz hS ⟨hfr, h0, h1, h2, h3, h4, h5, h6⟩ d_TE_init_62

