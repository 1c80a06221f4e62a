/-! The Model: weight, outlier, row, member, count -/
/-- an int that is a date, a number below n -/
def isN (v : Int32) (n : Nat) : Prop := ∃ j, j < n ∧ v = nI j
theorem gth_1 {x y z : Bool} (h : ¬ x = true) : gth x y z = 1 := by cases x <;> first | rfl | exact absurd rfl h
theorem gth_2 {x y z : Bool} (h : x = true) (h2 : ¬ y = true) : gth x y z = 2 := by cases x <;> cases y <;> first | rfl | exact absurd rfl h2 | cases h
set_option maxHeartbeats 4000000 in
set_option maxRecDepth 100000 in
/-- a weight -/
theorem c_MO_weight (l : Launch) (D : va_G) (ca : Nat → ClassId) (b : Nat) (C0 : Nat → va_E) {th : Nat} {dts : Nat} {tld : Nat} {fs9 : Nat} {ls9 : Nat} {cn9 : Nat} {lf9 : Nat} {mb9 : Nat} {mwt : Nat → Nat} {mab : Nat → Nat} {mbe : Nat → Nat} {on1 : Nat → Nat} {ot2 : Nat → Nat} {lea : Nat → Nat} {mos : Nat → Nat} {yrs : Nat → Nat} {bv : Nat → Nat} (d y x : Int32) (hX : MV ca b C0 th dts tld fs9 ls9 cn9 lf9 mb9 mwt mab mbe on1 ot2 lea mos yrs bv) (hd6 : dts ≤ 6) : Met l y_MO_weight (k_MO_weight :: gw) ({ frames := 3, cells := 0, slots := 0, locals := 54 }) (xPc D ca b 11 C0 [.ref (b + 0), .int d, .int y, .int x]) (xQ D b 11 (fun r C1 => (∃ d9 y9 x9, d9 < dts ∧ y9 < 12 ∧ x9 < 1000 ∧ d = nI d9 ∧ y = nI y9 ∧ x = nI x9 ∧ r = some (.int (nI (mwt (12 * d9 + y9)))) ∧ MV ca b C1 0 dts tld fs9 ls9 cn9 lf9 mb9 (va_up mwt (12 * d9 + y9) x9) mab mbe on1 ot2 lea mos yrs bv) ∨ (∃ t, ((¬ (isN d dts ∧ isN y 12) ∧ t = 1) ∨ ((isN d dts ∧ isN y 12) ∧ ¬ isN x 1000 ∧ t = 2)) ∧ r = some (.int (nI 0)) ∧ MV ca b C1 t dts tld fs9 ls9 cn9 lf9 mb9 mwt mab mbe on1 ot2 lea mos yrs bv))) 0 0 (xr b 11) := by
  refine Met.ofW (cc := b_MO_weight) (maxL := 5) (ret := (some FieldType.int)) (by decide) rfl ?_
  intro p e s m args below meth c s₁ B hml hv
  obtain ⟨hav, hP, hK⟩ := hv
  have hx := B.exec
  have hb := B.bytes
  have hr := B.returns
  have hts := atoms_spec (ws := k_MO_weight :: gw) B.pre
  have hown : s.vm.findClass R_MO = some m.cls := findClass_of_methodNamed B.named
  have hlocks := B.notSynchronized
  have hA : ∀ k, k < 11 → xr b 11 (b + k) := xr_in
  have hS : va_S (xr b 11) s.heap s.heap [] := va_S.rf
  have hl := lv_entry ([.ref (b + 0), .int d, .int y, .int x]) (n := 5) (Nat.le_of_ble_eq_true rfl)
  rw [hav, lg_entry_eq]
  generalize (lg_sl ([.ref (b + 0), .int d, .int y, .int x]) ++ List.replicate (5 - (lg_sl ([.ref (b + 0), .int d, .int y, .int x])).length) Slot.unset).toArray = ls at hl ⊢
  have hl : lv_has ls 5 [(0, .ref (b + 0)), (1, .int d), (2, .int y), (3, .int x)] := hl
  rw [← hav]
  refine lv_aload_n hx hb d_MO_weight_0 rfl (lv_at hl 0 rfl) ?_
  refine lv_aload_n hx hb d_MO_weight_1 rfl (lv_at hl 0 rfl) ?_
  refine lv_iload_n hx hb d_MO_weight_2 rfl (lv_at hl 1 rfl) ?_
  obtain ⟨bg9, wd9, hX, hB9⟩ := hX
  refine xc_V (n := 1) (g0 := 0) (As := [.int d]) (rest := [.ref (b + 0)]) (st0 := _) hx hb hml hown hts (c_MO_isDate l D ca b _ d hX (by omega)) km_MO_isDate tb_666 tb_668 tps_20 tb_7 (by decide +kernel) rfl rfl ⟨Nat.le_of_ble_eq_true rfl, Nat.le_of_ble_eq_true rfl⟩ hK hP (MR_0 hX) (by decide) rfl rfl rfl hl rfl (Nat.le_of_ble_eq_true rfl) d_MO_weight_3 ⟨Nat.zero_le _, Nat.zero_le _⟩ hS (fun _ h => h) (fun v C H locs hp hP _ _ hS => ?_)
  obtain ⟨z1, rfl, hz1, hX⟩ := hp
  have hX : MV ca b C th dts tld fs9 ls9 cn9 lf9 mb9 mwt mab mbe on1 ot2 lea mos yrs bv := ⟨_, _, hX, hB9⟩
  have j23 : ∀ (zz : Bool) (C : Nat → va_E) (H : Heap) (locs : List Loc), (zz = true ↔ isN d dts ∧ isN y 12) → va_P D classes (wl b 11 C) H → va_S (xr b 11) s.heap H locs → MV ca b C th dts tld fs9 ls9 cn9 lf9 mb9 mwt mab mbe on1 ot2 lea mos yrs bv → W p l e (headSpec (k_MO_weight :: gw) ({ frames := 3, cells := 0, slots := 0, locals := 54 })).room s m args below meth c H locs 0 0 (MQ below (xQ D b 11 (fun r C1 => (∃ d9 y9 x9, d9 < dts ∧ y9 < 12 ∧ x9 < 1000 ∧ d = nI d9 ∧ y = nI y9 ∧ x = nI x9 ∧ r = some (.int (nI (mwt (12 * d9 + y9)))) ∧ MV ca b C1 0 dts tld fs9 ls9 cn9 lf9 mb9 (va_up mwt (12 * d9 + y9) x9) mab mbe on1 ot2 lea mos yrs bv) ∨ (∃ t, ((¬ (isN d dts ∧ isN y 12) ∧ t = 1) ∨ ((isN d dts ∧ isN y 12) ∧ ¬ isN x 1000 ∧ t = 2)) ∧ r = some (.int (nI 0)) ∧ MV ca b C1 t dts tld fs9 ls9 cn9 lf9 mb9 mwt mab mbe on1 ot2 lea mos yrs bv))) args s 0 0 (xr b 11)) (F0 m 23 ls [.int (nI zz.toNat), .ref (b + 0)]) := by
    intro zz C H locs hzz hP hS hX
    refine lv_iload_n hx hb d_MO_weight_23 rfl (lv_at hl 3 rfl) ?_
    refine lv_sipush (v := nI 1000) hx hb d_MO_weight_24 (by decide) ?_
    obtain ⟨bg9, wd9, hX, hB9⟩ := hX
    refine xc_S (n := 2) (As := [.int x, .int (nI 1000)]) (rest := [.int (nI zz.toNat), .ref (b + 0)]) (st0 := _) hx hb hml hown hts (c_MO_below l D ca b _ x 1000 hX (by omega)) km_MO_below tb_670 tb_671 tb_7 (by decide +kernel) rfl rfl ⟨Nat.le_of_ble_eq_true rfl, Nat.le_of_ble_eq_true rfl⟩ hK hP rfl hl rfl (Nat.le_of_ble_eq_true rfl) d_MO_weight_27 ⟨Nat.zero_le _, Nat.zero_le _⟩ hS (fun _ h => h) (fun v C H locs hp hP _ _ hS => ?_)
    obtain ⟨z2, rfl, hz2, hX⟩ := hp
    have hX : MV ca b C th dts tld fs9 ls9 cn9 lf9 mb9 mwt mab mbe on1 ot2 lea mos yrs bv := ⟨_, _, hX, hB9⟩
    refine lv_iconst (v := nI 1) hx hb d_MO_weight_30 (by decide) ?_
    obtain ⟨bg9, wd9, hX, hB9⟩ := hX
    refine xc_V (n := 3) (g0 := 0) (As := [.int (nI zz.toNat), .int (nI z2.toNat), .int (nI 1)]) (rest := []) (st0 := _) hx hb hml hown hts (c_MO_goes l D ca b _ zz z2 true hX ) km_MO_goes tb_658 tb_660 tps_19 tb_7 (by decide +kernel) rfl rfl ⟨Nat.le_of_ble_eq_true rfl, Nat.le_of_ble_eq_true rfl⟩ hK hP (MR_0 hX) (by decide) rfl rfl rfl hl rfl (Nat.le_of_ble_eq_true rfl) d_MO_weight_31 ⟨Nat.zero_le _, Nat.zero_le _⟩ hS (fun _ h => h) (fun v C H locs hp hP _ _ hS => ?_)
    obtain ⟨rfl, hX⟩ := hp
    have hX : MV ca b C (gth zz z2 true) dts tld fs9 ls9 cn9 lf9 mb9 mwt mab mbe on1 ot2 lea mos yrs bv := ⟨_, _, hX, hB9⟩
    refine xz_ne (tgt := 39) hx hb d_MO_weight_34 (by decide) (gz_b _) (fun h34 => ?_) (fun h34 => ?_)
    · skip
      obtain ⟨g1, g2, -⟩ := gth_0 (gz_n h34)
      obtain ⟨⟨d9, hd9, rfl⟩, ⟨y9, hy9, rfl⟩⟩ := hzz.mp g1
      obtain ⟨x9, hx9, rfl⟩ := hz2.mp g2
      have hg0 := gz_n h34
      rw [hg0] at hX
      refine lv_aload_n hx hb d_MO_weight_39 rfl (lv_at hl 0 rfl) ?_
      refine xw_get (v := .ref (b + 1)) hx hb hts (fun w h => mw (uw_MO w h)) hown hK hP (MV_0 hX) (by decide) rfl 2 (by decide) (hts _ (mw tb_597)) (fun _ h => h) rfl d_MO_weight_40 ?_
      refine lv_bipush (v := nI 12) hx hb d_MO_weight_43 (by decide) ?_
      refine lv_iload_n hx hb d_MO_weight_45 rfl (lv_at hl 1 rfl) ?_
      refine lv_imul hx hb d_MO_weight_46 ?_
      refine ti (nI (12 * d9)) (pk_mul _ _) ?_
      refine lv_iload_n hx hb d_MO_weight_47 rfl (lv_at hl 2 rfl) ?_
      refine lv_iadd hx hb d_MO_weight_48 ?_
      refine ti (nI ((12 * d9) + y9)) (nI_add _ _) ?_
      refine xw_iald hx hb hK hP 0 (MV_1 hX) (by decide) rfl (by omega) (by decide) d_MO_weight_49 ?_
      refine lv_istore (lv' := [(4, .int (nI (mwt ((12 * d9) + y9)))), (0, .ref (b + 0)), (1, .int (nI d9)), (2, .int (nI y9)), (3, .int (nI x9))]) hx hb d_MO_weight_50 hl (by decide) rfl (fun ls hl => ?_)
      refine lv_aload_n hx hb d_MO_weight_52 rfl (lv_at hl 1 rfl) ?_
      refine xw_get (v := .ref (b + 1)) hx hb hts (fun w h => mw (uw_MO w h)) hown hK hP (MV_0 hX) (by decide) rfl 2 (by decide) (hts _ (mw tb_597)) (fun _ h => h) rfl d_MO_weight_53 ?_
      refine lv_bipush (v := nI 12) hx hb d_MO_weight_56 (by decide) ?_
      refine lv_iload_n hx hb d_MO_weight_58 rfl (lv_at hl 2 rfl) ?_
      refine lv_imul hx hb d_MO_weight_59 ?_
      refine ti (nI (12 * d9)) (pk_mul _ _) ?_
      refine lv_iload_n hx hb d_MO_weight_60 rfl (lv_at hl 3 rfl) ?_
      refine lv_iadd hx hb d_MO_weight_61 ?_
      refine ti (nI ((12 * d9) + y9)) (nI_add _ _) ?_
      refine lv_iload_n hx hb d_MO_weight_62 rfl (lv_at hl 4 rfl) ?_
      refine xw_iast hx hb hK hP hA hS 0 (MV_1 hX) (by decide) rfl (by omega) (by decide) d_MO_weight_63 (fun H locs hP hS => ?_)
      have hX := MV_set_mwt (j := (12 * d9) + y9) (x := x9) hX
      generalize va_up _ 1 _ = C at hP hX
      refine lv_iload hx hb d_MO_weight_64 (lv_at hl 0 rfl) ?_
      exact xw_iret hx hb hr hlocks hP hS (Or.inl ⟨d9, y9, x9, hd9, hy9, hx9, rfl, rfl, rfl, rfl, hX⟩) d_MO_weight_66
    · skip
      refine lv_iconst (v := nI 0) hx hb d_MO_weight_37 (by decide) ?_
      exact xw_iret hx hb hr hlocks hP hS (Or.inr ⟨_, by
          by_cases q : zz = true
          · refine Or.inr ⟨hzz.mp q, fun hq => ?_, gth_2 q (fun q2 => ?_)⟩
            · exact gz_z h34 (by rw [q, hz2.mpr hq]; rfl)
            · exact gz_z h34 (by rw [q, q2]; rfl)
          · exact Or.inl ⟨fun hq => q (hzz.mpr hq), gth_1 q⟩, rfl, hX⟩) d_MO_weight_38
  refine xz_eq (tgt := 22) hx hb d_MO_weight_6 (by decide) (tn31 _) (fun h6 => ?_) (fun h6 => ?_)
  · skip
    refine lv_iconst (v := nI 0) hx hb d_MO_weight_22 (by decide) ?_
    exact j23 false _ _ _ ⟨fun q => (by cases q), fun q => by have := hz1.mpr q.1; rw [bf h6] at this; cases this⟩ hP hS hX
  · skip
    refine lv_iload_n hx hb d_MO_weight_9 rfl (lv_at hl 2 rfl) ?_
    refine lv_bipush (v := nI 12) hx hb d_MO_weight_10 (by decide) ?_
    obtain ⟨bg9, wd9, hX, hB9⟩ := hX
    refine xc_S (n := 2) (As := [.int y, .int (nI 12)]) (rest := [.ref (b + 0)]) (st0 := _) hx hb hml hown hts (c_MO_below l D ca b _ y 12 hX (by omega)) km_MO_below tb_670 tb_671 tb_7 (by decide +kernel) rfl rfl ⟨Nat.le_of_ble_eq_true rfl, Nat.le_of_ble_eq_true rfl⟩ hK hP rfl hl rfl (Nat.le_of_ble_eq_true rfl) d_MO_weight_12 ⟨Nat.zero_le _, Nat.zero_le _⟩ hS (fun _ h => h) (fun v C H locs hp hP _ _ hS => ?_)
    obtain ⟨z3, rfl, hz3, hX⟩ := hp
    have hX : MV ca b C th dts tld fs9 ls9 cn9 lf9 mb9 mwt mab mbe on1 ot2 lea mos yrs bv := ⟨_, _, hX, hB9⟩
    refine xz_eq (tgt := 22) hx hb d_MO_weight_15 (by decide) (tn31 _) (fun h15 => ?_) (fun h15 => ?_)
    · skip
      refine lv_iconst (v := nI 0) hx hb d_MO_weight_22 (by decide) ?_
      exact j23 false _ _ _ ⟨fun q => (by cases q), fun q => by have := hz3.mpr q.2; rw [bf h15] at this; cases this⟩ hP hS hX
    · skip
      refine lv_iconst (v := nI 1) hx hb d_MO_weight_18 (by decide) ?_
      refine lv_goto (tgt := 23) hx hb d_MO_weight_19 (by decide) ?_
      exact j23 true _ _ _ ⟨fun _ => ⟨hz1.mp (bt h6), hz3.mp (bt h15)⟩, fun _ => rfl⟩ hP hS hX

set_option maxHeartbeats 4000000 in
set_option maxRecDepth 100000 in
/-- a share -/
theorem c_MO_outlier (l : Launch) (D : va_G) (ca : Nat → ClassId) (b : Nat) (C0 : Nat → va_E) {th : Nat} {dts : Nat} {tld : Nat} {fs9 : Nat} {ls9 : Nat} {cn9 : Nat} {lf9 : Nat} {mb9 : Nat} {mwt : Nat → Nat} {mab : Nat → Nat} {mbe : Nat → Nat} {on1 : Nat → Nat} {ot2 : Nat → Nat} {lea : Nat → Nat} {mos : Nat → Nat} {yrs : Nat → Nat} {bv : Nat → Nat} (d a x : Int32) (hX : MV ca b C0 th dts tld fs9 ls9 cn9 lf9 mb9 mwt mab mbe on1 ot2 lea mos yrs bv) (hd6 : dts ≤ 6) : Met l y_MO_outlier (k_MO_outlier :: gw) ({ frames := 3, cells := 0, slots := 0, locals := 54 }) (xPc D ca b 11 C0 [.ref (b + 0), .int d, .int a, .int x]) (xQ D b 11 (fun r C1 => r = none ∧ ((∃ d9 a9 b9, d9 < dts ∧ 1 ≤ b9 ∧ b9 ≤ 10 ∧ a9 ≤ b9 ∧ d = nI d9 ∧ a = nI a9 ∧ x = nI b9 ∧ MV ca b C1 0 dts tld fs9 ls9 cn9 lf9 mb9 mwt (va_up mab d9 a9) (va_up mbe d9 b9) on1 ot2 lea mos yrs bv) ∨ (∃ t, ((¬ isN d dts ∧ t = 1) ∨ (isN d dts ∧ ¬ (∃ a9 b9, 1 ≤ b9 ∧ b9 ≤ 10 ∧ a9 ≤ b9 ∧ a = nI a9 ∧ x = nI b9) ∧ t = 2)) ∧ MV ca b C1 t dts tld fs9 ls9 cn9 lf9 mb9 mwt mab mbe on1 ot2 lea mos yrs bv)))) 0 0 (xr b 11) := by
  refine Met.ofW (cc := b_MO_outlier) (maxL := 4) (ret := none) (by decide) rfl ?_
  intro p e s m args below meth c s₁ B hml hv
  obtain ⟨hav, hP, hK⟩ := hv
  have hx := B.exec
  have hb := B.bytes
  have hr := B.returns
  have hts := atoms_spec (ws := k_MO_outlier :: gw) B.pre
  have hown : s.vm.findClass R_MO = some m.cls := findClass_of_methodNamed B.named
  have hlocks := B.notSynchronized
  have hA : ∀ k, k < 11 → xr b 11 (b + k) := xr_in
  have hS : va_S (xr b 11) s.heap s.heap [] := va_S.rf
  have hl := lv_entry ([.ref (b + 0), .int d, .int a, .int x]) (n := 4) (Nat.le_of_ble_eq_true rfl)
  rw [hav, lg_entry_eq]
  generalize (lg_sl ([.ref (b + 0), .int d, .int a, .int x]) ++ List.replicate (4 - (lg_sl ([.ref (b + 0), .int d, .int a, .int x])).length) Slot.unset).toArray = ls at hl ⊢
  have hl : lv_has ls 4 [(0, .ref (b + 0)), (1, .int d), (2, .int a), (3, .int x)] := hl
  rw [← hav]
  refine lv_aload_n hx hb d_MO_outlier_0 rfl (lv_at hl 0 rfl) ?_
  refine lv_aload_n hx hb d_MO_outlier_1 rfl (lv_at hl 0 rfl) ?_
  refine lv_iload_n hx hb d_MO_outlier_2 rfl (lv_at hl 1 rfl) ?_
  obtain ⟨bg9, wd9, hX, hB9⟩ := hX
  refine xc_V (n := 1) (g0 := 0) (As := [.int d]) (rest := [.ref (b + 0)]) (st0 := _) hx hb hml hown hts (c_MO_isDate l D ca b _ d hX (by omega)) km_MO_isDate tb_666 tb_668 tps_20 tb_7 (by decide +kernel) rfl rfl ⟨Nat.le_of_ble_eq_true rfl, Nat.le_of_ble_eq_true rfl⟩ hK hP (MR_0 hX) (by decide) rfl rfl rfl hl rfl (Nat.le_of_ble_eq_true rfl) d_MO_outlier_3 ⟨Nat.zero_le _, Nat.zero_le _⟩ hS (fun _ h => h) (fun v C H locs hp hP _ _ hS => ?_)
  obtain ⟨z1, rfl, hz1, hX⟩ := hp
  have hX : MV ca b C th dts tld fs9 ls9 cn9 lf9 mb9 mwt mab mbe on1 ot2 lea mos yrs bv := ⟨_, _, hX, hB9⟩
  have j31 : ∀ (zz : Bool), (zz = true ↔ ∃ a9 b9, 1 ≤ b9 ∧ b9 ≤ 10 ∧ a9 ≤ b9 ∧ a = nI a9 ∧ x = nI b9) → W p l e (headSpec (k_MO_outlier :: gw) ({ frames := 3, cells := 0, slots := 0, locals := 54 })).room s m args below meth c H locs 0 0 (MQ below (xQ D b 11 (fun r C1 => r = none ∧ ((∃ d9 a9 b9, d9 < dts ∧ 1 ≤ b9 ∧ b9 ≤ 10 ∧ a9 ≤ b9 ∧ d = nI d9 ∧ a = nI a9 ∧ x = nI b9 ∧ MV ca b C1 0 dts tld fs9 ls9 cn9 lf9 mb9 mwt (va_up mab d9 a9) (va_up mbe d9 b9) on1 ot2 lea mos yrs bv) ∨ (∃ t, ((¬ isN d dts ∧ t = 1) ∨ (isN d dts ∧ ¬ (∃ a9 b9, 1 ≤ b9 ∧ b9 ≤ 10 ∧ a9 ≤ b9 ∧ a = nI a9 ∧ x = nI b9) ∧ t = 2)) ∧ MV ca b C1 t dts tld fs9 ls9 cn9 lf9 mb9 mwt mab mbe on1 ot2 lea mos yrs bv)))) args s 0 0 (xr b 11)) (F0 m 31 ls [.int (nI zz.toNat), .int (nI z1.toNat), .ref (b + 0)]) := by
    intro zz hzz
    refine lv_iconst (v := nI 1) hx hb d_MO_outlier_31 (by decide) ?_
    obtain ⟨bg9, wd9, hX, hB9⟩ := hX
    refine xc_V (n := 3) (g0 := 0) (As := [.int (nI z1.toNat), .int (nI zz.toNat), .int (nI 1)]) (rest := []) (st0 := _) hx hb hml hown hts (c_MO_goes l D ca b _ z1 zz true hX ) km_MO_goes tb_658 tb_660 tps_19 tb_7 (by decide +kernel) rfl rfl ⟨Nat.le_of_ble_eq_true rfl, Nat.le_of_ble_eq_true rfl⟩ hK hP (MR_0 hX) (by decide) rfl rfl rfl hl rfl (Nat.le_of_ble_eq_true rfl) d_MO_outlier_32 ⟨Nat.zero_le _, Nat.zero_le _⟩ hS (fun _ h => h) (fun v C H locs hp hP _ _ hS => ?_)
    obtain ⟨rfl, hX⟩ := hp
    have hX : MV ca b C (gth z1 zz true) dts tld fs9 ls9 cn9 lf9 mb9 mwt mab mbe on1 ot2 lea mos yrs bv := ⟨_, _, hX, hB9⟩
    refine xz_eq (tgt := 52) hx hb d_MO_outlier_35 (by decide) (gz_b _) (fun h35 => ?_) (fun h35 => ?_)
    · skip
      exact xw_vret hx hb hr hlocks hP hS ⟨rfl, Or.inr ⟨_, by
          by_cases q : z1 = true
          · refine Or.inr ⟨hz1.mp q, fun hq => ?_, gth_2 q (fun q2 => ?_)⟩
            · exact gz_z h35 (by rw [q, hzz.mpr hq]; rfl)
            · exact gz_z h35 (by rw [q, q2]; rfl)
          · exact Or.inl ⟨fun hq => q (hz1.mpr hq), gth_1 q⟩, hX⟩⟩ d_MO_outlier_52
    · skip
      obtain ⟨g1, g2, -⟩ := gth_0 (gz_n h35)
      obtain ⟨d9, hd9, rfl⟩ := hz1.mp g1
      obtain ⟨a9, b9, k1, k2, k3, rfl, rfl⟩ := hzz.mp g2
      have hg0 := gz_n h35
      rw [hg0] at hX
      refine lv_aload_n hx hb d_MO_outlier_38 rfl (lv_at hl 0 rfl) ?_
      refine xw_get (v := .ref (b + 2)) hx hb hts (fun w h => mw (uw_MO w h)) hown hK hP (MV_0 hX) (by decide) rfl 3 (by decide) (hts _ (mw tb_598)) (fun _ h => h) rfl d_MO_outlier_39 ?_
      refine lv_iload_n hx hb d_MO_outlier_42 rfl (lv_at hl 1 rfl) ?_
      refine lv_iload_n hx hb d_MO_outlier_43 rfl (lv_at hl 2 rfl) ?_
      refine xw_iast hx hb hK hP hA hS 0 (MV_2 hX) (by decide) rfl (by omega) (by decide) d_MO_outlier_44 (fun H locs hP hS => ?_)
      have hX := MV_set_mab (j := d9) (x := a9) hX
      generalize va_up _ 2 _ = C at hP hX
      refine lv_aload_n hx hb d_MO_outlier_45 rfl (lv_at hl 0 rfl) ?_
      refine xw_get (v := .ref (b + 3)) hx hb hts (fun w h => mw (uw_MO w h)) hown hK hP (MV_0 hX) (by decide) rfl 4 (by decide) (hts _ (mw tb_599)) (fun _ h => h) rfl d_MO_outlier_46 ?_
      refine lv_iload_n hx hb d_MO_outlier_49 rfl (lv_at hl 1 rfl) ?_
      refine lv_iload_n hx hb d_MO_outlier_50 rfl (lv_at hl 3 rfl) ?_
      refine xw_iast hx hb hK hP hA hS 0 (MV_3 hX) (by decide) rfl (by omega) (by decide) d_MO_outlier_51 (fun H locs hP hS => ?_)
      have hX := MV_set_mbe (j := d9) (x := b9) hX
      generalize va_up _ 3 _ = C at hP hX
      exact xw_vret hx hb hr hlocks hP hS ⟨rfl, Or.inl ⟨d9, a9, b9, hd9, k1, k2, k3, rfl, rfl, rfl, hX⟩⟩ d_MO_outlier_52
  refine lv_iload_n hx hb d_MO_outlier_6 rfl (lv_at hl 3 rfl) ?_
  refine lv_iconst (v := nI 1) hx hb d_MO_outlier_7 (by decide) ?_
  refine lv_icmp_lt (tgt := 30) hx hb d_MO_outlier_8 (by decide) (fun h8 => ?_) (fun h8 => ?_)
  · skip
    refine lv_iconst (v := nI 0) hx hb d_MO_outlier_30 (by decide) ?_
    exact j31 false ⟨fun q => (by cases q), fun ⟨a9, b9, q1, q2, q3, q4, q5⟩ => by subst q4; subst q5; exact absurd h8 (fun q => absurd ((nI_ltI (by omega) (by omega)).mp q) (by omega))⟩
  · skip
    refine lv_iload_n hx hb d_MO_outlier_11 rfl (lv_at hl 3 rfl) ?_
    refine lv_bipush (v := nI 10) hx hb d_MO_outlier_12 (by decide) ?_
    refine lv_icmp_gt (tgt := 30) hx hb d_MO_outlier_14 (by decide) (fun h14 => ?_) (fun h14 => ?_)
    · skip
      refine lv_iconst (v := nI 0) hx hb d_MO_outlier_30 (by decide) ?_
      exact j31 false ⟨fun q => (by cases q), fun ⟨a9, b9, q1, q2, q3, q4, q5⟩ => by subst q4; subst q5; exact absurd h14 (fun q => absurd ((nI_ltI (by omega) (by omega)).mp q) (by omega))⟩
    · skip
      refine lv_iload_n hx hb d_MO_outlier_17 rfl (lv_at hl 2 rfl) ?_
      refine lv_if_lt (tgt := 30) hx hb d_MO_outlier_18 (by decide) (fun h18 => ?_) (fun h18 => ?_)
      · skip
        refine lv_iconst (v := nI 0) hx hb d_MO_outlier_30 (by decide) ?_
        exact j31 false ⟨fun q => (by cases q), fun ⟨a9, b9, q1, q2, q3, q4, q5⟩ => by subst q4; subst q5; exact absurd h18 (nI_pos (by omega))⟩
      · skip
        refine lv_iload_n hx hb d_MO_outlier_21 rfl (lv_at hl 2 rfl) ?_
        refine lv_iload_n hx hb d_MO_outlier_22 rfl (lv_at hl 3 rfl) ?_
        refine lv_icmp_gt (tgt := 30) hx hb d_MO_outlier_23 (by decide) (fun h23 => ?_) (fun h23 => ?_)
        · skip
          refine lv_iconst (v := nI 0) hx hb d_MO_outlier_30 (by decide) ?_
          exact j31 false ⟨fun q => (by cases q), fun ⟨a9, b9, q1, q2, q3, q4, q5⟩ => by subst q4; subst q5; exact absurd h23 (fun q => absurd ((nI_ltI (by omega) (by omega)).mp q) (by omega))⟩
        · skip
          have hb0 : ¬ x < 0 := fun q => h8 (Int32.lt_of_lt_of_le q (by decide))
          obtain ⟨b9, hb31, rfl⟩ := nI_of hb0
          obtain ⟨a9, ha31, rfl⟩ := nI_of h18
          have e8 := Nat.not_lt.mp (fun q => h8 ((nI_ltI (a := b9) (b := 1) (by omega) (by omega)).mpr q))
          have e14 := Nat.not_lt.mp (fun q => h14 ((nI_ltI (a := 10) (b := b9) (by omega) (by omega)).mpr q))
          have e23 := Nat.not_lt.mp (fun q => h23 ((nI_ltI (a := b9) (b := a9) (by omega) (by omega)).mpr q))
          refine lv_iconst (v := nI 1) hx hb d_MO_outlier_26 (by decide) ?_
          refine lv_goto (tgt := 31) hx hb d_MO_outlier_27 (by decide) ?_
          exact j31 true ⟨fun _ => ⟨a9, b9, e8, e14, e23, rfl, rfl⟩, fun _ => rfl⟩

set_option maxHeartbeats 4000000 in
set_option maxRecDepth 100000 in
/-- a member -/
theorem c_MO_member (l : Launch) (D : va_G) (ca : Nat → ClassId) (b : Nat) (C0 : Nat → va_E) {th : Nat} {dts : Nat} {tld : Nat} {fs9 : Nat} {ls9 : Nat} {cn9 : Nat} {lf9 : Nat} {mb9 : Nat} {mwt : Nat → Nat} {mab : Nat → Nat} {mbe : Nat → Nat} {on1 : Nat → Nat} {ot2 : Nat → Nat} {lea : Nat → Nat} {mos : Nat → Nat} {yrs : Nat → Nat} {bv : Nat → Nat} (d : Int32) (hX : MV ca b C0 th dts tld fs9 ls9 cn9 lf9 mb9 mwt mab mbe on1 ot2 lea mos yrs bv) (hd6 : dts ≤ 6) (hM : MOK on1 ot2 lea mos tld) (hfull : ∀ d9, d9 < dts → ¬ (∃ k, k < tld ∧ on1 k = ot2 k ∧ (tOr on1 ot2 tld 6 (2 ^ d9)).testBit (on1 k) = true) → tld < 6) : Met l y_MO_member (k_MO_member :: gw) ({ frames := 3, cells := 0, slots := 0, locals := 56 }) (xPc D ca b 11 C0 [.ref (b + 0), .int d]) (xQ D b 11 (fun r C1 => (∃ d9, d9 < dts ∧ d = nI d9 ∧ (((∃ k, k < tld ∧ on1 k = ot2 k ∧ (tOr on1 ot2 tld 6 (2 ^ d9)).testBit (on1 k) = true) ∧ r = some (.int (-1)) ∧ MV ca b C1 0 dts tld fs9 ls9 cn9 lf9 mb9 mwt mab mbe on1 ot2 lea mos yrs bv) ∨ (¬ (∃ k, k < tld ∧ on1 k = ot2 k ∧ (tOr on1 ot2 tld 6 (2 ^ d9)).testBit (on1 k) = true) ∧ r = some (.int (nI tld)) ∧ MV ca b C1 0 dts (tld + 1) fs9 ls9 cn9 lf9 mb9 mwt mab mbe (va_up on1 tld d9) (va_up ot2 tld d9) (va_up lea tld 0) (va_up mos tld 0) yrs bv))) ∨ (¬ isN d dts ∧ r = some (.int (nI 0)) ∧ MV ca b C1 1 dts tld fs9 ls9 cn9 lf9 mb9 mwt mab mbe on1 ot2 lea mos yrs bv))) 0 0 (xr b 11) := by
  refine Met.ofW (cc := b_MO_member) (maxL := 2) (ret := (some FieldType.int)) (by decide) rfl ?_
  intro p e s m args below meth c s₁ B hml hv
  obtain ⟨hav, hP, hK⟩ := hv
  have hx := B.exec
  have hb := B.bytes
  have hr := B.returns
  have hts := atoms_spec (ws := k_MO_member :: gw) B.pre
  have hown : s.vm.findClass R_MO = some m.cls := findClass_of_methodNamed B.named
  have hlocks := B.notSynchronized
  have hA : ∀ k, k < 11 → xr b 11 (b + k) := xr_in
  have hS : va_S (xr b 11) s.heap s.heap [] := va_S.rf
  have hl := lv_entry ([.ref (b + 0), .int d]) (n := 2) (Nat.le_of_ble_eq_true rfl)
  rw [hav, lg_entry_eq]
  generalize (lg_sl ([.ref (b + 0), .int d]) ++ List.replicate (2 - (lg_sl ([.ref (b + 0), .int d])).length) Slot.unset).toArray = ls at hl ⊢
  have hl : lv_has ls 2 [(0, .ref (b + 0)), (1, .int d)] := hl
  rw [← hav]
  have hM6 := hM.1
  refine lv_aload_n hx hb d_MO_member_0 rfl (lv_at hl 0 rfl) ?_
  refine lv_aload_n hx hb d_MO_member_1 rfl (lv_at hl 0 rfl) ?_
  refine lv_iload_n hx hb d_MO_member_2 rfl (lv_at hl 1 rfl) ?_
  obtain ⟨bg9, wd9, hX, hB9⟩ := hX
  refine xc_V (n := 1) (g0 := 0) (As := [.int d]) (rest := [.ref (b + 0)]) (st0 := _) hx hb hml hown hts (c_MO_isDate l D ca b _ d hX (by omega)) km_MO_isDate tb_666 tb_668 tps_20 tb_7 (by decide +kernel) rfl rfl ⟨Nat.le_of_ble_eq_true rfl, Nat.le_of_ble_eq_true rfl⟩ hK hP (MR_0 hX) (by decide) rfl rfl rfl hl rfl (Nat.le_of_ble_eq_true rfl) d_MO_member_3 ⟨Nat.zero_le _, Nat.zero_le _⟩ hS (fun _ h => h) (fun v C H locs hp hP _ _ hS => ?_)
  obtain ⟨z1, rfl, hz1, hX⟩ := hp
  have hX : MV ca b C th dts tld fs9 ls9 cn9 lf9 mb9 mwt mab mbe on1 ot2 lea mos yrs bv := ⟨_, _, hX, hB9⟩
  refine lv_iconst (v := nI 1) hx hb d_MO_member_6 (by decide) ?_
  refine lv_iconst (v := nI 1) hx hb d_MO_member_7 (by decide) ?_
  obtain ⟨bg9, wd9, hX, hB9⟩ := hX
  refine xc_V (n := 3) (g0 := 0) (As := [.int (nI z1.toNat), .int (nI 1), .int (nI 1)]) (rest := []) (st0 := _) hx hb hml hown hts (c_MO_goes l D ca b _ z1 true true hX ) km_MO_goes tb_658 tb_660 tps_19 tb_7 (by decide +kernel) rfl rfl ⟨Nat.le_of_ble_eq_true rfl, Nat.le_of_ble_eq_true rfl⟩ hK hP (MR_0 hX) (by decide) rfl rfl rfl hl rfl (Nat.le_of_ble_eq_true rfl) d_MO_member_8 ⟨Nat.zero_le _, Nat.zero_le _⟩ hS (fun _ h => h) (fun v C H locs hp hP _ _ hS => ?_)
  obtain ⟨rfl, hX⟩ := hp
  have hX : MV ca b C (gth z1 true true) dts tld fs9 ls9 cn9 lf9 mb9 mwt mab mbe on1 ot2 lea mos yrs bv := ⟨_, _, hX, hB9⟩
  refine xz_ne (tgt := 16) hx hb d_MO_member_11 (by decide) (gz_b _) (fun h11 => ?_) (fun h11 => ?_)
  · skip
    obtain ⟨g1, -, -⟩ := gth_0 (gz_n h11)
    obtain ⟨d9, hd9, rfl⟩ := hz1.mp g1
    have hg0 := gz_n h11
    rw [hg0] at hX
    refine lv_aload_n hx hb d_MO_member_16 rfl (lv_at hl 0 rfl) ?_
    refine lv_aload_n hx hb d_MO_member_17 rfl (lv_at hl 0 rfl) ?_
    refine lv_iload_n hx hb d_MO_member_18 rfl (lv_at hl 1 rfl) ?_
    refine xc_V (n := 1) (g0 := 0) (As := [.int (nI d9)]) (rest := [.ref (b + 0)]) (st0 := _) hx hb hml hown hts (c_MO_treeOf l D ca b _ d9 hX hM (by omega)) km_MO_treeOf tb_681 tb_683 tps_21 tb_7 (by decide +kernel) rfl rfl ⟨Nat.le_of_ble_eq_true rfl, Nat.le_of_ble_eq_true rfl⟩ hK hP (MV_0 hX) (by decide) rfl rfl rfl hl rfl (Nat.le_of_ble_eq_true rfl) d_MO_member_19 ⟨Nat.zero_le _, Nat.zero_le _⟩ hS (fun _ h => h) (fun v C H locs hp hP _ _ hS => ?_)
    obtain ⟨rfl, hX⟩ := hp
    refine xc_V (n := 1) (g0 := 0) (As := [.int (nI (tOr on1 ot2 tld 6 (2 ^ d9)))]) (rest := []) (st0 := _) hx hb hml hown hts (c_MO_hasMember l D ca b _ (tOr on1 ot2 tld 6 (2 ^ d9)) hX hM (Nat.lt_trans (tOr_lt hM 6 _ (Nat.pow_lt_pow_right (by decide) (show d9 < 6 by omega))) (by decide))) km_MO_hasMember tb_685 tb_687 tps_22 tb_7 (by decide +kernel) rfl rfl ⟨Nat.le_of_ble_eq_true rfl, Nat.le_of_ble_eq_true rfl⟩ hK hP (MV_0 hX) (by decide) rfl rfl rfl hl rfl (Nat.le_of_ble_eq_true rfl) d_MO_member_22 ⟨Nat.zero_le _, Nat.zero_le _⟩ hS (fun _ h => h) (fun v C H locs hp hP _ _ hS => ?_)
    obtain ⟨z2, rfl, hz2, hX⟩ := hp
    refine xz_eq (tgt := 32) hx hb d_MO_member_25 (by decide) (tn31 _) (fun h25 => ?_) (fun h25 => ?_)
    · skip
      have hh : ¬ (∃ k, k < tld ∧ on1 k = ot2 k ∧ (tOr on1 ot2 tld 6 (2 ^ d9)).testBit (on1 k) = true) := fun q => by have := hz2.mpr q; rw [bf h25] at this; cases this
      refine lv_aload_n hx hb d_MO_member_32 rfl (lv_at hl 0 rfl) ?_
      refine lv_iload_n hx hb d_MO_member_33 rfl (lv_at hl 1 rfl) ?_
      refine lv_iload_n hx hb d_MO_member_34 rfl (lv_at hl 1 rfl) ?_
      refine lv_iconst (v := nI 0) hx hb d_MO_member_35 (by decide) ?_
      refine lv_iconst (v := nI 0) hx hb d_MO_member_36 (by decide) ?_
      obtain ⟨bg9, wd9, hX, hB9⟩ := hX
      refine xc_V (n := 4) (g0 := 0) (As := [.int (nI d9), .int (nI d9), .int (nI 0), .int (nI 0)]) (rest := []) (st0 := _) hx hb hml hown hts (c_MO_tell l D ca b _ d9 d9 0 0 hX (hfull d9 hd9 hh)) km_MO_tell tb_693 tb_695 tps_24 tb_7 (by decide +kernel) rfl rfl ⟨Nat.le_of_ble_eq_true rfl, Nat.le_of_ble_eq_true rfl⟩ hK hP (MR_0 hX) (by decide) rfl rfl rfl hl rfl (Nat.le_of_ble_eq_true rfl) d_MO_member_37 ⟨Nat.zero_le _, Nat.zero_le _⟩ hS (fun _ h => h) (fun v C H locs hp hP _ _ hS => ?_)
      obtain ⟨rfl, hX⟩ := hp
      have hX : MV ca b C 0 dts (tld + 1) fs9 ls9 cn9 lf9 mb9 mwt mab mbe (va_up on1 tld d9) (va_up ot2 tld d9) (va_up lea tld 0) (va_up mos tld 0) yrs bv := ⟨_, _, hX, hB9⟩
      exact xw_iret hx hb hr hlocks hP hS (Or.inl ⟨d9, hd9, rfl, Or.inr ⟨hh, rfl, hX⟩⟩) d_MO_member_40
    · skip
      have hh := hz2.mp (bt h25)
      refine lv_iconst (v := (-1)) hx hb d_MO_member_28 (by decide) ?_
      refine lv_goto (tgt := 40) hx hb d_MO_member_29 (by decide) ?_
      exact xw_iret hx hb hr hlocks hP hS (Or.inl ⟨d9, hd9, rfl, Or.inl ⟨hh, rfl, hX⟩⟩) d_MO_member_40
  · skip
    have hz0 : ¬ z1 = true := fun q => gz_z h11 (by rw [q]; rfl)
    rw [gth_1 hz0] at hX
    refine lv_iconst (v := nI 0) hx hb d_MO_member_14 (by decide) ?_
    exact xw_iret hx hb hr hlocks hP hS (Or.inr ⟨fun hq => hz0 (hz1.mpr hq), rfl, hX⟩) d_MO_member_15

