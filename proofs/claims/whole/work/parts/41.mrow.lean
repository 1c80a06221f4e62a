/-! The Model: row -/
set_option maxHeartbeats 4000000 in
set_option maxRecDepth 100000 in
/-- a row -/
theorem c_MO_row (l : Launch) (D : va_G) (ca : Nat → ClassId) (b : Nat) (C0 : Nat → va_E) {th : Nat} {dts : Nat} {tld : Nat} {fs9 : Nat} {ls9 : Nat} {cn9 : Nat} {lf9 : Nat} {mb9 : Nat} {mwt : Nat → Nat} {mab : Nat → Nat} {mbe : Nat → Nat} {on1 : Nat → Nat} {ot2 : Nat → Nat} {lea : Nat → Nat} {mos : Nat → Nat} {yrs : Nat → Nat} {bv : Nat → Nat} (d g lo hi : Int32) (hX : MV ca b C0 th dts tld fs9 ls9 cn9 lf9 mb9 mwt mab mbe on1 ot2 lea mos yrs bv) (hd6 : dts ≤ 6) (hM : MOK on1 ot2 lea mos tld) (hfull : ∀ d9 g9, d9 < dts → g9 < dts → ¬ (tOr on1 ot2 tld 6 (2 ^ d9) = tOr on1 ot2 tld 6 (2 ^ g9) ∨ ((∃ k, k < tld ∧ on1 k = ot2 k ∧ (tOr on1 ot2 tld 6 (2 ^ d9)).testBit (on1 k) = true) ∧ (∃ k, k < tld ∧ on1 k = ot2 k ∧ (tOr on1 ot2 tld 6 (2 ^ g9)).testBit (on1 k) = true))) → tld < 6) : Met l y_MO_row (k_MO_row :: gw) ({ frames := 3, cells := 0, slots := 0, locals := 56 }) (xPc D ca b 11 C0 [.ref (b + 0), .int d, .int g, .int lo, .int hi]) (xQ D b 11 (fun r C1 => (∃ d9 g9 lo9 hi9, d9 < dts ∧ g9 < dts ∧ lo9 ≤ hi9 ∧ hi9 < 12 ∧ d = nI d9 ∧ g = nI g9 ∧ lo = nI lo9 ∧ hi = nI hi9 ∧ (((tOr on1 ot2 tld 6 (2 ^ d9) = tOr on1 ot2 tld 6 (2 ^ g9) ∨ ((∃ k, k < tld ∧ on1 k = ot2 k ∧ (tOr on1 ot2 tld 6 (2 ^ d9)).testBit (on1 k) = true) ∧ (∃ k, k < tld ∧ on1 k = ot2 k ∧ (tOr on1 ot2 tld 6 (2 ^ g9)).testBit (on1 k) = true))) ∧ r = some (.int (-1)) ∧ MV ca b C1 0 dts tld fs9 ls9 cn9 lf9 mb9 mwt mab mbe on1 ot2 lea mos yrs bv) ∨ (¬ (tOr on1 ot2 tld 6 (2 ^ d9) = tOr on1 ot2 tld 6 (2 ^ g9) ∨ ((∃ k, k < tld ∧ on1 k = ot2 k ∧ (tOr on1 ot2 tld 6 (2 ^ d9)).testBit (on1 k) = true) ∧ (∃ k, k < tld ∧ on1 k = ot2 k ∧ (tOr on1 ot2 tld 6 (2 ^ g9)).testBit (on1 k) = true))) ∧ r = some (.int (nI tld)) ∧ MV ca b C1 0 dts (tld + 1) fs9 ls9 cn9 lf9 mb9 mwt mab mbe (va_up on1 tld d9) (va_up ot2 tld g9) (va_up lea tld lo9) (va_up mos tld hi9) yrs bv))) ∨ (∃ t, ((¬ (isN d dts ∧ isN g dts) ∧ t = 1) ∨ ((isN d dts ∧ isN g dts) ∧ ¬ (∃ lo9 hi9, lo9 ≤ hi9 ∧ hi9 < 12 ∧ lo = nI lo9 ∧ hi = nI hi9) ∧ t = 2)) ∧ r = some (.int (nI 0)) ∧ MV ca b C1 t dts tld fs9 ls9 cn9 lf9 mb9 mwt mab mbe on1 ot2 lea mos yrs bv))) 0 0 (xr b 11) := by
  refine Met.ofW (cc := b_MO_row) (maxL := 7) (ret := (some FieldType.int)) (by decide) rfl ?_
  intro p e s m args below meth c s₁ B hml hv
  obtain ⟨hav, hP, hK⟩ := hv
  have hx := B.exec
  have hb := B.bytes
  have hr := B.returns
  have hts := atoms_spec (ws := k_MO_row :: gw) B.pre
  have hown : s.vm.findClass R_MO = some m.cls := findClass_of_methodNamed B.named
  have hlocks := B.notSynchronized
  have hA : ∀ k, k < 11 → xr b 11 (b + k) := xr_in
  have hS : va_S (xr b 11) s.heap s.heap [] := va_S.rf
  have hl := lv_entry ([.ref (b + 0), .int d, .int g, .int lo, .int hi]) (n := 7) (Nat.le_of_ble_eq_true rfl)
  rw [hav, lg_entry_eq]
  generalize (lg_sl ([.ref (b + 0), .int d, .int g, .int lo, .int hi]) ++ List.replicate (7 - (lg_sl ([.ref (b + 0), .int d, .int g, .int lo, .int hi])).length) Slot.unset).toArray = ls at hl ⊢
  have hl : lv_has ls 7 [(0, .ref (b + 0)), (1, .int d), (2, .int g), (3, .int lo), (4, .int hi)] := hl
  rw [← hav]
  have hM6 := hM.1
  refine lv_aload_n hx hb d_MO_row_0 rfl (lv_at hl 0 rfl) ?_
  refine lv_aload_n hx hb d_MO_row_1 rfl (lv_at hl 0 rfl) ?_
  refine lv_iload_n hx hb d_MO_row_2 rfl (lv_at hl 1 rfl) ?_
  obtain ⟨bg9, wd9, hX, hB9⟩ := hX
  refine xc_V (n := 1) (g0 := 0) (As := [.int d]) (rest := [.ref (b + 0)]) (st0 := _) hx hb hml hown hts (c_MO_isDate l D ca b _ d hX (by omega)) km_MO_isDate tb_666 tb_668 tps_20 tb_7 (by decide +kernel) rfl rfl ⟨Nat.le_of_ble_eq_true rfl, Nat.le_of_ble_eq_true rfl⟩ hK hP (MR_0 hX) (by decide) rfl rfl rfl hl rfl (Nat.le_of_ble_eq_true rfl) d_MO_row_3 ⟨Nat.zero_le _, Nat.zero_le _⟩ hS (fun _ h => h) (fun v C H locs hp hP _ _ hS => ?_)
  obtain ⟨z1, rfl, hz1, hX⟩ := hp
  have hX : MV ca b C th dts tld fs9 ls9 cn9 lf9 mb9 mwt mab mbe on1 ot2 lea mos yrs bv := ⟨_, _, hX, hB9⟩
  have j22 : ∀ (zz : Bool) (C : Nat → va_E) (H : Heap) (locs : List Loc), (zz = true ↔ isN d dts ∧ isN g dts) → va_P D classes (wl b 11 C) H → va_S (xr b 11) s.heap H locs → MV ca b C th dts tld fs9 ls9 cn9 lf9 mb9 mwt mab mbe on1 ot2 lea mos yrs bv → W p l e (headSpec (k_MO_row :: gw) ({ frames := 3, cells := 0, slots := 0, locals := 56 })).room s m args below meth c H locs 0 0 (MQ below (xQ D b 11 (fun r C1 => (∃ d9 g9 lo9 hi9, d9 < dts ∧ g9 < dts ∧ lo9 ≤ hi9 ∧ hi9 < 12 ∧ d = nI d9 ∧ g = nI g9 ∧ lo = nI lo9 ∧ hi = nI hi9 ∧ (((tOr on1 ot2 tld 6 (2 ^ d9) = tOr on1 ot2 tld 6 (2 ^ g9) ∨ ((∃ k, k < tld ∧ on1 k = ot2 k ∧ (tOr on1 ot2 tld 6 (2 ^ d9)).testBit (on1 k) = true) ∧ (∃ k, k < tld ∧ on1 k = ot2 k ∧ (tOr on1 ot2 tld 6 (2 ^ g9)).testBit (on1 k) = true))) ∧ r = some (.int (-1)) ∧ MV ca b C1 0 dts tld fs9 ls9 cn9 lf9 mb9 mwt mab mbe on1 ot2 lea mos yrs bv) ∨ (¬ (tOr on1 ot2 tld 6 (2 ^ d9) = tOr on1 ot2 tld 6 (2 ^ g9) ∨ ((∃ k, k < tld ∧ on1 k = ot2 k ∧ (tOr on1 ot2 tld 6 (2 ^ d9)).testBit (on1 k) = true) ∧ (∃ k, k < tld ∧ on1 k = ot2 k ∧ (tOr on1 ot2 tld 6 (2 ^ g9)).testBit (on1 k) = true))) ∧ r = some (.int (nI tld)) ∧ MV ca b C1 0 dts (tld + 1) fs9 ls9 cn9 lf9 mb9 mwt mab mbe (va_up on1 tld d9) (va_up ot2 tld g9) (va_up lea tld lo9) (va_up mos tld hi9) yrs bv))) ∨ (∃ t, ((¬ (isN d dts ∧ isN g dts) ∧ t = 1) ∨ ((isN d dts ∧ isN g dts) ∧ ¬ (∃ lo9 hi9, lo9 ≤ hi9 ∧ hi9 < 12 ∧ lo = nI lo9 ∧ hi = nI hi9) ∧ t = 2)) ∧ r = some (.int (nI 0)) ∧ MV ca b C1 t dts tld fs9 ls9 cn9 lf9 mb9 mwt mab mbe on1 ot2 lea mos yrs bv))) args s 0 0 (xr b 11)) (F0 m 22 ls [.int (nI zz.toNat), .ref (b + 0)]) := by
    intro zz C H locs hzz hP hS hX
    refine lv_iload_n hx hb d_MO_row_22 rfl (lv_at hl 3 rfl) ?_
    have j44 : ∀ (zl : Bool), (zl = true ↔ ∃ lo9 hi9, lo9 ≤ hi9 ∧ hi9 < 12 ∧ lo = nI lo9 ∧ hi = nI hi9) → W p l e (headSpec (k_MO_row :: gw) ({ frames := 3, cells := 0, slots := 0, locals := 56 })).room s m args below meth c H locs 0 0 (MQ below (xQ D b 11 (fun r C1 => (∃ d9 g9 lo9 hi9, d9 < dts ∧ g9 < dts ∧ lo9 ≤ hi9 ∧ hi9 < 12 ∧ d = nI d9 ∧ g = nI g9 ∧ lo = nI lo9 ∧ hi = nI hi9 ∧ (((tOr on1 ot2 tld 6 (2 ^ d9) = tOr on1 ot2 tld 6 (2 ^ g9) ∨ ((∃ k, k < tld ∧ on1 k = ot2 k ∧ (tOr on1 ot2 tld 6 (2 ^ d9)).testBit (on1 k) = true) ∧ (∃ k, k < tld ∧ on1 k = ot2 k ∧ (tOr on1 ot2 tld 6 (2 ^ g9)).testBit (on1 k) = true))) ∧ r = some (.int (-1)) ∧ MV ca b C1 0 dts tld fs9 ls9 cn9 lf9 mb9 mwt mab mbe on1 ot2 lea mos yrs bv) ∨ (¬ (tOr on1 ot2 tld 6 (2 ^ d9) = tOr on1 ot2 tld 6 (2 ^ g9) ∨ ((∃ k, k < tld ∧ on1 k = ot2 k ∧ (tOr on1 ot2 tld 6 (2 ^ d9)).testBit (on1 k) = true) ∧ (∃ k, k < tld ∧ on1 k = ot2 k ∧ (tOr on1 ot2 tld 6 (2 ^ g9)).testBit (on1 k) = true))) ∧ r = some (.int (nI tld)) ∧ MV ca b C1 0 dts (tld + 1) fs9 ls9 cn9 lf9 mb9 mwt mab mbe (va_up on1 tld d9) (va_up ot2 tld g9) (va_up lea tld lo9) (va_up mos tld hi9) yrs bv))) ∨ (∃ t, ((¬ (isN d dts ∧ isN g dts) ∧ t = 1) ∨ ((isN d dts ∧ isN g dts) ∧ ¬ (∃ lo9 hi9, lo9 ≤ hi9 ∧ hi9 < 12 ∧ lo = nI lo9 ∧ hi = nI hi9) ∧ t = 2)) ∧ r = some (.int (nI 0)) ∧ MV ca b C1 t dts tld fs9 ls9 cn9 lf9 mb9 mwt mab mbe on1 ot2 lea mos yrs bv))) args s 0 0 (xr b 11)) (F0 m 44 ls [.int (nI zl.toNat), .int (nI zz.toNat), .ref (b + 0)]) := by
      intro zl hzl
      refine lv_iconst (v := nI 1) hx hb d_MO_row_44 (by decide) ?_
      obtain ⟨bg9, wd9, hX, hB9⟩ := hX
      refine xc_V (n := 3) (g0 := 0) (As := [.int (nI zz.toNat), .int (nI zl.toNat), .int (nI 1)]) (rest := []) (st0 := _) hx hb hml hown hts (c_MO_goes l D ca b _ zz zl true hX ) km_MO_goes tb_658 tb_660 tps_19 tb_7 (by decide +kernel) rfl rfl ⟨Nat.le_of_ble_eq_true rfl, Nat.le_of_ble_eq_true rfl⟩ hK hP (MR_0 hX) (by decide) rfl rfl rfl hl rfl (Nat.le_of_ble_eq_true rfl) d_MO_row_45 ⟨Nat.zero_le _, Nat.zero_le _⟩ hS (fun _ h => h) (fun v C H locs hp hP _ _ hS => ?_)
      obtain ⟨rfl, hX⟩ := hp
      have hX : MV ca b C (gth zz zl true) dts tld fs9 ls9 cn9 lf9 mb9 mwt mab mbe on1 ot2 lea mos yrs bv := ⟨_, _, hX, hB9⟩
      refine xz_ne (tgt := 53) hx hb d_MO_row_48 (by decide) (gz_b _) (fun h48 => ?_) (fun h48 => ?_)
      · skip
        obtain ⟨g1, g2, -⟩ := gth_0 (gz_n h48)
        obtain ⟨⟨d9, hd9, rfl⟩, ⟨g9, hg9, rfl⟩⟩ := hzz.mp g1
        obtain ⟨lo9, hi9, k1, k2, rfl, rfl⟩ := hzl.mp g2
        have hg0 := gz_n h48
        rw [hg0] at hX
        have ht1 := tOr_lt hM 6 _ (Nat.pow_lt_pow_right (by decide) (show d9 < 6 by omega))
        have ht2 := tOr_lt hM 6 _ (Nat.pow_lt_pow_right (by decide) (show g9 < 6 by omega))
        refine lv_aload_n hx hb d_MO_row_53 rfl (lv_at hl 0 rfl) ?_
        refine lv_iload_n hx hb d_MO_row_54 rfl (lv_at hl 1 rfl) ?_
        refine xc_V (n := 1) (g0 := 0) (As := [.int (nI d9)]) (rest := []) (st0 := _) hx hb hml hown hts (c_MO_treeOf l D ca b _ d9 hX hM (by omega)) km_MO_treeOf tb_681 tb_683 tps_21 tb_7 (by decide +kernel) rfl rfl ⟨Nat.le_of_ble_eq_true rfl, Nat.le_of_ble_eq_true rfl⟩ hK hP (MV_0 hX) (by decide) rfl rfl rfl hl rfl (Nat.le_of_ble_eq_true rfl) d_MO_row_55 ⟨Nat.zero_le _, Nat.zero_le _⟩ hS (fun _ h => h) (fun v C H locs hp hP _ _ hS => ?_)
        obtain ⟨rfl, hX⟩ := hp
        refine lv_istore (lv' := [(5, .int (nI (tOr on1 ot2 tld 6 (2 ^ d9)))), (0, .ref (b + 0)), (1, .int (nI d9)), (2, .int (nI g9)), (3, .int (nI lo9)), (4, .int (nI hi9))]) hx hb d_MO_row_58 hl (by decide) rfl (fun ls hl => ?_)
        refine lv_aload_n hx hb d_MO_row_60 rfl (lv_at hl 1 rfl) ?_
        refine lv_iload_n hx hb d_MO_row_61 rfl (lv_at hl 3 rfl) ?_
        refine xc_V (n := 1) (g0 := 0) (As := [.int (nI g9)]) (rest := []) (st0 := _) hx hb hml hown hts (c_MO_treeOf l D ca b _ g9 hX hM (by omega)) km_MO_treeOf tb_681 tb_683 tps_21 tb_7 (by decide +kernel) rfl rfl ⟨Nat.le_of_ble_eq_true rfl, Nat.le_of_ble_eq_true rfl⟩ hK hP (MV_0 hX) (by decide) rfl rfl rfl hl rfl (Nat.le_of_ble_eq_true rfl) d_MO_row_62 ⟨Nat.zero_le _, Nat.zero_le _⟩ hS (fun _ h => h) (fun v C H locs hp hP _ _ hS => ?_)
        obtain ⟨rfl, hX⟩ := hp
        refine lv_istore (lv' := [(6, .int (nI (tOr on1 ot2 tld 6 (2 ^ g9)))), (5, .int (nI (tOr on1 ot2 tld 6 (2 ^ d9)))), (0, .ref (b + 0)), (1, .int (nI d9)), (2, .int (nI g9)), (3, .int (nI lo9)), (4, .int (nI hi9))]) hx hb d_MO_row_65 hl (by decide) rfl (fun ls hl => ?_)
        refine lv_iload hx hb d_MO_row_67 (lv_at hl 1 rfl) ?_
        refine lv_iload hx hb d_MO_row_69 (lv_at hl 0 rfl) ?_
        refine xi_eq (tgt := 92) hx hb d_MO_row_71 (by decide) (by omega) (by omega) (fun h71 => ?_) (fun h71 => ?_)
        · skip
          refine lv_iconst (v := (-1)) hx hb d_MO_row_92 (by decide) ?_
          exact xw_iret hx hb hr hlocks hP hS (Or.inl ⟨d9, g9, lo9, hi9, hd9, hg9, k1, k2, rfl, rfl, rfl, rfl, Or.inl ⟨Or.inl h71, rfl, hX⟩⟩) d_MO_row_93
        · skip
          refine lv_aload_n hx hb d_MO_row_74 rfl (lv_at hl 2 rfl) ?_
          refine lv_iload hx hb d_MO_row_75 (lv_at hl 1 rfl) ?_
          refine xc_V (n := 1) (g0 := 0) (As := [.int (nI (tOr on1 ot2 tld 6 (2 ^ d9)))]) (rest := []) (st0 := _) hx hb hml hown hts (c_MO_hasMember l D ca b _ (tOr on1 ot2 tld 6 (2 ^ d9)) hX hM (by omega)) km_MO_hasMember tb_685 tb_687 tps_22 tb_7 (by decide +kernel) rfl rfl ⟨Nat.le_of_ble_eq_true rfl, Nat.le_of_ble_eq_true rfl⟩ hK hP (MV_0 hX) (by decide) rfl rfl rfl hl rfl (Nat.le_of_ble_eq_true rfl) d_MO_row_77 ⟨Nat.zero_le _, Nat.zero_le _⟩ hS (fun _ h => h) (fun v C H locs hp hP _ _ hS => ?_)
          obtain ⟨z2, rfl, hz2, hX⟩ := hp
          refine xz_eq (tgt := 94) hx hb d_MO_row_80 (by decide) (tn31 _) (fun h80 => ?_) (fun h80 => ?_)
          · skip
            have hok : ¬ (tOr on1 ot2 tld 6 (2 ^ d9) = tOr on1 ot2 tld 6 (2 ^ g9) ∨ ((∃ k, k < tld ∧ on1 k = ot2 k ∧ (tOr on1 ot2 tld 6 (2 ^ d9)).testBit (on1 k) = true) ∧ (∃ k, k < tld ∧ on1 k = ot2 k ∧ (tOr on1 ot2 tld 6 (2 ^ g9)).testBit (on1 k) = true))) := fun q => q.elim h71 (fun q => by have := hz2.mpr q.1; rw [bf h80] at this; cases this)
            refine lv_aload_n hx hb d_MO_row_94 rfl (lv_at hl 2 rfl) ?_
            refine lv_iload_n hx hb d_MO_row_95 rfl (lv_at hl 3 rfl) ?_
            refine lv_iload_n hx hb d_MO_row_96 rfl (lv_at hl 4 rfl) ?_
            refine lv_iload_n hx hb d_MO_row_97 rfl (lv_at hl 5 rfl) ?_
            refine lv_iload hx hb d_MO_row_98 (lv_at hl 6 rfl) ?_
            obtain ⟨bg9, wd9, hX, hB9⟩ := hX
            refine xc_V (n := 4) (g0 := 0) (As := [.int (nI d9), .int (nI g9), .int (nI lo9), .int (nI hi9)]) (rest := []) (st0 := _) hx hb hml hown hts (c_MO_tell l D ca b _ d9 g9 lo9 hi9 hX (hfull d9 g9 hd9 hg9 hok)) km_MO_tell tb_693 tb_695 tps_24 tb_7 (by decide +kernel) rfl rfl ⟨Nat.le_of_ble_eq_true rfl, Nat.le_of_ble_eq_true rfl⟩ hK hP (MR_0 hX) (by decide) rfl rfl rfl hl rfl (Nat.le_of_ble_eq_true rfl) d_MO_row_100 ⟨Nat.zero_le _, Nat.zero_le _⟩ hS (fun _ h => h) (fun v C H locs hp hP _ _ hS => ?_)
            obtain ⟨rfl, hX⟩ := hp
            have hX : MV ca b C 0 dts (tld + 1) fs9 ls9 cn9 lf9 mb9 mwt mab mbe (va_up on1 tld d9) (va_up ot2 tld g9) (va_up lea tld lo9) (va_up mos tld hi9) yrs bv := ⟨_, _, hX, hB9⟩
            exact xw_iret hx hb hr hlocks hP hS (Or.inl ⟨d9, g9, lo9, hi9, hd9, hg9, k1, k2, rfl, rfl, rfl, rfl, Or.inr ⟨hok, rfl, hX⟩⟩) d_MO_row_103
          · skip
            refine lv_aload_n hx hb d_MO_row_83 rfl (lv_at hl 2 rfl) ?_
            refine lv_iload hx hb d_MO_row_84 (lv_at hl 0 rfl) ?_
            refine xc_V (n := 1) (g0 := 0) (As := [.int (nI (tOr on1 ot2 tld 6 (2 ^ g9)))]) (rest := []) (st0 := _) hx hb hml hown hts (c_MO_hasMember l D ca b _ (tOr on1 ot2 tld 6 (2 ^ g9)) hX hM (by omega)) km_MO_hasMember tb_685 tb_687 tps_22 tb_7 (by decide +kernel) rfl rfl ⟨Nat.le_of_ble_eq_true rfl, Nat.le_of_ble_eq_true rfl⟩ hK hP (MV_0 hX) (by decide) rfl rfl rfl hl rfl (Nat.le_of_ble_eq_true rfl) d_MO_row_86 ⟨Nat.zero_le _, Nat.zero_le _⟩ hS (fun _ h => h) (fun v C H locs hp hP _ _ hS => ?_)
            obtain ⟨z3, rfl, hz3, hX⟩ := hp
            refine xz_eq (tgt := 94) hx hb d_MO_row_89 (by decide) (tn31 _) (fun h89 => ?_) (fun h89 => ?_)
            · skip
              have hok : ¬ (tOr on1 ot2 tld 6 (2 ^ d9) = tOr on1 ot2 tld 6 (2 ^ g9) ∨ ((∃ k, k < tld ∧ on1 k = ot2 k ∧ (tOr on1 ot2 tld 6 (2 ^ d9)).testBit (on1 k) = true) ∧ (∃ k, k < tld ∧ on1 k = ot2 k ∧ (tOr on1 ot2 tld 6 (2 ^ g9)).testBit (on1 k) = true))) := fun q => q.elim h71 (fun q => by have := hz3.mpr q.2; rw [bf h89] at this; cases this)
              refine lv_aload_n hx hb d_MO_row_94 rfl (lv_at hl 2 rfl) ?_
              refine lv_iload_n hx hb d_MO_row_95 rfl (lv_at hl 3 rfl) ?_
              refine lv_iload_n hx hb d_MO_row_96 rfl (lv_at hl 4 rfl) ?_
              refine lv_iload_n hx hb d_MO_row_97 rfl (lv_at hl 5 rfl) ?_
              refine lv_iload hx hb d_MO_row_98 (lv_at hl 6 rfl) ?_
              obtain ⟨bg9, wd9, hX, hB9⟩ := hX
              refine xc_V (n := 4) (g0 := 0) (As := [.int (nI d9), .int (nI g9), .int (nI lo9), .int (nI hi9)]) (rest := []) (st0 := _) hx hb hml hown hts (c_MO_tell l D ca b _ d9 g9 lo9 hi9 hX (hfull d9 g9 hd9 hg9 hok)) km_MO_tell tb_693 tb_695 tps_24 tb_7 (by decide +kernel) rfl rfl ⟨Nat.le_of_ble_eq_true rfl, Nat.le_of_ble_eq_true rfl⟩ hK hP (MR_0 hX) (by decide) rfl rfl rfl hl rfl (Nat.le_of_ble_eq_true rfl) d_MO_row_100 ⟨Nat.zero_le _, Nat.zero_le _⟩ hS (fun _ h => h) (fun v C H locs hp hP _ _ hS => ?_)
              obtain ⟨rfl, hX⟩ := hp
              have hX : MV ca b C 0 dts (tld + 1) fs9 ls9 cn9 lf9 mb9 mwt mab mbe (va_up on1 tld d9) (va_up ot2 tld g9) (va_up lea tld lo9) (va_up mos tld hi9) yrs bv := ⟨_, _, hX, hB9⟩
              exact xw_iret hx hb hr hlocks hP hS (Or.inl ⟨d9, g9, lo9, hi9, hd9, hg9, k1, k2, rfl, rfl, rfl, rfl, Or.inr ⟨hok, rfl, hX⟩⟩) d_MO_row_103
            · skip
              refine lv_iconst (v := (-1)) hx hb d_MO_row_92 (by decide) ?_
              exact xw_iret hx hb hr hlocks hP hS (Or.inl ⟨d9, g9, lo9, hi9, hd9, hg9, k1, k2, rfl, rfl, rfl, rfl, Or.inl ⟨Or.inr ⟨hz2.mp (bt h80), hz3.mp (bt h89)⟩, rfl, hX⟩⟩) d_MO_row_93
      · skip
        refine lv_iconst (v := nI 0) hx hb d_MO_row_51 (by decide) ?_
        exact xw_iret hx hb hr hlocks hP hS (Or.inr ⟨_, by
            by_cases q : zz = true
            · refine Or.inr ⟨hzz.mp q, fun hq => ?_, gth_2 q (fun q2 => ?_)⟩
              · exact gz_z h48 (by rw [q, hzl.mpr hq]; rfl)
              · exact gz_z h48 (by rw [q, q2]; rfl)
            · exact Or.inl ⟨fun hq => q (hzz.mpr hq), gth_1 q⟩, rfl, hX⟩) d_MO_row_52
    refine lv_if_lt (tgt := 43) hx hb d_MO_row_23 (by decide) (fun h23 => ?_) (fun h23 => ?_)
    · skip
      refine lv_iconst (v := nI 0) hx hb d_MO_row_43 (by decide) ?_
      exact j44 false ⟨fun q => (by cases q), fun ⟨lo9, hi9, q1, q2, q3, q4⟩ => by subst q3; subst q4; exact absurd h23 (nI_pos (by omega))⟩
    · skip
      refine lv_iload_n hx hb d_MO_row_26 rfl (lv_at hl 3 rfl) ?_
      refine lv_iload hx hb d_MO_row_27 (lv_at hl 4 rfl) ?_
      refine lv_icmp_gt (tgt := 43) hx hb d_MO_row_29 (by decide) (fun h29 => ?_) (fun h29 => ?_)
      · skip
        refine lv_iconst (v := nI 0) hx hb d_MO_row_43 (by decide) ?_
        exact j44 false ⟨fun q => (by cases q), fun ⟨lo9, hi9, q1, q2, q3, q4⟩ => by subst q3; subst q4; exact absurd h29 (fun q => absurd ((nI_ltI (by omega) (by omega)).mp q) (by omega))⟩
      · skip
        refine lv_iload hx hb d_MO_row_32 (lv_at hl 4 rfl) ?_
        refine lv_bipush (v := nI 12) hx hb d_MO_row_34 (by decide) ?_
        refine lv_icmp_ge (tgt := 43) hx hb d_MO_row_36 (by decide) (fun h36 => ?_) (fun h36 => ?_)
        · skip
          refine lv_iconst (v := nI 0) hx hb d_MO_row_43 (by decide) ?_
          exact j44 false ⟨fun q => (by cases q), fun ⟨lo9, hi9, q1, q2, q3, q4⟩ => by subst q3; subst q4; exact absurd h36 (fun q => absurd ((nI_leI (a := 12) (by omega) (by omega)).mp q) (by omega))⟩
        · skip
          obtain ⟨lo9, hlo31, rfl⟩ := nI_of h23
          have hhi0 : ¬ hi < 0 := fun q => h29 (Int32.lt_of_lt_of_le q (nI_pos' hlo31))
          obtain ⟨hi9, hhi31, rfl⟩ := nI_of hhi0
          have e29 := Nat.not_lt.mp (fun q => h29 ((nI_ltI (a := hi9) (b := lo9) (by omega) (by omega)).mpr q))
          have e36 := Nat.not_le.mp (fun q => h36 ((nI_leI (a := 12) (b := hi9) (by omega) (by omega)).mpr q))
          refine lv_iconst (v := nI 1) hx hb d_MO_row_39 (by decide) ?_
          refine lv_goto (tgt := 44) hx hb d_MO_row_40 (by decide) ?_
          exact j44 true ⟨fun _ => ⟨lo9, hi9, e29, e36, rfl, rfl⟩, fun _ => rfl⟩
  refine xz_eq (tgt := 21) hx hb d_MO_row_6 (by decide) (tn31 _) (fun h6 => ?_) (fun h6 => ?_)
  · skip
    refine lv_iconst (v := nI 0) hx hb d_MO_row_21 (by decide) ?_
    exact j22 false _ _ _ ⟨fun q => (by cases q), fun q => by have := hz1.mpr q.1; rw [bf h6] at this; cases this⟩ hP hS hX
  · skip
    refine lv_aload_n hx hb d_MO_row_9 rfl (lv_at hl 0 rfl) ?_
    refine lv_iload_n hx hb d_MO_row_10 rfl (lv_at hl 2 rfl) ?_
    obtain ⟨bg9, wd9, hX, hB9⟩ := hX
    refine xc_V (n := 1) (g0 := 0) (As := [.int g]) (rest := [.ref (b + 0)]) (st0 := _) hx hb hml hown hts (c_MO_isDate l D ca b _ g hX (by omega)) km_MO_isDate tb_666 tb_668 tps_20 tb_7 (by decide +kernel) rfl rfl ⟨Nat.le_of_ble_eq_true rfl, Nat.le_of_ble_eq_true rfl⟩ hK hP (MR_0 hX) (by decide) rfl rfl rfl hl rfl (Nat.le_of_ble_eq_true rfl) d_MO_row_11 ⟨Nat.zero_le _, Nat.zero_le _⟩ hS (fun _ h => h) (fun v C H locs hp hP _ _ hS => ?_)
    obtain ⟨z4, rfl, hz4, hX⟩ := hp
    have hX : MV ca b C th dts tld fs9 ls9 cn9 lf9 mb9 mwt mab mbe on1 ot2 lea mos yrs bv := ⟨_, _, hX, hB9⟩
    refine xz_eq (tgt := 21) hx hb d_MO_row_14 (by decide) (tn31 _) (fun h14 => ?_) (fun h14 => ?_)
    · skip
      refine lv_iconst (v := nI 0) hx hb d_MO_row_21 (by decide) ?_
      exact j22 false _ _ _ ⟨fun q => (by cases q), fun q => by have := hz4.mpr q.2; rw [bf h14] at this; cases this⟩ hP hS hX
    · skip
      refine lv_iconst (v := nI 1) hx hb d_MO_row_17 (by decide) ?_
      refine lv_goto (tgt := 22) hx hb d_MO_row_18 (by decide) ?_
      exact j22 true _ _ _ ⟨fun _ => ⟨hz1.mp (bt h6), hz4.mp (bt h14)⟩, fun _ => rfl⟩ hP hS hX

