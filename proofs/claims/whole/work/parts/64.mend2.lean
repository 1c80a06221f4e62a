/-! The Model: bound, span, fitless, narrow -/
set_option maxHeartbeats 4000000 in
set_option maxRecDepth 100000 in
/-- the sum of all ways with a bound: a digit -/
theorem c_MO_bound (l : Launch) (D : va_G) (ca : Nat → ClassId) (b : Nat) (C0 : Nat → va_E) {th : Nat} {dts : Nat} {tld : Nat} {fs9 : Nat} {ls9 : Nat} {cn9 : Nat} {lf9 : Nat} {mb9 : Nat} {mwt : Nat → Nat} {mab : Nat → Nat} {mbe : Nat → Nat} {on1 : Nat → Nat} {ot2 : Nat → Nat} {lea : Nat → Nat} {mos : Nat → Nat} {yrs : Nat → Nat} {bv : Nat → Nat} (x y k : Int32) (hX : MV ca b C0 th dts tld fs9 ls9 cn9 lf9 mb9 mwt mab mbe on1 ot2 lea mos yrs bv) (hH : MH on1 ot2 lea mos mwt mab mbe tld dts) : Met l y_MO_bound (k_MO_bound :: gw) ({ frames := 5, cells := 0, slots := 0, locals := 112 }) (xPc D ca b 11 C0 [.ref (b + 0), .int x, .int y, .int k]) (xQ D b 11 (fun r C1 => (∃ x9 y9 k9, x9 < 2 ∧ y9 < 12 ∧ k9 < 48 ∧ x = nI x9 ∧ y = nI y9 ∧ k = nI k9 ∧ (∃ i, i < tld ∧ (2 ^ tld - 1).testBit i = true ∧ on1 i = ot2 i) ∧ r = some (.int (nI (mSum on1 ot2 lea mos mwt mab mbe tld dts (2 ^ tld - 1) (if x9 = 0 then 2 ^ y9 else 4095) (if x9 = 1 then 2 ^ y9 else 4095) (fun _ => 4095) / 10 ^ k9 % 10))) ∧ MG ca b C1 0 dts tld mwt mab mbe on1 ot2 lea mos) ∨ (∃ t, ((¬ (isN x 2 ∧ isN y 12 ∧ isN k 48) ∧ t = 1) ∨ ((isN x 2 ∧ isN y 12 ∧ isN k 48) ∧ ¬ (∃ i, i < tld ∧ (2 ^ tld - 1).testBit i = true ∧ on1 i = ot2 i) ∧ t = 2)) ∧ r = some (.int (nI 0)) ∧ MG ca b C1 t dts tld mwt mab mbe on1 ot2 lea mos))) 0 0 (xr b 11) := by
  refine Met.ofW (cc := b_MO_bound) (maxL := 4) (ret := (some FieldType.int)) (by decide) rfl ?_
  intro p e s m args below meth c s₁ B hml hv
  obtain ⟨hav, hP, hK⟩ := hv
  have hx := B.exec
  have hb := B.bytes
  have hr := B.returns
  have hts := atoms_spec (ws := k_MO_bound :: gw) B.pre
  have hown : s.vm.findClass R_MO = some m.cls := findClass_of_methodNamed B.named
  have hlocks := B.notSynchronized
  have hA : ∀ k, k < 11 → xr b 11 (b + k) := xr_in
  have hS : va_S (xr b 11) s.heap s.heap [] := va_S.rf
  have hl := lv_entry ([.ref (b + 0), .int x, .int y, .int k]) (n := 4) (Nat.le_of_ble_eq_true rfl)
  rw [hav, lg_entry_eq]
  generalize (lg_sl ([.ref (b + 0), .int x, .int y, .int k]) ++ List.replicate (4 - (lg_sl ([.ref (b + 0), .int x, .int y, .int k])).length) Slot.unset).toArray = ls at hl ⊢
  have hl : lv_has ls 4 [(0, .ref (b + 0)), (1, .int x), (2, .int y), (3, .int k)] := hl
  rw [← hav]
  have hM6 := hH.M.1
  have hd6 := hH.D.1
  have h2p : 0 < 2 ^ tld := Nat.pow_pos (by decide)
  refine lv_aload_n hx hb d_MO_bound_0 rfl (lv_at hl 0 rfl) ?_
  refine lv_iconst (v := nI 1) hx hb d_MO_bound_1 (by decide) ?_
  refine lv_aload_n hx hb d_MO_bound_2 rfl (lv_at hl 0 rfl) ?_
  refine xw_get (v := .int (nI tld)) hx hb hts (fun w h => mw (uw_MO w h)) hown hK hP (MV_0 hX) (by decide) rfl 5 (by decide) (hts _ (mw tb_600)) (fun _ h => h) rfl d_MO_bound_3 ?_
  refine lv_ishl hx hb d_MO_bound_6 ?_
  refine ti (nI (2 ^ tld)) (sh1 (by omega)) ?_
  refine lv_iconst (v := nI 1) hx hb d_MO_bound_7 (by decide) ?_
  refine lv_isub hx hb d_MO_bound_8 ?_
  refine ti (nI ((2 ^ tld) - 1)) (pk_sub (by omega)) ?_
  refine xw_put (v := .int (nI ((2 ^ tld) - 1))) (ty := t_MO 15) hx hb hts (fun w h => mw (uw_MO w h)) t_MO t_MO_ok n_MO hown hK hP hA hS (MV_0 hX) (by decide) rfl 15 (by decide) (hts _ (mw tb_610)) (fun _ h => h) rfl (by decide +kernel) rfl rfl (Nat.le_of_ble_eq_true rfl) d_MO_bound_9 (fun H locs hP hS => ?_)
  have hX := MV_set_cn9 (x1 := (2 ^ tld) - 1) hX
  generalize va_up _ 0 _ = C at hP hX
  refine lv_aload_n hx hb d_MO_bound_12 rfl (lv_at hl 0 rfl) ?_
  refine lv_iload_n hx hb d_MO_bound_13 rfl (lv_at hl 1 rfl) ?_
  refine lv_iconst (v := nI 2) hx hb d_MO_bound_14 (by decide) ?_
  obtain ⟨bg9, wd9, hX, hB9⟩ := hX
  refine xc_S (n := 2) (As := [.int x, .int (nI 2)]) (rest := [.ref (b + 0)]) (st0 := _) hx hb hml hown hts (c_MO_below l D ca b _ x 2 hX (by omega)) km_MO_below tb_670 tb_671 tb_7 (by decide +kernel) rfl rfl ⟨Nat.le_of_ble_eq_true rfl, Nat.le_of_ble_eq_true rfl⟩ hK hP rfl hl rfl (Nat.le_of_ble_eq_true rfl) d_MO_bound_15 ⟨Nat.zero_le _, Nat.zero_le _⟩ hS (fun _ h => h) (fun v C H locs hp hP _ _ hS => ?_)
  obtain ⟨z1, rfl, hz1, hX⟩ := hp
  have hX : MV ca b C th dts tld fs9 ls9 ((2 ^ tld) - 1) lf9 mb9 mwt mab mbe on1 ot2 lea mos yrs bv := ⟨_, _, hX, hB9⟩
  have j42 : ∀ (zz : Bool) (C : Nat → va_E) (H : Heap) (locs : List Loc), (zz = true ↔ isN x 2 ∧ isN y 12 ∧ isN k 48) → va_P D classes (wl b 11 C) H → va_S (xr b 11) s.heap H locs → MV ca b C th dts tld fs9 ls9 ((2 ^ tld) - 1) lf9 mb9 mwt mab mbe on1 ot2 lea mos yrs bv → W p l e (headSpec (k_MO_bound :: gw) ({ frames := 5, cells := 0, slots := 0, locals := 112 })).room s m args below meth c H locs 0 0 (MQ below (xQ D b 11 (fun r C1 => (∃ x9 y9 k9, x9 < 2 ∧ y9 < 12 ∧ k9 < 48 ∧ x = nI x9 ∧ y = nI y9 ∧ k = nI k9 ∧ (∃ i, i < tld ∧ (2 ^ tld - 1).testBit i = true ∧ on1 i = ot2 i) ∧ r = some (.int (nI (mSum on1 ot2 lea mos mwt mab mbe tld dts (2 ^ tld - 1) (if x9 = 0 then 2 ^ y9 else 4095) (if x9 = 1 then 2 ^ y9 else 4095) (fun _ => 4095) / 10 ^ k9 % 10))) ∧ MG ca b C1 0 dts tld mwt mab mbe on1 ot2 lea mos) ∨ (∃ t, ((¬ (isN x 2 ∧ isN y 12 ∧ isN k 48) ∧ t = 1) ∨ ((isN x 2 ∧ isN y 12 ∧ isN k 48) ∧ ¬ (∃ i, i < tld ∧ (2 ^ tld - 1).testBit i = true ∧ on1 i = ot2 i) ∧ t = 2)) ∧ r = some (.int (nI 0)) ∧ MG ca b C1 t dts tld mwt mab mbe on1 ot2 lea mos))) args s 0 0 (xr b 11)) (F0 m 42 ls [.int (nI zz.toNat), .ref (b + 0)]) := by
    intro zz C H locs hzz hP hS hX
    refine lv_aload_n hx hb d_MO_bound_42 rfl (lv_at hl 0 rfl) ?_
    refine xc_V (n := 0) (g0 := 0) (As := []) (rest := [.int (nI zz.toNat), .ref (b + 0)]) (st0 := _) hx hb hml hown hts (c_MO_hasMembers l D ca b _  hX hH.M (cnb hM6)) km_MO_hasMembers tb_776 tb_778 tps_40 tb_7 (by decide +kernel) rfl rfl ⟨Nat.le_of_ble_eq_true rfl, Nat.le_of_ble_eq_true rfl⟩ hK hP (MV_0 hX) (by decide) rfl rfl rfl hl rfl (Nat.le_of_ble_eq_true rfl) d_MO_bound_43 ⟨Nat.zero_le _, Nat.zero_le _⟩ hS (fun _ h => h) (fun v C H locs hp hP _ _ hS => ?_)
    obtain ⟨z2, rfl, hz2, hX⟩ := hp
    refine lv_iconst (v := nI 1) hx hb d_MO_bound_46 (by decide) ?_
    obtain ⟨bg9, wd9, hX, hB9⟩ := hX
    refine xc_V (n := 3) (g0 := 0) (As := [.int (nI zz.toNat), .int (nI z2.toNat), .int (nI 1)]) (rest := []) (st0 := _) hx hb hml hown hts (c_MO_goes l D ca b _ zz z2 true hX ) km_MO_goes tb_658 tb_660 tps_19 tb_7 (by decide +kernel) rfl rfl ⟨Nat.le_of_ble_eq_true rfl, Nat.le_of_ble_eq_true rfl⟩ hK hP (MR_0 hX) (by decide) rfl rfl rfl hl rfl (Nat.le_of_ble_eq_true rfl) d_MO_bound_47 ⟨Nat.zero_le _, Nat.zero_le _⟩ hS (fun _ h => h) (fun v C H locs hp hP _ _ hS => ?_)
    obtain ⟨rfl, hX⟩ := hp
    have hX : MV ca b C (gth zz z2 true) dts tld fs9 ls9 ((2 ^ tld) - 1) lf9 mb9 mwt mab mbe on1 ot2 lea mos yrs bv := ⟨_, _, hX, hB9⟩
    refine xz_ne (tgt := 55) hx hb d_MO_bound_50 (by decide) (gz_b _) (fun h50 => ?_) (fun h50 => ?_)
    · skip
      obtain ⟨g1, g2, -⟩ := gth_0 (gz_n h50)
      obtain ⟨⟨x9, hx9, hxe⟩, ⟨y9, hy9, hye⟩, ⟨k9, hk9, hke⟩⟩ := hzz.mp g1
      have hg0 := gz_n h50
      rw [hg0] at hX
      rw [hxe, hye, hke] at hl
      have hme := hz2.mp g2
      have hp12 := p12 hy9
      refine lv_aload_n hx hb d_MO_bound_55 rfl (lv_at hl 0 rfl) ?_
      obtain ⟨bg9, wd9, hX, hB9⟩ := hX
      refine xc_V (n := 0) (g0 := 0) (As := []) (rest := []) (st0 := _) hx hb hml hown hts (c_MO_open l D ca b _  hX (by omega)) km_MO_open tb_708 tb_710 tps_25 tb_7 (by decide +kernel) rfl rfl ⟨Nat.le_of_ble_eq_true rfl, Nat.le_of_ble_eq_true rfl⟩ hK hP (MR_0 hX) (by decide) rfl rfl rfl hl rfl (Nat.le_of_ble_eq_true rfl) d_MO_bound_56 ⟨Nat.zero_le _, Nat.zero_le _⟩ hS (fun _ h => h) (fun v C H locs hp hP _ _ hS => ?_)
      obtain ⟨rfl, hX⟩ := hp
      have hX : MV ca b C 0 dts tld 4095 4095 (2 ^ tld - 1) lf9 mb9 mwt mab mbe on1 ot2 lea mos (upto 6 (fun _ => 4095) yrs) bv := ⟨_, _, hX, hB9⟩
      refine lv_aload_n hx hb d_MO_bound_59 rfl (lv_at hl 0 rfl) ?_
      refine lv_iload_n hx hb d_MO_bound_60 rfl (lv_at hl 1 rfl) ?_
      have j73 : ∀ (fv : Nat), fv = (if x9 = 0 then 2 ^ y9 else 4095) → fv < 4096 → W p l e (headSpec (k_MO_bound :: gw) ({ frames := 5, cells := 0, slots := 0, locals := 112 })).room s m args below meth c H locs 0 0 (MQ below (xQ D b 11 (fun r C1 => (∃ x9 y9 k9, x9 < 2 ∧ y9 < 12 ∧ k9 < 48 ∧ x = nI x9 ∧ y = nI y9 ∧ k = nI k9 ∧ (∃ i, i < tld ∧ (2 ^ tld - 1).testBit i = true ∧ on1 i = ot2 i) ∧ r = some (.int (nI (mSum on1 ot2 lea mos mwt mab mbe tld dts (2 ^ tld - 1) (if x9 = 0 then 2 ^ y9 else 4095) (if x9 = 1 then 2 ^ y9 else 4095) (fun _ => 4095) / 10 ^ k9 % 10))) ∧ MG ca b C1 0 dts tld mwt mab mbe on1 ot2 lea mos) ∨ (∃ t, ((¬ (isN x 2 ∧ isN y 12 ∧ isN k 48) ∧ t = 1) ∨ ((isN x 2 ∧ isN y 12 ∧ isN k 48) ∧ ¬ (∃ i, i < tld ∧ (2 ^ tld - 1).testBit i = true ∧ on1 i = ot2 i) ∧ t = 2)) ∧ r = some (.int (nI 0)) ∧ MG ca b C1 t dts tld mwt mab mbe on1 ot2 lea mos))) args s 0 0 (xr b 11)) (F0 m 73 ls [.int (nI fv), .ref (b + 0)]) := by
        intro fv hfv hf4
        refine xw_put (v := .int (nI fv)) (ty := t_MO 13) hx hb hts (fun w h => mw (uw_MO w h)) t_MO t_MO_ok n_MO hown hK hP hA hS (MV_0 hX) (by decide) rfl 13 (by decide) (hts _ (mw tb_608)) (fun _ h => h) rfl (by decide +kernel) rfl rfl (Nat.le_of_ble_eq_true rfl) d_MO_bound_73 (fun H locs hP hS => ?_)
        have hX := MV_set_fs9 (x1 := fv) hX
        generalize va_up _ 0 _ = C at hP hX
        refine lv_aload_n hx hb d_MO_bound_76 rfl (lv_at hl 0 rfl) ?_
        refine lv_iload_n hx hb d_MO_bound_77 rfl (lv_at hl 1 rfl) ?_
        refine lv_iconst (v := nI 1) hx hb d_MO_bound_78 (by decide) ?_
        have j91 : ∀ (lv : Nat), lv = (if x9 = 1 then 2 ^ y9 else 4095) → lv < 4096 → W p l e (headSpec (k_MO_bound :: gw) ({ frames := 5, cells := 0, slots := 0, locals := 112 })).room s m args below meth c H locs 0 0 (MQ below (xQ D b 11 (fun r C1 => (∃ x9 y9 k9, x9 < 2 ∧ y9 < 12 ∧ k9 < 48 ∧ x = nI x9 ∧ y = nI y9 ∧ k = nI k9 ∧ (∃ i, i < tld ∧ (2 ^ tld - 1).testBit i = true ∧ on1 i = ot2 i) ∧ r = some (.int (nI (mSum on1 ot2 lea mos mwt mab mbe tld dts (2 ^ tld - 1) (if x9 = 0 then 2 ^ y9 else 4095) (if x9 = 1 then 2 ^ y9 else 4095) (fun _ => 4095) / 10 ^ k9 % 10))) ∧ MG ca b C1 0 dts tld mwt mab mbe on1 ot2 lea mos) ∨ (∃ t, ((¬ (isN x 2 ∧ isN y 12 ∧ isN k 48) ∧ t = 1) ∨ ((isN x 2 ∧ isN y 12 ∧ isN k 48) ∧ ¬ (∃ i, i < tld ∧ (2 ^ tld - 1).testBit i = true ∧ on1 i = ot2 i) ∧ t = 2)) ∧ r = some (.int (nI 0)) ∧ MG ca b C1 t dts tld mwt mab mbe on1 ot2 lea mos))) args s 0 0 (xr b 11)) (F0 m 91 ls [.int (nI lv), .ref (b + 0)]) := by
          intro lv hlv hl4
          refine xw_put (v := .int (nI lv)) (ty := t_MO 14) hx hb hts (fun w h => mw (uw_MO w h)) t_MO t_MO_ok n_MO hown hK hP hA hS (MV_0 hX) (by decide) rfl 14 (by decide) (hts _ (mw tb_609)) (fun _ h => h) rfl (by decide +kernel) rfl rfl (Nat.le_of_ble_eq_true rfl) d_MO_bound_91 (fun H locs hP hS => ?_)
          have hX := MV_set_ls9 (x1 := lv) hX
          generalize va_up _ 0 _ = C at hP hX
          refine lv_aload_n hx hb d_MO_bound_94 rfl (lv_at hl 0 rfl) ?_
          refine xc_V (n := 0) (g0 := 0) (As := []) (rest := []) (st0 := _) hx hb hml hown hts (c_MO_sum l D ca b _ (JS on1 ot2 lea mos mwt mab mbe tld dts (2 ^ tld - 1) fv lv (upto 6 (fun _ => 4095) yrs) bv) hX hH.M hH.D yr_lt (cnb hM6) (by omega) (by omega) (JS.z hH (2 ^ tld - 1) fv lv (upto 6 (fun _ => 4095) yrs) bv) (JS.s hH (2 ^ tld - 1) fv lv (upto 6 (fun _ => 4095) yrs) bv) (JS.l hH (2 ^ tld - 1) fv lv (upto 6 (fun _ => 4095) yrs) bv) (JS.r hH (2 ^ tld - 1) fv lv (upto 6 (fun _ => 4095) yrs) bv) (JS.p (2 ^ tld - 1) fv lv (upto 6 (fun _ => 4095) yrs) bv)) km_MO_sum tb_712 tb_714 tps_26 tb_7 (by decide +kernel) rfl rfl ⟨Nat.le_of_ble_eq_true rfl, Nat.le_of_ble_eq_true rfl⟩ hK hP (MV_0 hX) (by decide) rfl rfl rfl hl rfl (Nat.le_of_ble_eq_true rfl) d_MO_bound_95 ⟨Nat.zero_le _, Nat.zero_le _⟩ hS (fun _ h => h) (fun v C H locs hp hP _ _ hS => ?_)
          obtain ⟨rfl, al, bv1, bw3, hJ, hX, hs4, hk5⟩ := hp
          have hs4 : bw3 74 = mSum on1 ot2 lea mos mwt mab mbe tld dts (2 ^ tld - 1) fv lv (upto 6 (fun _ => 4095) yrs) := hs4.trans (JS.d hH hJ)
          refine lv_aload_n hx hb d_MO_bound_98 rfl (lv_at hl 0 rfl) ?_
          refine lv_bipush (v := nI 74) hx hb d_MO_bound_99 (by decide) ?_
          refine lv_iload_n hx hb d_MO_bound_101 rfl (lv_at hl 3 rfl) ?_
          obtain ⟨bg9, wd9, hX, hB9⟩ := hX
          refine xc_V (n := 2) (g0 := 0) (As := [.int (nI 74), .int (nI k9)]) (rest := []) (st0 := _) hx hb hml hown hts (c_MO_digitOf l D ca b _ 74 k9 _ hX (by omega) (by omega) (hB9 74 (by omega)) (by rw [hs4]; exact mSum_l2 hH)) km_MO_digitOf tb_764 tb_766 tps_39 tb_7 (by decide +kernel) rfl rfl ⟨Nat.le_of_ble_eq_true rfl, Nat.le_of_ble_eq_true rfl⟩ hK hP (MR_0 hX) (by decide) rfl rfl rfl hl rfl (Nat.le_of_ble_eq_true rfl) d_MO_bound_102 ⟨Nat.zero_le _, Nat.zero_le _⟩ hS (fun _ h => h) (fun v C H locs hp hP _ _ hS => ?_)
          obtain ⟨rfl, hX⟩ := hp
          have hX : MV ca b C 0 dts tld fv lv (2 ^ tld - 1) 0 (mbU (2 ^ tld - 1) on1 ot2 tld) mwt mab mbe on1 ot2 lea mos (upto 6 (fun _ => 4095) yrs) bw3 := ⟨_, _, hX, hB9⟩
          exact xw_iret hx hb hr hlocks hP hS (Or.inl ⟨x9, y9, k9, hx9, hy9, hk9, hxe, hye, hke, hme, by rw [hs4, mSum_o hd6, hfv, hlv], hX.g⟩) d_MO_bound_105
        refine xi_ne (tgt := 88) hx hb d_MO_bound_79 (by decide) (by omega) (by omega) (fun h79 => ?_) (fun h79 => ?_)
        · skip
          refine lv_sipush (v := nI 4095) hx hb d_MO_bound_88 (by decide) ?_
          exact j91 4095 (if_neg h79).symm (by omega)
        · skip
          refine lv_iconst (v := nI 1) hx hb d_MO_bound_82 (by decide) ?_
          refine lv_iload_n hx hb d_MO_bound_83 rfl (lv_at hl 2 rfl) ?_
          refine lv_ishl hx hb d_MO_bound_84 ?_
          refine ti (nI (2 ^ y9)) (sh1 (by omega)) ?_
          refine lv_goto (tgt := 91) hx hb d_MO_bound_85 (by decide) ?_
          exact j91 (2 ^ y9) (if_pos h79).symm (by omega)
      refine xz_ne (tgt := 70) hx hb d_MO_bound_61 (by decide) (by omega) (fun h61 => ?_) (fun h61 => ?_)
      · skip
        refine lv_sipush (v := nI 4095) hx hb d_MO_bound_70 (by decide) ?_
        exact j73 4095 (if_neg h61).symm (by omega)
      · skip
        refine lv_iconst (v := nI 1) hx hb d_MO_bound_64 (by decide) ?_
        refine lv_iload_n hx hb d_MO_bound_65 rfl (lv_at hl 2 rfl) ?_
        refine lv_ishl hx hb d_MO_bound_66 ?_
        refine ti (nI (2 ^ y9)) (sh1 (by omega)) ?_
        refine lv_goto (tgt := 73) hx hb d_MO_bound_67 (by decide) ?_
        exact j73 (2 ^ y9) (if_pos h61).symm (by omega)
    · skip
      refine lv_iconst (v := nI 0) hx hb d_MO_bound_53 (by decide) ?_
      exact xw_iret hx hb hr hlocks hP hS (Or.inr ⟨_, by
          by_cases q : zz = true
          · refine Or.inr ⟨hzz.mp q, fun hq => ?_, gth_2 q (fun q2 => ?_)⟩
            · exact gz_z h50 (by rw [q, hz2.mpr hq]; rfl)
            · exact gz_z h50 (by rw [q, q2]; rfl)
          · exact Or.inl ⟨fun hq => q (hzz.mpr hq), gth_1 q⟩, rfl, hX.g⟩) d_MO_bound_54
  refine xz_eq (tgt := 41) hx hb d_MO_bound_18 (by decide) (tn31 _) (fun h18 => ?_) (fun h18 => ?_)
  · skip
    refine lv_iconst (v := nI 0) hx hb d_MO_bound_41 (by decide) ?_
    exact j42 false _ _ _ ⟨fun q => (by cases q), fun q => by have := hz1.mpr q.1; rw [bf h18] at this; cases this⟩ hP hS hX
  · skip
    refine lv_iload_n hx hb d_MO_bound_21 rfl (lv_at hl 2 rfl) ?_
    refine lv_bipush (v := nI 12) hx hb d_MO_bound_22 (by decide) ?_
    obtain ⟨bg9, wd9, hX, hB9⟩ := hX
    refine xc_S (n := 2) (As := [.int y, .int (nI 12)]) (rest := [.ref (b + 0)]) (st0 := _) hx hb hml hown hts (c_MO_below l D ca b _ y 12 hX (by omega)) km_MO_below tb_670 tb_671 tb_7 (by decide +kernel) rfl rfl ⟨Nat.le_of_ble_eq_true rfl, Nat.le_of_ble_eq_true rfl⟩ hK hP rfl hl rfl (Nat.le_of_ble_eq_true rfl) d_MO_bound_24 ⟨Nat.zero_le _, Nat.zero_le _⟩ hS (fun _ h => h) (fun v C H locs hp hP _ _ hS => ?_)
    obtain ⟨z6, rfl, hz6, hX⟩ := hp
    have hX : MV ca b C th dts tld fs9 ls9 ((2 ^ tld) - 1) lf9 mb9 mwt mab mbe on1 ot2 lea mos yrs bv := ⟨_, _, hX, hB9⟩
    refine xz_eq (tgt := 41) hx hb d_MO_bound_27 (by decide) (tn31 _) (fun h27 => ?_) (fun h27 => ?_)
    · skip
      refine lv_iconst (v := nI 0) hx hb d_MO_bound_41 (by decide) ?_
      exact j42 false _ _ _ ⟨fun q => (by cases q), fun q => by have := hz6.mpr q.2.1; rw [bf h27] at this; cases this⟩ hP hS hX
    · skip
      refine lv_iload_n hx hb d_MO_bound_30 rfl (lv_at hl 3 rfl) ?_
      obtain ⟨bg9, wd9, hX, hB9⟩ := hX
      refine xc_S (n := 1) (As := [.int k]) (rest := [.ref (b + 0)]) (st0 := _) hx hb hml hown hts (c_MO_isDigit l D ca b _ k hX ) km_MO_isDigit tb_705 tb_706 tb_7 (by decide +kernel) rfl rfl ⟨Nat.le_of_ble_eq_true rfl, Nat.le_of_ble_eq_true rfl⟩ hK hP rfl hl rfl (Nat.le_of_ble_eq_true rfl) d_MO_bound_31 ⟨Nat.zero_le _, Nat.zero_le _⟩ hS (fun _ h => h) (fun v C H locs hp hP _ _ hS => ?_)
      obtain ⟨z7, rfl, hz7, hX⟩ := hp
      have hX : MV ca b C th dts tld fs9 ls9 ((2 ^ tld) - 1) lf9 mb9 mwt mab mbe on1 ot2 lea mos yrs bv := ⟨_, _, hX, hB9⟩
      refine xz_eq (tgt := 41) hx hb d_MO_bound_34 (by decide) (tn31 _) (fun h34 => ?_) (fun h34 => ?_)
      · skip
        refine lv_iconst (v := nI 0) hx hb d_MO_bound_41 (by decide) ?_
        exact j42 false _ _ _ ⟨fun q => (by cases q), fun q => by have := hz7.mpr q.2.2; rw [bf h34] at this; cases this⟩ hP hS hX
      · skip
        refine lv_iconst (v := nI 1) hx hb d_MO_bound_37 (by decide) ?_
        refine lv_goto (tgt := 42) hx hb d_MO_bound_38 (by decide) ?_
        exact j42 true _ _ _ ⟨fun _ => ⟨hz1.mp (bt h18), hz6.mp (bt h27), hz7.mp (bt h34)⟩, fun _ => rfl⟩ hP hS hX

set_option maxHeartbeats 4000000 in
set_option maxRecDepth 100000 in
/-- the least or greatest year of a date that fits -/
theorem c_MO_span (l : Launch) (D : va_G) (ca : Nat → ClassId) (b : Nat) (C0 : Nat → va_E) {th : Nat} {dts : Nat} {tld : Nat} {fs9 : Nat} {ls9 : Nat} {cn9 : Nat} {lf9 : Nat} {mb9 : Nat} {mwt : Nat → Nat} {mab : Nat → Nat} {mbe : Nat → Nat} {on1 : Nat → Nat} {ot2 : Nat → Nat} {lea : Nat → Nat} {mos : Nat → Nat} {yrs : Nat → Nat} {bv : Nat → Nat} (d x : Int32) (hX : MV ca b C0 th dts tld fs9 ls9 cn9 lf9 mb9 mwt mab mbe on1 ot2 lea mos yrs bv) (hH : MH on1 ot2 lea mos mwt mab mbe tld dts) : Met l y_MO_span (k_MO_span :: gw) ({ frames := 5, cells := 0, slots := 0, locals := 112 }) (xPc D ca b 11 C0 [.ref (b + 0), .int d, .int x]) (xQ D b 11 (fun r C1 => (∃ d9 x9, d9 < dts ∧ x9 < 2 ∧ d = nI d9 ∧ x = nI x9 ∧ r = some (.int (eo (spR (fun y => mSum on1 ot2 lea mos mwt mab mbe tld dts (2 ^ tld - 1) 4095 4095 (va_up (fun _ => 4095) d9 (2 ^ y))) x9 12))) ∧ MG ca b C1 0 dts tld mwt mab mbe on1 ot2 lea mos) ∨ (¬ (isN d dts ∧ isN x 2) ∧ r = some (.int (nI 0)) ∧ MG ca b C1 1 dts tld mwt mab mbe on1 ot2 lea mos))) 0 0 (xr b 11) := by
  refine Met.ofW (cc := b_MO_span) (maxL := 6) (ret := (some FieldType.int)) (by decide) rfl ?_
  intro p e s m args below meth c s₁ B hml hv
  obtain ⟨hav, hP, hK⟩ := hv
  have hx := B.exec
  have hb := B.bytes
  have hr := B.returns
  have hts := atoms_spec (ws := k_MO_span :: gw) B.pre
  have hown : s.vm.findClass R_MO = some m.cls := findClass_of_methodNamed B.named
  have hlocks := B.notSynchronized
  have hA : ∀ k, k < 11 → xr b 11 (b + k) := xr_in
  have hS : va_S (xr b 11) s.heap s.heap [] := va_S.rf
  have hl := lv_entry ([.ref (b + 0), .int d, .int x]) (n := 6) (Nat.le_of_ble_eq_true rfl)
  rw [hav, lg_entry_eq]
  generalize (lg_sl ([.ref (b + 0), .int d, .int x]) ++ List.replicate (6 - (lg_sl ([.ref (b + 0), .int d, .int x])).length) Slot.unset).toArray = ls at hl ⊢
  have hl : lv_has ls 6 [(0, .ref (b + 0)), (1, .int d), (2, .int x)] := hl
  rw [← hav]
  have hM6 := hH.M.1
  have hd6 := hH.D.1
  have h2p : 0 < 2 ^ tld := Nat.pow_pos (by decide)
  refine lv_aload_n hx hb d_MO_span_0 rfl (lv_at hl 0 rfl) ?_
  refine lv_aload_n hx hb d_MO_span_1 rfl (lv_at hl 0 rfl) ?_
  refine lv_iload_n hx hb d_MO_span_2 rfl (lv_at hl 1 rfl) ?_
  obtain ⟨bg9, wd9, hX, hB9⟩ := hX
  refine xc_V (n := 1) (g0 := 0) (As := [.int d]) (rest := [.ref (b + 0)]) (st0 := _) hx hb hml hown hts (c_MO_isDate l D ca b _ d hX (by omega)) km_MO_isDate tb_666 tb_668 tps_20 tb_7 (by decide +kernel) rfl rfl ⟨Nat.le_of_ble_eq_true rfl, Nat.le_of_ble_eq_true rfl⟩ hK hP (MR_0 hX) (by decide) rfl rfl rfl hl rfl (Nat.le_of_ble_eq_true rfl) d_MO_span_3 ⟨Nat.zero_le _, Nat.zero_le _⟩ hS (fun _ h => h) (fun v C H locs hp hP _ _ hS => ?_)
  obtain ⟨z1, rfl, hz1, hX⟩ := hp
  have hX : MV ca b C th dts tld fs9 ls9 cn9 lf9 mb9 mwt mab mbe on1 ot2 lea mos yrs bv := ⟨_, _, hX, hB9⟩
  have j22 : ∀ (zz : Bool) (C : Nat → va_E) (H : Heap) (locs : List Loc), (zz = true ↔ isN d dts ∧ isN x 2) → va_P D classes (wl b 11 C) H → va_S (xr b 11) s.heap H locs → MV ca b C th dts tld fs9 ls9 cn9 lf9 mb9 mwt mab mbe on1 ot2 lea mos yrs bv → W p l e (headSpec (k_MO_span :: gw) ({ frames := 5, cells := 0, slots := 0, locals := 112 })).room s m args below meth c H locs 0 0 (MQ below (xQ D b 11 (fun r C1 => (∃ d9 x9, d9 < dts ∧ x9 < 2 ∧ d = nI d9 ∧ x = nI x9 ∧ r = some (.int (eo (spR (fun y => mSum on1 ot2 lea mos mwt mab mbe tld dts (2 ^ tld - 1) 4095 4095 (va_up (fun _ => 4095) d9 (2 ^ y))) x9 12))) ∧ MG ca b C1 0 dts tld mwt mab mbe on1 ot2 lea mos) ∨ (¬ (isN d dts ∧ isN x 2) ∧ r = some (.int (nI 0)) ∧ MG ca b C1 1 dts tld mwt mab mbe on1 ot2 lea mos))) args s 0 0 (xr b 11)) (F0 m 22 ls [.int (nI zz.toNat), .ref (b + 0)]) := by
    intro zz C H locs hzz hP hS hX
    refine lv_iconst (v := nI 1) hx hb d_MO_span_22 (by decide) ?_
    refine lv_iconst (v := nI 1) hx hb d_MO_span_23 (by decide) ?_
    obtain ⟨bg9, wd9, hX, hB9⟩ := hX
    refine xc_V (n := 3) (g0 := 0) (As := [.int (nI zz.toNat), .int (nI 1), .int (nI 1)]) (rest := []) (st0 := _) hx hb hml hown hts (c_MO_goes l D ca b _ zz true true hX ) km_MO_goes tb_658 tb_660 tps_19 tb_7 (by decide +kernel) rfl rfl ⟨Nat.le_of_ble_eq_true rfl, Nat.le_of_ble_eq_true rfl⟩ hK hP (MR_0 hX) (by decide) rfl rfl rfl hl rfl (Nat.le_of_ble_eq_true rfl) d_MO_span_24 ⟨Nat.zero_le _, Nat.zero_le _⟩ hS (fun _ h => h) (fun v C H locs hp hP _ _ hS => ?_)
    obtain ⟨rfl, hX⟩ := hp
    have hX : MV ca b C (gth zz true true) dts tld fs9 ls9 cn9 lf9 mb9 mwt mab mbe on1 ot2 lea mos yrs bv := ⟨_, _, hX, hB9⟩
    refine xz_ne (tgt := 32) hx hb d_MO_span_27 (by decide) (gz_b _) (fun h27 => ?_) (fun h27 => ?_)
    · skip
      obtain ⟨g1, g2, -⟩ := gth_0 (gz_n h27)
      obtain ⟨⟨d9, hd9, hde⟩, ⟨x9, hx9, hxe⟩⟩ := hzz.mp g1
      have hg0 := gz_n h27
      rw [hg0] at hX
      rw [hde, hxe] at hl
      refine lv_iconst (v := (-1)) hx hb d_MO_span_32 (by decide) ?_
      refine lv_istore_n (lv' := [(3, .int ((-1))), (0, .ref (b + 0)), (1, .int (nI d9)), (2, .int (nI x9))]) hx hb d_MO_span_33 rfl hl (by decide) rfl (fun ls hl => ?_)
      refine lv_iconst (v := nI 0) hx hb d_MO_span_34 (by decide) ?_
      refine lv_istore (lv' := [(4, .int (nI 0)), (3, .int ((-1))), (0, .ref (b + 0)), (1, .int (nI d9)), (2, .int (nI x9))]) hx hb d_MO_span_35 hl (by decide) rfl (fun ls hl => ?_)
      have loop37 : ∀ (r : Nat) (n : Nat) (fo : Option Nat) (fs0 : Nat) (ls0 : Nat) (cn0 : Nat) (lf0 : Nat) (mb0 : Nat) (yr0 : Nat → Nat) (bv0 : Nat → Nat) (C : Nat → va_E) (H : Heap) (locs : List Loc) (ls : Array Slot), 12 < n + r → n ≤ 12 → fo = spR (fun y => mSum on1 ot2 lea mos mwt mab mbe tld dts (2 ^ tld - 1) 4095 4095 (va_up (fun _ => 4095) d9 (2 ^ y))) x9 n → (∀ z, fo = some z → z < 12) → va_P D classes (wl b 11 C) H → va_S (xr b 11) s.heap H locs → MV ca b C 0 dts tld fs0 ls0 cn0 lf0 mb0 mwt mab mbe on1 ot2 lea mos yr0 bv0 → lv_has ls 6 [(0, .ref (b + 0)), (1, .int (nI d9)), (2, .int (nI x9)), (3, .int (eo fo)), (4, .int (nI n))] → W p l e (headSpec (k_MO_span :: gw) ({ frames := 5, cells := 0, slots := 0, locals := 112 })).room s m args below meth c H locs 0 0 (MQ below (xQ D b 11 (fun r C1 => (∃ d9 x9, d9 < dts ∧ x9 < 2 ∧ d = nI d9 ∧ x = nI x9 ∧ r = some (.int (eo (spR (fun y => mSum on1 ot2 lea mos mwt mab mbe tld dts (2 ^ tld - 1) 4095 4095 (va_up (fun _ => 4095) d9 (2 ^ y))) x9 12))) ∧ MG ca b C1 0 dts tld mwt mab mbe on1 ot2 lea mos) ∨ (¬ (isN d dts ∧ isN x 2) ∧ r = some (.int (nI 0)) ∧ MG ca b C1 1 dts tld mwt mab mbe on1 ot2 lea mos))) args s 0 0 (xr b 11)) (F0 m 37 ls []) := by
        intro r
        induction r with
        | zero => intro n fo fs0 ls0 cn0 lf0 mb0 yr0 bv0 C H locs ls hms hn hfo hfl; exact absurd hms (by omega)
        | succ r ih37 =>
          intro n fo fs0 ls0 cn0 lf0 mb0 yr0 bv0 C H locs ls hms hn hfo hfl hP hS hX hl
          refine lv_iload hx hb d_MO_span_37 (lv_at hl 4 rfl) ?_
          refine lv_bipush (v := nI 12) hx hb d_MO_span_39 (by decide) ?_
          refine xi_ge (tgt := 105) hx hb d_MO_span_41 (by decide) (by omega) (by omega) (fun h41 => ?_) (fun h41 => ?_)
          · skip
            refine lv_iload_n hx hb d_MO_span_105 rfl (lv_at hl 3 rfl) ?_
            exact xw_iret hx hb hr hlocks hP hS (Or.inl ⟨d9, x9, hd9, hx9, hde, hxe, by rw [hfo, show n = 12 by omega], hX.g⟩) d_MO_span_106
          · skip
            refine lv_iload_n hx hb d_MO_span_44 rfl (lv_at hl 3 rfl) ?_
            refine lv_iconst (v := (-1)) hx hb d_MO_span_45 (by decide) ?_
            refine xo_ne (tgt := 105) hx hb d_MO_span_46 (by decide) (fun z hz => by have := hfl z hz; omega) (fun d46 h46 => ?_) (fun h46 => ?_)
            · skip
              refine lv_iload_n hx hb d_MO_span_105 rfl (lv_at hl 3 rfl) ?_
              refine ti (nI d46) (by rw [h46]; rfl) ?_
              exact xw_iret hx hb hr hlocks hP hS (Or.inl ⟨d9, x9, hd9, hx9, hde, hxe, by rw [spR_st (hfo.symm.trans h46) hn]; rfl, hX.g⟩) d_MO_span_106
            · skip
              refine lv_iload_n hx hb d_MO_span_49 rfl (lv_at hl 2 rfl) ?_
              have j63 : ∀ (yv : Nat), yv = (if x9 = 0 then n else 11 - n) → yv < 12 → W p l e (headSpec (k_MO_span :: gw) ({ frames := 5, cells := 0, slots := 0, locals := 112 })).room s m args below meth c H locs 0 0 (MQ below (xQ D b 11 (fun r C1 => (∃ d9 x9, d9 < dts ∧ x9 < 2 ∧ d = nI d9 ∧ x = nI x9 ∧ r = some (.int (eo (spR (fun y => mSum on1 ot2 lea mos mwt mab mbe tld dts (2 ^ tld - 1) 4095 4095 (va_up (fun _ => 4095) d9 (2 ^ y))) x9 12))) ∧ MG ca b C1 0 dts tld mwt mab mbe on1 ot2 lea mos) ∨ (¬ (isN d dts ∧ isN x 2) ∧ r = some (.int (nI 0)) ∧ MG ca b C1 1 dts tld mwt mab mbe on1 ot2 lea mos))) args s 0 0 (xr b 11)) (F0 m 63 ls [.int (nI yv)]) := by
                intro yv hyv hyv2
                refine lv_istore (lv' := [(5, .int (nI yv)), (0, .ref (b + 0)), (1, .int (nI d9)), (2, .int (nI x9)), (3, .int (eo fo)), (4, .int (nI n))]) hx hb d_MO_span_63 hl (by decide) rfl (fun ls hl => ?_)
                refine lv_aload_n hx hb d_MO_span_65 rfl (lv_at hl 1 rfl) ?_
                obtain ⟨bg9, wd9, hX, hB9⟩ := hX
                refine xc_V (n := 0) (g0 := 0) (As := []) (rest := []) (st0 := _) hx hb hml hown hts (c_MO_open l D ca b _  hX (by omega)) km_MO_open tb_708 tb_710 tps_25 tb_7 (by decide +kernel) rfl rfl ⟨Nat.le_of_ble_eq_true rfl, Nat.le_of_ble_eq_true rfl⟩ hK hP (MR_0 hX) (by decide) rfl rfl rfl hl rfl (Nat.le_of_ble_eq_true rfl) d_MO_span_66 ⟨Nat.zero_le _, Nat.zero_le _⟩ hS (fun _ h => h) (fun v C H locs hp hP _ _ hS => ?_)
                obtain ⟨rfl, hX⟩ := hp
                have hX : MV ca b C 0 dts tld 4095 4095 (2 ^ tld - 1) lf0 mb0 mwt mab mbe on1 ot2 lea mos (upto 6 (fun _ => 4095) yr0) bv0 := ⟨_, _, hX, hB9⟩
                refine lv_aload_n hx hb d_MO_span_69 rfl (lv_at hl 1 rfl) ?_
                refine xw_get (v := .ref (b + 10)) hx hb hts (fun w h => mw (uw_MO w h)) hown hK hP (MV_0 hX) (by decide) rfl 12 (by decide) (hts _ (mw tb_607)) (fun _ h => h) rfl d_MO_span_70 ?_
                refine lv_iload_n hx hb d_MO_span_73 rfl (lv_at hl 2 rfl) ?_
                refine lv_iconst (v := nI 1) hx hb d_MO_span_74 (by decide) ?_
                refine lv_iload hx hb d_MO_span_75 (lv_at hl 0 rfl) ?_
                refine lv_ishl hx hb d_MO_span_77 ?_
                refine ti (nI (2 ^ yv)) (sh1 (by omega)) ?_
                refine xw_iast hx hb hK hP hA hS 0 (MV_10 hX) (by decide) rfl (by omega) (by decide) d_MO_span_78 (fun H locs hP hS => ?_)
                have hX := MV_set_yrs (j := d9) (x := 2 ^ yv) hX
                generalize va_up _ 10 _ = C at hP hX
                refine lv_aload_n hx hb d_MO_span_79 rfl (lv_at hl 1 rfl) ?_
                refine xc_V (n := 0) (g0 := 0) (As := []) (rest := []) (st0 := _) hx hb hml hown hts (c_MO_sum l D ca b _ (JS on1 ot2 lea mos mwt mab mbe tld dts (2 ^ tld - 1) 4095 4095 (va_up (upto 6 (fun _ => 4095) yr0) d9 (2 ^ yv)) bv0) hX hH.M hH.D (yr_up yr_lt (p12 hyv2)) (cnb hM6) (by decide) (by decide) (JS.z hH (2 ^ tld - 1) 4095 4095 (va_up (upto 6 (fun _ => 4095) yr0) d9 (2 ^ yv)) bv0) (JS.s hH (2 ^ tld - 1) 4095 4095 (va_up (upto 6 (fun _ => 4095) yr0) d9 (2 ^ yv)) bv0) (JS.l hH (2 ^ tld - 1) 4095 4095 (va_up (upto 6 (fun _ => 4095) yr0) d9 (2 ^ yv)) bv0) (JS.r hH (2 ^ tld - 1) 4095 4095 (va_up (upto 6 (fun _ => 4095) yr0) d9 (2 ^ yv)) bv0) (JS.p (2 ^ tld - 1) 4095 4095 (va_up (upto 6 (fun _ => 4095) yr0) d9 (2 ^ yv)) bv0)) km_MO_sum tb_712 tb_714 tps_26 tb_7 (by decide +kernel) rfl rfl ⟨Nat.le_of_ble_eq_true rfl, Nat.le_of_ble_eq_true rfl⟩ hK hP (MV_0 hX) (by decide) rfl rfl rfl hl rfl (Nat.le_of_ble_eq_true rfl) d_MO_span_80 ⟨Nat.zero_le _, Nat.zero_le _⟩ hS (fun _ h => h) (fun v C H locs hp hP _ _ hS => ?_)
                obtain ⟨rfl, al, bv1, bw2, hJ, hX, hs3, hk4⟩ := hp
                have hs3 : bw2 74 = mSum on1 ot2 lea mos mwt mab mbe tld dts (2 ^ tld - 1) 4095 4095 (va_up (upto 6 (fun _ => 4095) yr0) d9 (2 ^ yv)) := hs3.trans (JS.d hH hJ)
                refine lv_aload_n hx hb d_MO_span_83 rfl (lv_at hl 1 rfl) ?_
                refine lv_bipush (v := nI 74) hx hb d_MO_span_84 (by decide) ?_
                obtain ⟨bg9, wd9, hX, hB9⟩ := hX
                refine xc_V (n := 1) (g0 := 0) (As := [.int (nI 74)]) (rest := []) (st0 := _) hx hb hml hown hts (c_MO_isNothing l D ca b _ 74 hX (by omega) (hB9 74 (by omega)).1) km_MO_isNothing tb_788 tb_790 tps_41 tb_7 (by decide +kernel) rfl rfl ⟨Nat.le_of_ble_eq_true rfl, Nat.le_of_ble_eq_true rfl⟩ hK hP (MR_0 hX) (by decide) rfl rfl rfl hl rfl (Nat.le_of_ble_eq_true rfl) d_MO_span_86 ⟨Nat.zero_le _, Nat.zero_le _⟩ hS (fun _ h => h) (fun v C H locs hp hP _ _ hS => ?_)
                obtain ⟨z5, rfl, hz5, hX⟩ := hp
                have hz5 := hz5.trans (bRep_z (hB9 74 (by omega)) (by rw [hs3]; exact mSum_l2 hH))
                rw [hs3] at hz5
                have hX : MV ca b C 0 dts tld 4095 4095 (2 ^ tld - 1) 0 (mbU (2 ^ tld - 1) on1 ot2 tld) mwt mab mbe on1 ot2 lea mos (va_up (upto 6 (fun _ => 4095) yr0) d9 (2 ^ yv)) bw2 := ⟨_, _, hX, hB9⟩
                refine xz_eq (tgt := 96) hx hb d_MO_span_89 (by decide) (tn31 _) (fun h89 => ?_) (fun h89 => ?_)
                · skip
                  rw [mSum_oy hd6, hyv] at hz5
                  have hfn : spR (fun y => mSum on1 ot2 lea mos mwt mab mbe tld dts (2 ^ tld - 1) 4095 4095 (va_up (fun _ => 4095) d9 (2 ^ y))) x9 n = none := hfo.symm.trans h46
                  refine lv_iload hx hb d_MO_span_96 (lv_at hl 0 rfl) ?_
                  refine lv_istore_n (lv' := [(3, .int (nI yv)), (5, .int (nI yv)), (0, .ref (b + 0)), (1, .int (nI d9)), (2, .int (nI x9)), (4, .int (nI n))]) hx hb d_MO_span_98 rfl hl (by decide) rfl (fun ls hl => ?_)
                  refine lv_iinc (v := nI (n + 1)) (lv' := [(4, .int (nI (n + 1))), (3, .int (nI yv)), (5, .int (nI yv)), (0, .ref (b + 0)), (1, .int (nI d9)), (2, .int (nI x9))]) hx hb d_MO_span_99 hl (k := 5) rfl (show nI n + Int32.ofInt 1 = nI (n + 1) from nI_add _ _) (by decide) rfl (fun ls hl => ?_)
                  refine lv_goto (tgt := 37) hx hb d_MO_span_102 (by decide) ?_
                  exact ih37 (n + 1) (some yv) 4095 4095 (2 ^ tld - 1) 0 (mbU (2 ^ tld - 1) on1 ot2 tld) (va_up (upto 6 (fun _ => 4095) yr0) d9 (2 ^ yv)) bw2 _ _ _ _ (by omega) (by omega) (by rw [spR_n hfn, if_neg (fun q => by have := hz5.mpr q; rw [bf h89] at this; cases this), hyv]) (fun z hz => by cases hz; exact hyv2) hP hS hX (lv_sub hl [3, 4, 5, 1, 0] rfl)
                · skip
                  rw [mSum_oy hd6, hyv] at hz5
                  have hfn : spR (fun y => mSum on1 ot2 lea mos mwt mab mbe tld dts (2 ^ tld - 1) 4095 4095 (va_up (fun _ => 4095) d9 (2 ^ y))) x9 n = none := hfo.symm.trans h46
                  refine lv_iconst (v := (-1)) hx hb d_MO_span_92 (by decide) ?_
                  refine lv_goto (tgt := 98) hx hb d_MO_span_93 (by decide) ?_
                  refine lv_istore_n (lv' := [(3, .int ((-1))), (5, .int (nI yv)), (0, .ref (b + 0)), (1, .int (nI d9)), (2, .int (nI x9)), (4, .int (nI n))]) hx hb d_MO_span_98 rfl hl (by decide) rfl (fun ls hl => ?_)
                  refine lv_iinc (v := nI (n + 1)) (lv' := [(4, .int (nI (n + 1))), (3, .int ((-1))), (5, .int (nI yv)), (0, .ref (b + 0)), (1, .int (nI d9)), (2, .int (nI x9))]) hx hb d_MO_span_99 hl (k := 5) rfl (show nI n + Int32.ofInt 1 = nI (n + 1) from nI_add _ _) (by decide) rfl (fun ls hl => ?_)
                  refine lv_goto (tgt := 37) hx hb d_MO_span_102 (by decide) ?_
                  exact ih37 (n + 1) none 4095 4095 (2 ^ tld - 1) 0 (mbU (2 ^ tld - 1) on1 ot2 tld) (va_up (upto 6 (fun _ => 4095) yr0) d9 (2 ^ yv)) bw2 _ _ _ _ (by omega) (by omega) (by rw [spR_n hfn, if_pos (hz5.mp (bt h89))]) (fun z hz => by cases hz) hP hS hX (lv_sub hl [3, 4, 5, 1, 0] rfl)
              refine xz_ne (tgt := 58) hx hb d_MO_span_50 (by decide) (by omega) (fun h50 => ?_) (fun h50 => ?_)
              · skip
                refine lv_bipush (v := nI 11) hx hb d_MO_span_58 (by decide) ?_
                refine lv_iload hx hb d_MO_span_60 (lv_at hl 4 rfl) ?_
                refine lv_isub hx hb d_MO_span_62 ?_
                refine ti (nI (11 - n)) (pk_sub (by omega)) ?_
                exact j63 (11 - n) (if_neg h50).symm (by omega)
              · skip
                refine lv_iload hx hb d_MO_span_53 (lv_at hl 4 rfl) ?_
                refine lv_goto (tgt := 63) hx hb d_MO_span_55 (by decide) ?_
                exact j63 n (if_pos h50).symm (by omega)
      exact loop37 13 0 none fs9 ls9 cn9 lf9 mb9 yrs bv _ _ _ _ (by omega) (by omega) rfl (fun z hz => by cases hz) hP hS hX (lv_sub hl [2, 3, 4, 1, 0] rfl)
    · skip
      have hz0 : ¬ zz = true := fun q => gz_z h27 (by rw [q]; rfl)
      rw [gth_1 hz0] at hX
      refine lv_iconst (v := nI 0) hx hb d_MO_span_30 (by decide) ?_
      exact xw_iret hx hb hr hlocks hP hS (Or.inr ⟨fun q => hz0 (hzz.mpr q), rfl, hX.g⟩) d_MO_span_31
  refine xz_eq (tgt := 21) hx hb d_MO_span_6 (by decide) (tn31 _) (fun h6 => ?_) (fun h6 => ?_)
  · skip
    refine lv_iconst (v := nI 0) hx hb d_MO_span_21 (by decide) ?_
    exact j22 false _ _ _ ⟨fun q => (by cases q), fun q => by have := hz1.mpr q.1; rw [bf h6] at this; cases this⟩ hP hS hX
  · skip
    refine lv_iload_n hx hb d_MO_span_9 rfl (lv_at hl 2 rfl) ?_
    refine lv_iconst (v := nI 2) hx hb d_MO_span_10 (by decide) ?_
    obtain ⟨bg9, wd9, hX, hB9⟩ := hX
    refine xc_S (n := 2) (As := [.int x, .int (nI 2)]) (rest := [.ref (b + 0)]) (st0 := _) hx hb hml hown hts (c_MO_below l D ca b _ x 2 hX (by omega)) km_MO_below tb_670 tb_671 tb_7 (by decide +kernel) rfl rfl ⟨Nat.le_of_ble_eq_true rfl, Nat.le_of_ble_eq_true rfl⟩ hK hP rfl hl rfl (Nat.le_of_ble_eq_true rfl) d_MO_span_11 ⟨Nat.zero_le _, Nat.zero_le _⟩ hS (fun _ h => h) (fun v C H locs hp hP _ _ hS => ?_)
    obtain ⟨z6, rfl, hz6, hX⟩ := hp
    have hX : MV ca b C th dts tld fs9 ls9 cn9 lf9 mb9 mwt mab mbe on1 ot2 lea mos yrs bv := ⟨_, _, hX, hB9⟩
    refine xz_eq (tgt := 21) hx hb d_MO_span_14 (by decide) (tn31 _) (fun h14 => ?_) (fun h14 => ?_)
    · skip
      refine lv_iconst (v := nI 0) hx hb d_MO_span_21 (by decide) ?_
      exact j22 false _ _ _ ⟨fun q => (by cases q), fun q => by have := hz6.mpr q.2; rw [bf h14] at this; cases this⟩ hP hS hX
    · skip
      refine lv_iconst (v := nI 1) hx hb d_MO_span_17 (by decide) ?_
      refine lv_goto (tgt := 22) hx hb d_MO_span_18 (by decide) ?_
      exact j22 true _ _ _ ⟨fun _ => ⟨hz1.mp (bt h6), hz6.mp (bt h14)⟩, fun _ => rfl⟩ hP hS hX

set_option maxHeartbeats 4000000 in
set_option maxRecDepth 100000 in
/-- the k-th of a least set that does not fit -/
theorem c_MO_fitless (l : Launch) (D : va_G) (ca : Nat → ClassId) (b : Nat) (C0 : Nat → va_E) {th : Nat} {dts : Nat} {tld : Nat} {fs9 : Nat} {ls9 : Nat} {cn9 : Nat} {lf9 : Nat} {mb9 : Nat} {mwt : Nat → Nat} {mab : Nat → Nat} {mbe : Nat → Nat} {on1 : Nat → Nat} {ot2 : Nat → Nat} {lea : Nat → Nat} {mos : Nat → Nat} {yrs : Nat → Nat} {bv : Nat → Nat} (k : Int32) (hX : MV ca b C0 th dts tld fs9 ls9 cn9 lf9 mb9 mwt mab mbe on1 ot2 lea mos yrs bv) (hH : MH on1 ot2 lea mos mwt mab mbe tld dts) : Met l y_MO_fitless (k_MO_fitless :: gw) ({ frames := 5, cells := 0, slots := 0, locals := 112 }) (xPc D ca b 11 C0 [.ref (b + 0), .int k]) (xQ D b 11 (fun r C1 => (∃ k9, k9 < 2 ^ 31 ∧ k = nI k9 ∧ ((mSum on1 ot2 lea mos mwt mab mbe tld dts (2 ^ tld - 1) 4095 4095 (fun _ => 4095) ≠ 0 ∧ r = some (.int (-1))) ∨ (mSum on1 ot2 lea mos mwt mab mbe tld dts (2 ^ tld - 1) 4095 4095 (fun _ => 4095) = 0 ∧ ∃ z, r = some (.int (eo z)) ∧ kthP (fun j => (ftR (fun c => mSum on1 ot2 lea mos mwt mab mbe tld dts c 4095 4095 (fun _ => 4095)) tld tld).testBit j) tld k9 z)) ∧ MG ca b C1 0 dts tld mwt mab mbe on1 ot2 lea mos) ∨ (k < 0 ∧ r = some (.int (nI 0)) ∧ MG ca b C1 1 dts tld mwt mab mbe on1 ot2 lea mos))) 0 0 (xr b 11) := by
  refine Met.ofW (cc := b_MO_fitless) (maxL := 5) (ret := (some FieldType.int)) (by decide) rfl ?_
  intro p e s m args below meth c s₁ B hml hv
  obtain ⟨hav, hP, hK⟩ := hv
  have hx := B.exec
  have hb := B.bytes
  have hr := B.returns
  have hts := atoms_spec (ws := k_MO_fitless :: gw) B.pre
  have hown : s.vm.findClass R_MO = some m.cls := findClass_of_methodNamed B.named
  have hlocks := B.notSynchronized
  have hA : ∀ k, k < 11 → xr b 11 (b + k) := xr_in
  have hS : va_S (xr b 11) s.heap s.heap [] := va_S.rf
  have hl := lv_entry ([.ref (b + 0), .int k]) (n := 5) (Nat.le_of_ble_eq_true rfl)
  rw [hav, lg_entry_eq]
  generalize (lg_sl ([.ref (b + 0), .int k]) ++ List.replicate (5 - (lg_sl ([.ref (b + 0), .int k])).length) Slot.unset).toArray = ls at hl ⊢
  have hl : lv_has ls 5 [(0, .ref (b + 0)), (1, .int k)] := hl
  rw [← hav]
  have hM6 := hH.M.1
  have hd6 := hH.D.1
  have h2p : 0 < 2 ^ tld := Nat.pow_pos (by decide)
  refine lv_aload_n hx hb d_MO_fitless_0 rfl (lv_at hl 0 rfl) ?_
  refine lv_iload_n hx hb d_MO_fitless_1 rfl (lv_at hl 1 rfl) ?_
  have j10 : ∀ (zz : Bool), (zz = true ↔ ∃ k9, k9 < 2 ^ 31 ∧ k = nI k9) → W p l e (headSpec (k_MO_fitless :: gw) ({ frames := 5, cells := 0, slots := 0, locals := 112 })).room s m args below meth c s.heap [] 0 0 (MQ below (xQ D b 11 (fun r C1 => (∃ k9, k9 < 2 ^ 31 ∧ k = nI k9 ∧ ((mSum on1 ot2 lea mos mwt mab mbe tld dts (2 ^ tld - 1) 4095 4095 (fun _ => 4095) ≠ 0 ∧ r = some (.int (-1))) ∨ (mSum on1 ot2 lea mos mwt mab mbe tld dts (2 ^ tld - 1) 4095 4095 (fun _ => 4095) = 0 ∧ ∃ z, r = some (.int (eo z)) ∧ kthP (fun j => (ftR (fun c => mSum on1 ot2 lea mos mwt mab mbe tld dts c 4095 4095 (fun _ => 4095)) tld tld).testBit j) tld k9 z)) ∧ MG ca b C1 0 dts tld mwt mab mbe on1 ot2 lea mos) ∨ (k < 0 ∧ r = some (.int (nI 0)) ∧ MG ca b C1 1 dts tld mwt mab mbe on1 ot2 lea mos))) args s 0 0 (xr b 11)) (F0 m 10 ls [.int (nI zz.toNat), .ref (b + 0)]) := by
    intro zz hzz
    refine lv_iconst (v := nI 1) hx hb d_MO_fitless_10 (by decide) ?_
    refine lv_iconst (v := nI 1) hx hb d_MO_fitless_11 (by decide) ?_
    obtain ⟨bg9, wd9, hX, hB9⟩ := hX
    refine xc_V (n := 3) (g0 := 0) (As := [.int (nI zz.toNat), .int (nI 1), .int (nI 1)]) (rest := []) (st0 := _) hx hb hml hown hts (c_MO_goes l D ca b _ zz true true hX ) km_MO_goes tb_658 tb_660 tps_19 tb_7 (by decide +kernel) rfl rfl ⟨Nat.le_of_ble_eq_true rfl, Nat.le_of_ble_eq_true rfl⟩ hK hP (MR_0 hX) (by decide) rfl rfl rfl hl rfl (Nat.le_of_ble_eq_true rfl) d_MO_fitless_12 ⟨Nat.zero_le _, Nat.zero_le _⟩ hS (fun _ h => h) (fun v C H locs hp hP _ _ hS => ?_)
    obtain ⟨rfl, hX⟩ := hp
    have hX : MV ca b C (gth zz true true) dts tld fs9 ls9 cn9 lf9 mb9 mwt mab mbe on1 ot2 lea mos yrs bv := ⟨_, _, hX, hB9⟩
    refine xz_ne (tgt := 20) hx hb d_MO_fitless_15 (by decide) (gz_b _) (fun h15 => ?_) (fun h15 => ?_)
    · skip
      obtain ⟨g1, g2, -⟩ := gth_0 (gz_n h15)
      obtain ⟨k9, hk9, hke⟩ := hzz.mp g1
      have hg0 := gz_n h15
      rw [hg0] at hX
      rw [hke] at hl
      refine lv_aload_n hx hb d_MO_fitless_20 rfl (lv_at hl 0 rfl) ?_
      obtain ⟨bg9, wd9, hX, hB9⟩ := hX
      refine xc_V (n := 0) (g0 := 0) (As := []) (rest := []) (st0 := _) hx hb hml hown hts (c_MO_open l D ca b _  hX (by omega)) km_MO_open tb_708 tb_710 tps_25 tb_7 (by decide +kernel) rfl rfl ⟨Nat.le_of_ble_eq_true rfl, Nat.le_of_ble_eq_true rfl⟩ hK hP (MR_0 hX) (by decide) rfl rfl rfl hl rfl (Nat.le_of_ble_eq_true rfl) d_MO_fitless_21 ⟨Nat.zero_le _, Nat.zero_le _⟩ hS (fun _ h => h) (fun v C H locs hp hP _ _ hS => ?_)
      obtain ⟨rfl, hX⟩ := hp
      have hX : MV ca b C 0 dts tld 4095 4095 (2 ^ tld - 1) lf9 mb9 mwt mab mbe on1 ot2 lea mos (upto 6 (fun _ => 4095) yrs) bv := ⟨_, _, hX, hB9⟩
      refine lv_aload_n hx hb d_MO_fitless_24 rfl (lv_at hl 0 rfl) ?_
      refine xc_V (n := 0) (g0 := 0) (As := []) (rest := []) (st0 := _) hx hb hml hown hts (c_MO_sum l D ca b _ (JS on1 ot2 lea mos mwt mab mbe tld dts (2 ^ tld - 1) 4095 4095 (upto 6 (fun _ => 4095) yrs) bv) hX hH.M hH.D yr_lt (cnb hM6) (by decide) (by decide) (JS.z hH (2 ^ tld - 1) 4095 4095 (upto 6 (fun _ => 4095) yrs) bv) (JS.s hH (2 ^ tld - 1) 4095 4095 (upto 6 (fun _ => 4095) yrs) bv) (JS.l hH (2 ^ tld - 1) 4095 4095 (upto 6 (fun _ => 4095) yrs) bv) (JS.r hH (2 ^ tld - 1) 4095 4095 (upto 6 (fun _ => 4095) yrs) bv) (JS.p (2 ^ tld - 1) 4095 4095 (upto 6 (fun _ => 4095) yrs) bv)) km_MO_sum tb_712 tb_714 tps_26 tb_7 (by decide +kernel) rfl rfl ⟨Nat.le_of_ble_eq_true rfl, Nat.le_of_ble_eq_true rfl⟩ hK hP (MV_0 hX) (by decide) rfl rfl rfl hl rfl (Nat.le_of_ble_eq_true rfl) d_MO_fitless_25 ⟨Nat.zero_le _, Nat.zero_le _⟩ hS (fun _ h => h) (fun v C H locs hp hP _ _ hS => ?_)
      obtain ⟨rfl, al, bv1, bw1, hJ, hX, hs2, hk3⟩ := hp
      have hs2 : bw1 74 = mSum on1 ot2 lea mos mwt mab mbe tld dts (2 ^ tld - 1) 4095 4095 (upto 6 (fun _ => 4095) yrs) := hs2.trans (JS.d hH hJ)
      refine lv_aload_n hx hb d_MO_fitless_28 rfl (lv_at hl 0 rfl) ?_
      refine lv_bipush (v := nI 74) hx hb d_MO_fitless_29 (by decide) ?_
      obtain ⟨bg9, wd9, hX, hB9⟩ := hX
      refine xc_V (n := 1) (g0 := 0) (As := [.int (nI 74)]) (rest := []) (st0 := _) hx hb hml hown hts (c_MO_isNothing l D ca b _ 74 hX (by omega) (hB9 74 (by omega)).1) km_MO_isNothing tb_788 tb_790 tps_41 tb_7 (by decide +kernel) rfl rfl ⟨Nat.le_of_ble_eq_true rfl, Nat.le_of_ble_eq_true rfl⟩ hK hP (MR_0 hX) (by decide) rfl rfl rfl hl rfl (Nat.le_of_ble_eq_true rfl) d_MO_fitless_31 ⟨Nat.zero_le _, Nat.zero_le _⟩ hS (fun _ h => h) (fun v C H locs hp hP _ _ hS => ?_)
      obtain ⟨z4, rfl, hz4, hX⟩ := hp
      have hz4 := hz4.trans (bRep_z (hB9 74 (by omega)) (by rw [hs2]; exact mSum_l2 hH))
      rw [hs2] at hz4
      have hX : MV ca b C 0 dts tld 4095 4095 (2 ^ tld - 1) 0 (mbU (2 ^ tld - 1) on1 ot2 tld) mwt mab mbe on1 ot2 lea mos (upto 6 (fun _ => 4095) yrs) bw1 := ⟨_, _, hX, hB9⟩
      refine xz_ne (tgt := 39) hx hb d_MO_fitless_34 (by decide) (tn31 _) (fun h34 => ?_) (fun h34 => ?_)
      · skip
        rw [mSum_o hd6] at hz4
        have hT0 := hz4.mp (bt h34)
        refine lv_aload_n hx hb d_MO_fitless_39 rfl (lv_at hl 0 rfl) ?_
        refine xw_get (v := .int (nI (2 ^ tld - 1))) hx hb hts (fun w h => mw (uw_MO w h)) hown hK hP (MV_0 hX) (by decide) rfl 15 (by decide) (hts _ (mw tb_610)) (fun _ h => h) rfl d_MO_fitless_40 ?_
        refine lv_istore_n (lv' := [(2, .int (nI (2 ^ tld - 1))), (0, .ref (b + 0)), (1, .int (nI k9))]) hx hb d_MO_fitless_43 rfl hl (by decide) rfl (fun ls hl => ?_)
        refine lv_iconst (v := nI 0) hx hb d_MO_fitless_44 (by decide) ?_
        refine lv_istore_n (lv' := [(3, .int (nI 0)), (2, .int (nI (2 ^ tld - 1))), (0, .ref (b + 0)), (1, .int (nI k9))]) hx hb d_MO_fitless_45 rfl hl (by decide) rfl (fun ls hl => ?_)
        have loop46 : ∀ (r : Nat) (n : Nat) (cn0 : Nat) (lf0 : Nat) (mb0 : Nat) (bv0 : Nat → Nat) (C : Nat → va_E) (H : Heap) (locs : List Loc) (ls : Array Slot), tld < n + r → n ≤ tld → va_P D classes (wl b 11 C) H → va_S (xr b 11) s.heap H locs → MV ca b C 0 dts tld 4095 4095 cn0 lf0 mb0 mwt mab mbe on1 ot2 lea mos (upto 6 (fun _ => 4095) yrs) bv0 → lv_has ls 5 [(0, .ref (b + 0)), (1, .int (nI k9)), (2, .int (nI (ftR (fun c => mSum on1 ot2 lea mos mwt mab mbe tld dts c 4095 4095 (fun _ => 4095)) tld n))), (3, .int (nI n))] → W p l e (headSpec (k_MO_fitless :: gw) ({ frames := 5, cells := 0, slots := 0, locals := 112 })).room s m args below meth c H locs 0 0 (MQ below (xQ D b 11 (fun r C1 => (∃ k9, k9 < 2 ^ 31 ∧ k = nI k9 ∧ ((mSum on1 ot2 lea mos mwt mab mbe tld dts (2 ^ tld - 1) 4095 4095 (fun _ => 4095) ≠ 0 ∧ r = some (.int (-1))) ∨ (mSum on1 ot2 lea mos mwt mab mbe tld dts (2 ^ tld - 1) 4095 4095 (fun _ => 4095) = 0 ∧ ∃ z, r = some (.int (eo z)) ∧ kthP (fun j => (ftR (fun c => mSum on1 ot2 lea mos mwt mab mbe tld dts c 4095 4095 (fun _ => 4095)) tld tld).testBit j) tld k9 z)) ∧ MG ca b C1 0 dts tld mwt mab mbe on1 ot2 lea mos) ∨ (k < 0 ∧ r = some (.int (nI 0)) ∧ MG ca b C1 1 dts tld mwt mab mbe on1 ot2 lea mos))) args s 0 0 (xr b 11)) (F0 m 46 ls []) := by
          intro r
          induction r with
          | zero => intro n cn0 lf0 mb0 bv0 C H locs ls hms hn; exact absurd hms (by omega)
          | succ r ih46 =>
            intro n cn0 lf0 mb0 bv0 C H locs ls hms hn hP hS hX hl
            refine lv_iload_n hx hb d_MO_fitless_46 rfl (lv_at hl 3 rfl) ?_
            refine lv_aload_n hx hb d_MO_fitless_47 rfl (lv_at hl 0 rfl) ?_
            refine xw_get (v := .int (nI tld)) hx hb hts (fun w h => mw (uw_MO w h)) hown hK hP (MV_0 hX) (by decide) rfl 5 (by decide) (hts _ (mw tb_600)) (fun _ h => h) rfl d_MO_fitless_48 ?_
            refine xi_ge (tgt := 93) hx hb d_MO_fitless_51 (by decide) (by omega) (by omega) (fun h51 => ?_) (fun h51 => ?_)
            · skip
              have hnt : n = tld := by omega
              rw [hnt] at hl
              refine lv_iload_n hx hb d_MO_fitless_93 rfl (lv_at hl 1 rfl) ?_
              refine lv_istore_n (lv' := [(3, .int (nI k9)), (0, .ref (b + 0)), (1, .int (nI k9)), (2, .int (nI (ftR (fun c => mSum on1 ot2 lea mos mwt mab mbe tld dts c 4095 4095 (fun _ => 4095)) tld tld)))]) hx hb d_MO_fitless_94 rfl hl (by decide) rfl (fun ls hl => ?_)
              refine lv_iconst (v := nI 0) hx hb d_MO_fitless_95 (by decide) ?_
              refine lv_istore (lv' := [(4, .int (nI 0)), (3, .int (nI k9)), (0, .ref (b + 0)), (1, .int (nI k9)), (2, .int (nI (ftR (fun c => mSum on1 ot2 lea mos mwt mab mbe tld dts c 4095 4095 (fun _ => 4095)) tld tld)))]) hx hb d_MO_fitless_96 hl (by decide) rfl (fun ls hl => ?_)
              have loop98 : ∀ (r : Nat) (n2 : Nat) (rs : Nat) (C : Nat → va_E) (H : Heap) (locs : List Loc) (ls : Array Slot), tld < n2 + r → n2 ≤ tld → rs + sm (fun j => ((ftR (fun c => mSum on1 ot2 lea mos mwt mab mbe tld dts c 4095 4095 (fun _ => 4095)) tld tld).testBit j).toNat) n2 = k9 → va_P D classes (wl b 11 C) H → va_S (xr b 11) s.heap H locs → MV ca b C 0 dts tld 4095 4095 cn0 lf0 mb0 mwt mab mbe on1 ot2 lea mos (upto 6 (fun _ => 4095) yrs) bv0 → lv_has ls 5 [(0, .ref (b + 0)), (2, .int (nI (ftR (fun c => mSum on1 ot2 lea mos mwt mab mbe tld dts c 4095 4095 (fun _ => 4095)) tld tld))), (3, .int (nI rs)), (4, .int (nI n2))] → W p l e (headSpec (k_MO_fitless :: gw) ({ frames := 5, cells := 0, slots := 0, locals := 112 })).room s m args below meth c H locs 0 0 (MQ below (xQ D b 11 (fun r C1 => (∃ k9, k9 < 2 ^ 31 ∧ k = nI k9 ∧ ((mSum on1 ot2 lea mos mwt mab mbe tld dts (2 ^ tld - 1) 4095 4095 (fun _ => 4095) ≠ 0 ∧ r = some (.int (-1))) ∨ (mSum on1 ot2 lea mos mwt mab mbe tld dts (2 ^ tld - 1) 4095 4095 (fun _ => 4095) = 0 ∧ ∃ z, r = some (.int (eo z)) ∧ kthP (fun j => (ftR (fun c => mSum on1 ot2 lea mos mwt mab mbe tld dts c 4095 4095 (fun _ => 4095)) tld tld).testBit j) tld k9 z)) ∧ MG ca b C1 0 dts tld mwt mab mbe on1 ot2 lea mos) ∨ (k < 0 ∧ r = some (.int (nI 0)) ∧ MG ca b C1 1 dts tld mwt mab mbe on1 ot2 lea mos))) args s 0 0 (xr b 11)) (F0 m 98 ls []) := by
                intro r
                induction r with
                | zero => intro n2 rs C H locs ls hms hn2 hrs; exact absurd hms (by omega)
                | succ r ih98 =>
                  intro n2 rs C H locs ls hms hn2 hrs hP hS hX hl
                  refine lv_iload hx hb d_MO_fitless_98 (lv_at hl 3 rfl) ?_
                  refine lv_aload_n hx hb d_MO_fitless_100 rfl (lv_at hl 0 rfl) ?_
                  refine xw_get (v := .int (nI tld)) hx hb hts (fun w h => mw (uw_MO w h)) hown hK hP (MV_0 hX) (by decide) rfl 5 (by decide) (hts _ (mw tb_600)) (fun _ h => h) rfl d_MO_fitless_101 ?_
                  refine xi_ge (tgt := 133) hx hb d_MO_fitless_104 (by decide) (by omega) (by omega) (fun h104 => ?_) (fun h104 => ?_)
                  · skip
                    refine lv_iconst (v := (-1)) hx hb d_MO_fitless_133 (by decide) ?_
                    exact xw_iret hx hb hr hlocks hP hS (Or.inl ⟨k9, hk9, hke, Or.inr ⟨hT0, none, rfl, Or.inr ⟨rfl, by
                        have e : n2 = tld := by omega
                        rw [e] at hrs
                        show sm (fun j => ((ftR (fun c => mSum on1 ot2 lea mos mwt mab mbe tld dts c 4095 4095 (fun _ => 4095)) tld tld).testBit j).toNat) tld ≤ k9
                        omega⟩⟩, hX.g⟩) d_MO_fitless_134
                  · skip
                    refine lv_iload_n hx hb d_MO_fitless_107 rfl (lv_at hl 1 rfl) ?_
                    refine lv_iload hx hb d_MO_fitless_108 (lv_at hl 3 rfl) ?_
                    refine lv_ishr hx hb d_MO_fitless_110 ?_
                    refine ti (nI ((ftR (fun c => mSum on1 ot2 lea mos mwt mab mbe tld dts c 4095 4095 (fun _ => 4095)) tld tld) / 2 ^ n2)) (shr1 (Nat.lt_of_le_of_lt (ftR_le tld) (cnb hM6)) (by omega)) ?_
                    refine lv_iconst (v := nI 1) hx hb d_MO_fitless_111 (by decide) ?_
                    refine lv_iand hx hb d_MO_fitless_112 ?_
                    refine ti (nI (((ftR (fun c => mSum on1 ot2 lea mos mwt mab mbe tld dts c 4095 4095 (fun _ => 4095)) tld tld) / 2 ^ n2) % 2)) (and1 _) ?_
                    refine lv_iconst (v := nI 1) hx hb d_MO_fitless_113 (by decide) ?_
                    refine xi_ne (tgt := 127) hx hb d_MO_fitless_114 (by decide) (by omega) (by omega) (fun h114 => ?_) (fun h114 => ?_)
                    · skip
                      refine lv_iinc (v := nI (n2 + 1)) (lv' := [(4, .int (nI (n2 + 1))), (0, .ref (b + 0)), (2, .int (nI (ftR (fun c => mSum on1 ot2 lea mos mwt mab mbe tld dts c 4095 4095 (fun _ => 4095)) tld tld))), (3, .int (nI rs))]) hx hb d_MO_fitless_127 hl (k := 3) rfl (show nI n2 + Int32.ofInt 1 = nI (n2 + 1) from nI_add _ _) (by decide) rfl (fun ls hl => ?_)
                      refine lv_goto (tgt := 98) hx hb d_MO_fitless_130 (by decide) ?_
                      exact ih98 (n2 + 1) rs _ _ _ _ (by omega) (by omega) (by rw [sm_s, tb0 (by omega)]; exact hrs) hP hS hX (lv_sub hl [1, 2, 3, 0] rfl)
                    · skip
                      refine lv_iload_n hx hb d_MO_fitless_117 rfl (lv_at hl 2 rfl) ?_
                      refine xz_ne (tgt := 124) hx hb d_MO_fitless_118 (by decide) (by omega) (fun h118 => ?_) (fun h118 => ?_)
                      · skip
                        refine lv_iinc (v := nI (rs - 1)) (lv' := [(3, .int (nI (rs - 1))), (0, .ref (b + 0)), (2, .int (nI (ftR (fun c => mSum on1 ot2 lea mos mwt mab mbe tld dts c 4095 4095 (fun _ => 4095)) tld tld))), (4, .int (nI n2))]) hx hb d_MO_fitless_124 hl (k := 2) rfl (show nI rs + Int32.ofInt (-1) = nI (rs - 1) from dec1 (by omega)) (by decide) rfl (fun ls hl => ?_)
                        refine lv_iinc (v := nI (n2 + 1)) (lv' := [(4, .int (nI (n2 + 1))), (3, .int (nI (rs - 1))), (0, .ref (b + 0)), (2, .int (nI (ftR (fun c => mSum on1 ot2 lea mos mwt mab mbe tld dts c 4095 4095 (fun _ => 4095)) tld tld)))]) hx hb d_MO_fitless_127 hl (k := 3) rfl (show nI n2 + Int32.ofInt 1 = nI (n2 + 1) from nI_add _ _) (by decide) rfl (fun ls hl => ?_)
                        refine lv_goto (tgt := 98) hx hb d_MO_fitless_130 (by decide) ?_
                        exact ih98 (n2 + 1) (rs - 1) _ _ _ _ (by omega) (by omega) (by rw [sm_s, tbit.mp h114]; show rs - 1 + (sm (fun j => ((ftR (fun c => mSum on1 ot2 lea mos mwt mab mbe tld dts c 4095 4095 (fun _ => 4095)) tld tld).testBit j).toNat) n2 + 1) = k9; omega) hP hS hX (lv_sub hl [2, 3, 1, 0] rfl)
                      · skip
                        refine lv_iload hx hb d_MO_fitless_121 (lv_at hl 3 rfl) ?_
                        exact xw_iret hx hb hr hlocks hP hS (Or.inl ⟨k9, hk9, hke, Or.inr ⟨hT0, some n2, rfl, Or.inl ⟨n2, rfl, by omega, tbit.mp h114, by show k9 = sm (fun j => ((ftR (fun c => mSum on1 ot2 lea mos mwt mab mbe tld dts c 4095 4095 (fun _ => 4095)) tld tld).testBit j).toNat) n2; omega⟩⟩, hX.g⟩) d_MO_fitless_123
              exact loop98 (tld + 1) 0 k9 _ _ _ _ (by omega) (by omega) rfl hP hS hX (lv_sub hl [2, 4, 1, 0] rfl)
            · skip
              have hft : ftR (fun c => mSum on1 ot2 lea mos mwt mab mbe tld dts c 4095 4095 (fun _ => 4095)) tld n ≤ 2 ^ tld - 1 := ftR_le n
              have hc31 := cnb hM6
              refine lv_aload_n hx hb d_MO_fitless_54 rfl (lv_at hl 0 rfl) ?_
              refine lv_iload_n hx hb d_MO_fitless_55 rfl (lv_at hl 2 rfl) ?_
              refine lv_iconst (v := nI 1) hx hb d_MO_fitless_56 (by decide) ?_
              refine lv_iload_n hx hb d_MO_fitless_57 rfl (lv_at hl 3 rfl) ?_
              refine lv_ishl hx hb d_MO_fitless_58 ?_
              refine ti (nI (2 ^ n)) (sh1 (by omega)) ?_
              refine lv_iconst (v := (-1)) hx hb d_MO_fitless_59 (by decide) ?_
              refine lv_ixor hx hb d_MO_fitless_60 ?_
              refine lv_iand hx hb d_MO_fitless_61 ?_
              refine ti (nI (clb (ftR (fun c => mSum on1 ot2 lea mos mwt mab mbe tld dts c 4095 4095 (fun _ => 4095)) tld n) (2 ^ n))) (nx_clb _ _) ?_
              refine xw_put (v := .int (nI (clb (ftR (fun c => mSum on1 ot2 lea mos mwt mab mbe tld dts c 4095 4095 (fun _ => 4095)) tld n) (2 ^ n)))) (ty := t_MO 15) hx hb hts (fun w h => mw (uw_MO w h)) t_MO t_MO_ok n_MO hown hK hP hA hS (MV_0 hX) (by decide) rfl 15 (by decide) (hts _ (mw tb_610)) (fun _ h => h) rfl (by decide +kernel) rfl rfl (Nat.le_of_ble_eq_true rfl) d_MO_fitless_62 (fun H locs hP hS => ?_)
              have hX := MV_set_cn9 (x1 := clb (ftR (fun c => mSum on1 ot2 lea mos mwt mab mbe tld dts c 4095 4095 (fun _ => 4095)) tld n) (2 ^ n)) hX
              generalize va_up _ 0 _ = C at hP hX
              refine lv_aload_n hx hb d_MO_fitless_65 rfl (lv_at hl 0 rfl) ?_
              refine xc_V (n := 0) (g0 := 0) (As := []) (rest := []) (st0 := _) hx hb hml hown hts (c_MO_sum l D ca b _ (JS on1 ot2 lea mos mwt mab mbe tld dts (clb (ftR (fun c => mSum on1 ot2 lea mos mwt mab mbe tld dts c 4095 4095 (fun _ => 4095)) tld n) (2 ^ n)) 4095 4095 (upto 6 (fun _ => 4095) yrs) bv0) hX hH.M hH.D yr_lt (Nat.lt_of_le_of_lt (clb_le _ _) (by omega)) (by decide) (by decide) (JS.z hH (clb (ftR (fun c => mSum on1 ot2 lea mos mwt mab mbe tld dts c 4095 4095 (fun _ => 4095)) tld n) (2 ^ n)) 4095 4095 (upto 6 (fun _ => 4095) yrs) bv0) (JS.s hH (clb (ftR (fun c => mSum on1 ot2 lea mos mwt mab mbe tld dts c 4095 4095 (fun _ => 4095)) tld n) (2 ^ n)) 4095 4095 (upto 6 (fun _ => 4095) yrs) bv0) (JS.l hH (clb (ftR (fun c => mSum on1 ot2 lea mos mwt mab mbe tld dts c 4095 4095 (fun _ => 4095)) tld n) (2 ^ n)) 4095 4095 (upto 6 (fun _ => 4095) yrs) bv0) (JS.r hH (clb (ftR (fun c => mSum on1 ot2 lea mos mwt mab mbe tld dts c 4095 4095 (fun _ => 4095)) tld n) (2 ^ n)) 4095 4095 (upto 6 (fun _ => 4095) yrs) bv0) (JS.p (clb (ftR (fun c => mSum on1 ot2 lea mos mwt mab mbe tld dts c 4095 4095 (fun _ => 4095)) tld n) (2 ^ n)) 4095 4095 (upto 6 (fun _ => 4095) yrs) bv0)) km_MO_sum tb_712 tb_714 tps_26 tb_7 (by decide +kernel) rfl rfl ⟨Nat.le_of_ble_eq_true rfl, Nat.le_of_ble_eq_true rfl⟩ hK hP (MV_0 hX) (by decide) rfl rfl rfl hl rfl (Nat.le_of_ble_eq_true rfl) d_MO_fitless_66 ⟨Nat.zero_le _, Nat.zero_le _⟩ hS (fun _ h => h) (fun v C H locs hp hP _ _ hS => ?_)
              obtain ⟨rfl, al, bv1, bw5, hJ, hX, hs6, hk7⟩ := hp
              have hs6 : bw5 74 = mSum on1 ot2 lea mos mwt mab mbe tld dts (clb (ftR (fun c => mSum on1 ot2 lea mos mwt mab mbe tld dts c 4095 4095 (fun _ => 4095)) tld n) (2 ^ n)) 4095 4095 (upto 6 (fun _ => 4095) yrs) := hs6.trans (JS.d hH hJ)
              refine lv_aload_n hx hb d_MO_fitless_69 rfl (lv_at hl 0 rfl) ?_
              refine lv_bipush (v := nI 74) hx hb d_MO_fitless_70 (by decide) ?_
              obtain ⟨bg9, wd9, hX, hB9⟩ := hX
              refine xc_V (n := 1) (g0 := 0) (As := [.int (nI 74)]) (rest := []) (st0 := _) hx hb hml hown hts (c_MO_isNothing l D ca b _ 74 hX (by omega) (hB9 74 (by omega)).1) km_MO_isNothing tb_788 tb_790 tps_41 tb_7 (by decide +kernel) rfl rfl ⟨Nat.le_of_ble_eq_true rfl, Nat.le_of_ble_eq_true rfl⟩ hK hP (MR_0 hX) (by decide) rfl rfl rfl hl rfl (Nat.le_of_ble_eq_true rfl) d_MO_fitless_72 ⟨Nat.zero_le _, Nat.zero_le _⟩ hS (fun _ h => h) (fun v C H locs hp hP _ _ hS => ?_)
              obtain ⟨z8, rfl, hz8, hX⟩ := hp
              have hz8 := hz8.trans (bRep_z (hB9 74 (by omega)) (by rw [hs6]; exact mSum_l2 hH))
              rw [hs6] at hz8
              have hX : MV ca b C 0 dts tld 4095 4095 (clb (ftR (fun c => mSum on1 ot2 lea mos mwt mab mbe tld dts c 4095 4095 (fun _ => 4095)) tld n) (2 ^ n)) 0 (mbU (clb (ftR (fun c => mSum on1 ot2 lea mos mwt mab mbe tld dts c 4095 4095 (fun _ => 4095)) tld n) (2 ^ n)) on1 ot2 tld) mwt mab mbe on1 ot2 lea mos (upto 6 (fun _ => 4095) yrs) bw5 := ⟨_, _, hX, hB9⟩
              have j86 : ∀ (kv : Nat), kv = ftR (fun c => mSum on1 ot2 lea mos mwt mab mbe tld dts c 4095 4095 (fun _ => 4095)) tld (n + 1) → W p l e (headSpec (k_MO_fitless :: gw) ({ frames := 5, cells := 0, slots := 0, locals := 112 })).room s m args below meth c H locs 0 0 (MQ below (xQ D b 11 (fun r C1 => (∃ k9, k9 < 2 ^ 31 ∧ k = nI k9 ∧ ((mSum on1 ot2 lea mos mwt mab mbe tld dts (2 ^ tld - 1) 4095 4095 (fun _ => 4095) ≠ 0 ∧ r = some (.int (-1))) ∨ (mSum on1 ot2 lea mos mwt mab mbe tld dts (2 ^ tld - 1) 4095 4095 (fun _ => 4095) = 0 ∧ ∃ z, r = some (.int (eo z)) ∧ kthP (fun j => (ftR (fun c => mSum on1 ot2 lea mos mwt mab mbe tld dts c 4095 4095 (fun _ => 4095)) tld tld).testBit j) tld k9 z)) ∧ MG ca b C1 0 dts tld mwt mab mbe on1 ot2 lea mos) ∨ (k < 0 ∧ r = some (.int (nI 0)) ∧ MG ca b C1 1 dts tld mwt mab mbe on1 ot2 lea mos))) args s 0 0 (xr b 11)) (F0 m 86 ls [.int (nI kv)]) := by
                intro kv hkv
                refine lv_istore_n (lv' := [(2, .int (nI kv)), (0, .ref (b + 0)), (1, .int (nI k9)), (3, .int (nI n))]) hx hb d_MO_fitless_86 rfl hl (by decide) rfl (fun ls hl => ?_)
                refine lv_iinc (v := nI (n + 1)) (lv' := [(3, .int (nI (n + 1))), (2, .int (nI kv)), (0, .ref (b + 0)), (1, .int (nI k9))]) hx hb d_MO_fitless_87 hl (k := 3) rfl (show nI n + Int32.ofInt 1 = nI (n + 1) from nI_add _ _) (by decide) rfl (fun ls hl => ?_)
                refine lv_goto (tgt := 46) hx hb d_MO_fitless_90 (by decide) ?_
                subst hkv
                exact ih46 (n + 1) (clb (ftR (fun c => mSum on1 ot2 lea mos mwt mab mbe tld dts c 4095 4095 (fun _ => 4095)) tld n) (2 ^ n)) 0 (mbU (clb (ftR (fun c => mSum on1 ot2 lea mos mwt mab mbe tld dts c 4095 4095 (fun _ => 4095)) tld n) (2 ^ n)) on1 ot2 tld) bw5 _ _ _ _ (by omega) (by omega) hP hS hX (lv_sub hl [2, 3, 1, 0] rfl)
              refine xz_eq (tgt := 85) hx hb d_MO_fitless_75 (by decide) (tn31 _) (fun h75 => ?_) (fun h75 => ?_)
              · skip
                rw [mSum_o hd6] at hz8
                refine lv_iload_n hx hb d_MO_fitless_85 rfl (lv_at hl 2 rfl) ?_
                exact j86 (ftR (fun c => mSum on1 ot2 lea mos mwt mab mbe tld dts c 4095 4095 (fun _ => 4095)) tld n) (ftR_n (fun q => by have := hz8.mpr q; rw [bf h75] at this; cases this)).symm
              · skip
                rw [mSum_o hd6] at hz8
                refine lv_aload_n hx hb d_MO_fitless_78 rfl (lv_at hl 0 rfl) ?_
                refine xw_get (v := .int (nI (clb (ftR (fun c => mSum on1 ot2 lea mos mwt mab mbe tld dts c 4095 4095 (fun _ => 4095)) tld n) (2 ^ n)))) hx hb hts (fun w h => mw (uw_MO w h)) hown hK hP (MV_0 hX) (by decide) rfl 15 (by decide) (hts _ (mw tb_610)) (fun _ h => h) rfl d_MO_fitless_79 ?_
                refine lv_goto (tgt := 86) hx hb d_MO_fitless_82 (by decide) ?_
                exact j86 (clb (ftR (fun c => mSum on1 ot2 lea mos mwt mab mbe tld dts c 4095 4095 (fun _ => 4095)) tld n) (2 ^ n)) (ftR_z (hz8.mp (bt h75))).symm
        exact loop46 (tld + 1) 0 (2 ^ tld - 1) 0 (mbU (2 ^ tld - 1) on1 ot2 tld) bw1 _ _ _ _ (by omega) (by omega) hP hS hX (lv_sub hl [2, 3, 1, 0] rfl)
      · skip
        rw [mSum_o hd6] at hz4
        refine lv_iconst (v := (-1)) hx hb d_MO_fitless_37 (by decide) ?_
        exact xw_iret hx hb hr hlocks hP hS (Or.inl ⟨k9, hk9, hke, Or.inl ⟨fun q => (by have := hz4.mpr q; rw [bf h34] at this; cases this), rfl⟩, hX.g⟩) d_MO_fitless_38
    · skip
      have hz0 : ¬ zz = true := fun q => gz_z h15 (by rw [q]; rfl)
      rw [gth_1 hz0] at hX
      refine lv_iconst (v := nI 0) hx hb d_MO_fitless_18 (by decide) ?_
      exact xw_iret hx hb hr hlocks hP hS (Or.inr ⟨by
          refine Classical.byContradiction (fun q => hz0 (hzz.mpr (nI_of q))), rfl, hX.g⟩) d_MO_fitless_19
  refine lv_if_lt (tgt := 9) hx hb d_MO_fitless_2 (by decide) (fun h2 => ?_) (fun h2 => ?_)
  · skip
    refine lv_iconst (v := nI 0) hx hb d_MO_fitless_9 (by decide) ?_
    exact j10 false ⟨fun q => (by cases q), fun ⟨j, q1, q2⟩ => absurd h2 (by rw [q2]; exact nI_pos (by omega))⟩
  · skip
    refine lv_iconst (v := nI 1) hx hb d_MO_fitless_5 (by decide) ?_
    refine lv_goto (tgt := 10) hx hb d_MO_fitless_6 (by decide) ?_
    exact j10 true ⟨fun _ => nI_of h2, fun _ => rfl⟩

