/-! The Model: total, answered, bound, both, fits, count -/
theorem bRep_z {f : Nat → Nat} {v : Nat} (h : bRep f v) (hv : v < mB ^ 12) : (∀ k, k < 12 → f k = 0) ↔ v = 0 := by rw [← mval_zero, h.2 hv]
set_option maxHeartbeats 4000000 in
set_option maxRecDepth 100000 in
/-- the sum of all ways: a digit -/
theorem c_MO_total (l : Launch) (D : va_G) (ca : Nat → ClassId) (b : Nat) (C0 : Nat → va_E) {th : Nat} {dts : Nat} {tld : Nat} {fs9 : Nat} {ls9 : Nat} {cn9 : Nat} {lf9 : Nat} {mb9 : Nat} {mwt : Nat → Nat} {mab : Nat → Nat} {mbe : Nat → Nat} {on1 : Nat → Nat} {ot2 : Nat → Nat} {lea : Nat → Nat} {mos : Nat → Nat} {yrs : Nat → Nat} {bv : Nat → Nat} (k : Int32) (hX : MV ca b C0 th dts tld fs9 ls9 cn9 lf9 mb9 mwt mab mbe on1 ot2 lea mos yrs bv) (hH : MH on1 ot2 lea mos mwt mab mbe tld dts) : Met l y_MO_total (k_MO_total :: gw) ({ frames := 5, cells := 0, slots := 0, locals := 112 }) (xPc D ca b 11 C0 [.ref (b + 0), .int k]) (xQ D b 11 (fun r C1 => (∃ k9, k9 < 48 ∧ k = nI k9 ∧ r = some (.int (nI (mSum on1 ot2 lea mos mwt mab mbe tld dts (2 ^ tld - 1) 4095 4095 (upto 6 (fun _ => 4095) yrs) / 10 ^ k9 % 10))) ∧ MG ca b C1 0 dts tld mwt mab mbe on1 ot2 lea mos) ∨ (¬ isN k 48 ∧ r = some (.int (nI 0)) ∧ MG ca b C1 1 dts tld mwt mab mbe on1 ot2 lea mos))) 0 0 (xr b 11) := by
  refine Met.ofW (cc := b_MO_total) (maxL := 2) (ret := (some FieldType.int)) (by decide) rfl ?_
  intro p e s m args below meth c s₁ B hml hv
  obtain ⟨hav, hP, hK⟩ := hv
  have hx := B.exec
  have hb := B.bytes
  have hr := B.returns
  have hts := atoms_spec (ws := k_MO_total :: gw) B.pre
  have hown : s.vm.findClass R_MO = some m.cls := findClass_of_methodNamed B.named
  have hlocks := B.notSynchronized
  have hA : ∀ k, k < 11 → xr b 11 (b + k) := xr_in
  have hS : va_S (xr b 11) s.heap s.heap [] := va_S.rf
  have hl := lv_entry ([.ref (b + 0), .int k]) (n := 2) (Nat.le_of_ble_eq_true rfl)
  rw [hav, lg_entry_eq]
  generalize (lg_sl ([.ref (b + 0), .int k]) ++ List.replicate (2 - (lg_sl ([.ref (b + 0), .int k])).length) Slot.unset).toArray = ls at hl ⊢
  have hl : lv_has ls 2 [(0, .ref (b + 0)), (1, .int k)] := hl
  rw [← hav]
  have hM6 := hH.M.1
  have hd6 := hH.D.1
  refine lv_aload_n hx hb d_MO_total_0 rfl (lv_at hl 0 rfl) ?_
  refine lv_iload_n hx hb d_MO_total_1 rfl (lv_at hl 1 rfl) ?_
  obtain ⟨bg9, wd9, hX, hB9⟩ := hX
  refine xc_S (n := 1) (As := [.int k]) (rest := [.ref (b + 0)]) (st0 := _) hx hb hml hown hts (c_MO_isDigit l D ca b _ k hX ) km_MO_isDigit tb_705 tb_706 tb_7 (by decide +kernel) rfl rfl ⟨Nat.le_of_ble_eq_true rfl, Nat.le_of_ble_eq_true rfl⟩ hK hP rfl hl rfl (Nat.le_of_ble_eq_true rfl) d_MO_total_2 ⟨Nat.zero_le _, Nat.zero_le _⟩ hS (fun _ h => h) (fun v C H locs hp hP _ _ hS => ?_)
  obtain ⟨z1, rfl, hz1, hX⟩ := hp
  have hX : MV ca b C th dts tld fs9 ls9 cn9 lf9 mb9 mwt mab mbe on1 ot2 lea mos yrs bv := ⟨_, _, hX, hB9⟩
  refine lv_iconst (v := nI 1) hx hb d_MO_total_5 (by decide) ?_
  refine lv_iconst (v := nI 1) hx hb d_MO_total_6 (by decide) ?_
  obtain ⟨bg9, wd9, hX, hB9⟩ := hX
  refine xc_V (n := 3) (g0 := 0) (As := [.int (nI z1.toNat), .int (nI 1), .int (nI 1)]) (rest := []) (st0 := _) hx hb hml hown hts (c_MO_goes l D ca b _ z1 true true hX ) km_MO_goes tb_658 tb_660 tps_19 tb_7 (by decide +kernel) rfl rfl ⟨Nat.le_of_ble_eq_true rfl, Nat.le_of_ble_eq_true rfl⟩ hK hP (MR_0 hX) (by decide) rfl rfl rfl hl rfl (Nat.le_of_ble_eq_true rfl) d_MO_total_7 ⟨Nat.zero_le _, Nat.zero_le _⟩ hS (fun _ h => h) (fun v C H locs hp hP _ _ hS => ?_)
  obtain ⟨rfl, hX⟩ := hp
  have hX : MV ca b C (gth z1 true true) dts tld fs9 ls9 cn9 lf9 mb9 mwt mab mbe on1 ot2 lea mos yrs bv := ⟨_, _, hX, hB9⟩
  refine xz_ne (tgt := 15) hx hb d_MO_total_10 (by decide) (gz_b _) (fun h10 => ?_) (fun h10 => ?_)
  · skip
    obtain ⟨g1, -, -⟩ := gth_0 (gz_n h10)
    obtain ⟨k9, hk9, rfl⟩ := hz1.mp g1
    have hg0 := gz_n h10
    rw [hg0] at hX
    refine lv_aload_n hx hb d_MO_total_15 rfl (lv_at hl 0 rfl) ?_
    obtain ⟨bg9, wd9, hX, hB9⟩ := hX
    refine xc_V (n := 0) (g0 := 0) (As := []) (rest := []) (st0 := _) hx hb hml hown hts (c_MO_open l D ca b _  hX (by omega)) km_MO_open tb_708 tb_710 tps_25 tb_7 (by decide +kernel) rfl rfl ⟨Nat.le_of_ble_eq_true rfl, Nat.le_of_ble_eq_true rfl⟩ hK hP (MR_0 hX) (by decide) rfl rfl rfl hl rfl (Nat.le_of_ble_eq_true rfl) d_MO_total_16 ⟨Nat.zero_le _, Nat.zero_le _⟩ hS (fun _ h => h) (fun v C H locs hp hP _ _ hS => ?_)
    obtain ⟨rfl, hX⟩ := hp
    have hX : MV ca b C 0 dts tld 4095 4095 (2 ^ tld - 1) lf9 mb9 mwt mab mbe on1 ot2 lea mos (upto 6 (fun _ => 4095) yrs) bv := ⟨_, _, hX, hB9⟩
    refine lv_aload_n hx hb d_MO_total_19 rfl (lv_at hl 0 rfl) ?_
    refine xc_V (n := 0) (g0 := 0) (As := []) (rest := []) (st0 := _) hx hb hml hown hts (c_MO_sum l D ca b _ (JS on1 ot2 lea mos mwt mab mbe tld dts (2 ^ tld - 1) 4095 4095 (upto 6 (fun _ => 4095) yrs) bv) hX hH.M hH.D yr_lt (cnb hM6) (by decide) (by decide) (JS.z hH (2 ^ tld - 1) 4095 4095 (upto 6 (fun _ => 4095) yrs) bv) (JS.s hH (2 ^ tld - 1) 4095 4095 (upto 6 (fun _ => 4095) yrs) bv) (JS.l hH (2 ^ tld - 1) 4095 4095 (upto 6 (fun _ => 4095) yrs) bv) (JS.r hH (2 ^ tld - 1) 4095 4095 (upto 6 (fun _ => 4095) yrs) bv) (JS.p (2 ^ tld - 1) 4095 4095 (upto 6 (fun _ => 4095) yrs) bv)) km_MO_sum tb_712 tb_714 tps_26 tb_7 (by decide +kernel) rfl rfl ⟨Nat.le_of_ble_eq_true rfl, Nat.le_of_ble_eq_true rfl⟩ hK hP (MV_0 hX) (by decide) rfl rfl rfl hl rfl (Nat.le_of_ble_eq_true rfl) d_MO_total_20 ⟨Nat.zero_le _, Nat.zero_le _⟩ hS (fun _ h => h) (fun v C H locs hp hP _ _ hS => ?_)
    obtain ⟨rfl, al, bv1, bw2, hJ, hX, hs3, hk4⟩ := hp
    have hs3 : bw2 74 = mSum on1 ot2 lea mos mwt mab mbe tld dts (2 ^ tld - 1) 4095 4095 (upto 6 (fun _ => 4095) yrs) := hs3.trans (JS.d hH hJ)
    refine lv_aload_n hx hb d_MO_total_23 rfl (lv_at hl 0 rfl) ?_
    refine lv_bipush (v := nI 74) hx hb d_MO_total_24 (by decide) ?_
    refine lv_iload_n hx hb d_MO_total_26 rfl (lv_at hl 1 rfl) ?_
    obtain ⟨bg9, wd9, hX, hB9⟩ := hX
    refine xc_V (n := 2) (g0 := 0) (As := [.int (nI 74), .int (nI k9)]) (rest := []) (st0 := _) hx hb hml hown hts (c_MO_digitOf l D ca b _ 74 k9 _ hX (by omega) (by omega) (hB9 74 (by omega)) (by rw [hs3]; exact mSum_l2 hH)) km_MO_digitOf tb_764 tb_766 tps_39 tb_7 (by decide +kernel) rfl rfl ⟨Nat.le_of_ble_eq_true rfl, Nat.le_of_ble_eq_true rfl⟩ hK hP (MR_0 hX) (by decide) rfl rfl rfl hl rfl (Nat.le_of_ble_eq_true rfl) d_MO_total_27 ⟨Nat.zero_le _, Nat.zero_le _⟩ hS (fun _ h => h) (fun v C H locs hp hP _ _ hS => ?_)
    obtain ⟨rfl, hX⟩ := hp
    have hX : MV ca b C 0 dts tld 4095 4095 (2 ^ tld - 1) 0 (mbU (2 ^ tld - 1) on1 ot2 tld) mwt mab mbe on1 ot2 lea mos (upto 6 (fun _ => 4095) yrs) bw2 := ⟨_, _, hX, hB9⟩
    exact xw_iret hx hb hr hlocks hP hS (Or.inl ⟨k9, hk9, rfl, by rw [hs3], hX.g⟩) d_MO_total_30
  · skip
    have hz0 : ¬ z1 = true := fun q => gz_z h10 (by rw [q]; rfl)
    rw [gth_1 hz0] at hX
    refine lv_iconst (v := nI 0) hx hb d_MO_total_13 (by decide) ?_
    exact xw_iret hx hb hr hlocks hP hS (Or.inr ⟨fun q => hz0 (hz1.mpr q), rfl, hX.g⟩) d_MO_total_14

set_option maxHeartbeats 4000000 in
set_option maxRecDepth 100000 in
/-- the sum of all ways with a year of a date: a digit -/
theorem c_MO_answered (l : Launch) (D : va_G) (ca : Nat → ClassId) (b : Nat) (C0 : Nat → va_E) {th : Nat} {dts : Nat} {tld : Nat} {fs9 : Nat} {ls9 : Nat} {cn9 : Nat} {lf9 : Nat} {mb9 : Nat} {mwt : Nat → Nat} {mab : Nat → Nat} {mbe : Nat → Nat} {on1 : Nat → Nat} {ot2 : Nat → Nat} {lea : Nat → Nat} {mos : Nat → Nat} {yrs : Nat → Nat} {bv : Nat → Nat} (d y k : Int32) (hX : MV ca b C0 th dts tld fs9 ls9 cn9 lf9 mb9 mwt mab mbe on1 ot2 lea mos yrs bv) (hH : MH on1 ot2 lea mos mwt mab mbe tld dts) : Met l y_MO_answered (k_MO_answered :: gw) ({ frames := 5, cells := 0, slots := 0, locals := 112 }) (xPc D ca b 11 C0 [.ref (b + 0), .int d, .int y, .int k]) (xQ D b 11 (fun r C1 => (∃ d9 y9 k9, d9 < dts ∧ y9 < 12 ∧ k9 < 48 ∧ d = nI d9 ∧ y = nI y9 ∧ k = nI k9 ∧ r = some (.int (nI (mSum on1 ot2 lea mos mwt mab mbe tld dts (2 ^ tld - 1) 4095 4095 (va_up (upto 6 (fun _ => 4095) yrs) d9 (2 ^ y9)) / 10 ^ k9 % 10))) ∧ MG ca b C1 0 dts tld mwt mab mbe on1 ot2 lea mos) ∨ (¬ (isN d dts ∧ isN y 12 ∧ isN k 48) ∧ r = some (.int (nI 0)) ∧ MG ca b C1 1 dts tld mwt mab mbe on1 ot2 lea mos))) 0 0 (xr b 11) := by
  refine Met.ofW (cc := b_MO_answered) (maxL := 4) (ret := (some FieldType.int)) (by decide) rfl ?_
  intro p e s m args below meth c s₁ B hml hv
  obtain ⟨hav, hP, hK⟩ := hv
  have hx := B.exec
  have hb := B.bytes
  have hr := B.returns
  have hts := atoms_spec (ws := k_MO_answered :: gw) B.pre
  have hown : s.vm.findClass R_MO = some m.cls := findClass_of_methodNamed B.named
  have hlocks := B.notSynchronized
  have hA : ∀ k, k < 11 → xr b 11 (b + k) := xr_in
  have hS : va_S (xr b 11) s.heap s.heap [] := va_S.rf
  have hl := lv_entry ([.ref (b + 0), .int d, .int y, .int k]) (n := 4) (Nat.le_of_ble_eq_true rfl)
  rw [hav, lg_entry_eq]
  generalize (lg_sl ([.ref (b + 0), .int d, .int y, .int k]) ++ List.replicate (4 - (lg_sl ([.ref (b + 0), .int d, .int y, .int k])).length) Slot.unset).toArray = ls at hl ⊢
  have hl : lv_has ls 4 [(0, .ref (b + 0)), (1, .int d), (2, .int y), (3, .int k)] := hl
  rw [← hav]
  have hM6 := hH.M.1
  have hd6 := hH.D.1
  refine lv_aload_n hx hb d_MO_answered_0 rfl (lv_at hl 0 rfl) ?_
  refine lv_aload_n hx hb d_MO_answered_1 rfl (lv_at hl 0 rfl) ?_
  refine lv_iload_n hx hb d_MO_answered_2 rfl (lv_at hl 1 rfl) ?_
  obtain ⟨bg9, wd9, hX, hB9⟩ := hX
  refine xc_V (n := 1) (g0 := 0) (As := [.int d]) (rest := [.ref (b + 0)]) (st0 := _) hx hb hml hown hts (c_MO_isDate l D ca b _ d hX (by omega)) km_MO_isDate tb_666 tb_668 tps_20 tb_7 (by decide +kernel) rfl rfl ⟨Nat.le_of_ble_eq_true rfl, Nat.le_of_ble_eq_true rfl⟩ hK hP (MR_0 hX) (by decide) rfl rfl rfl hl rfl (Nat.le_of_ble_eq_true rfl) d_MO_answered_3 ⟨Nat.zero_le _, Nat.zero_le _⟩ hS (fun _ h => h) (fun v C H locs hp hP _ _ hS => ?_)
  obtain ⟨z1, rfl, hz1, hX⟩ := hp
  have hX : MV ca b C th dts tld fs9 ls9 cn9 lf9 mb9 mwt mab mbe on1 ot2 lea mos yrs bv := ⟨_, _, hX, hB9⟩
  have j30 : ∀ (zz : Bool) (C : Nat → va_E) (H : Heap) (locs : List Loc), (zz = true ↔ isN d dts ∧ isN y 12 ∧ isN k 48) → va_P D classes (wl b 11 C) H → va_S (xr b 11) s.heap H locs → MV ca b C th dts tld fs9 ls9 cn9 lf9 mb9 mwt mab mbe on1 ot2 lea mos yrs bv → W p l e (headSpec (k_MO_answered :: gw) ({ frames := 5, cells := 0, slots := 0, locals := 112 })).room s m args below meth c H locs 0 0 (MQ below (xQ D b 11 (fun r C1 => (∃ d9 y9 k9, d9 < dts ∧ y9 < 12 ∧ k9 < 48 ∧ d = nI d9 ∧ y = nI y9 ∧ k = nI k9 ∧ r = some (.int (nI (mSum on1 ot2 lea mos mwt mab mbe tld dts (2 ^ tld - 1) 4095 4095 (va_up (upto 6 (fun _ => 4095) yrs) d9 (2 ^ y9)) / 10 ^ k9 % 10))) ∧ MG ca b C1 0 dts tld mwt mab mbe on1 ot2 lea mos) ∨ (¬ (isN d dts ∧ isN y 12 ∧ isN k 48) ∧ r = some (.int (nI 0)) ∧ MG ca b C1 1 dts tld mwt mab mbe on1 ot2 lea mos))) args s 0 0 (xr b 11)) (F0 m 30 ls [.int (nI zz.toNat), .ref (b + 0)]) := by
    intro zz C H locs hzz hP hS hX
    refine lv_iconst (v := nI 1) hx hb d_MO_answered_30 (by decide) ?_
    refine lv_iconst (v := nI 1) hx hb d_MO_answered_31 (by decide) ?_
    obtain ⟨bg9, wd9, hX, hB9⟩ := hX
    refine xc_V (n := 3) (g0 := 0) (As := [.int (nI zz.toNat), .int (nI 1), .int (nI 1)]) (rest := []) (st0 := _) hx hb hml hown hts (c_MO_goes l D ca b _ zz true true hX ) km_MO_goes tb_658 tb_660 tps_19 tb_7 (by decide +kernel) rfl rfl ⟨Nat.le_of_ble_eq_true rfl, Nat.le_of_ble_eq_true rfl⟩ hK hP (MR_0 hX) (by decide) rfl rfl rfl hl rfl (Nat.le_of_ble_eq_true rfl) d_MO_answered_32 ⟨Nat.zero_le _, Nat.zero_le _⟩ hS (fun _ h => h) (fun v C H locs hp hP _ _ hS => ?_)
    obtain ⟨rfl, hX⟩ := hp
    have hX : MV ca b C (gth zz true true) dts tld fs9 ls9 cn9 lf9 mb9 mwt mab mbe on1 ot2 lea mos yrs bv := ⟨_, _, hX, hB9⟩
    refine xz_ne (tgt := 40) hx hb d_MO_answered_35 (by decide) (gz_b _) (fun h35 => ?_) (fun h35 => ?_)
    · skip
      obtain ⟨g1, -, -⟩ := gth_0 (gz_n h35)
      obtain ⟨⟨d9, hd9, rfl⟩, ⟨y9, hy9, rfl⟩, ⟨k9, hk9, rfl⟩⟩ := hzz.mp g1
      have hg0 := gz_n h35
      rw [hg0] at hX
      refine lv_aload_n hx hb d_MO_answered_40 rfl (lv_at hl 0 rfl) ?_
      obtain ⟨bg9, wd9, hX, hB9⟩ := hX
      refine xc_V (n := 0) (g0 := 0) (As := []) (rest := []) (st0 := _) hx hb hml hown hts (c_MO_open l D ca b _  hX (by omega)) km_MO_open tb_708 tb_710 tps_25 tb_7 (by decide +kernel) rfl rfl ⟨Nat.le_of_ble_eq_true rfl, Nat.le_of_ble_eq_true rfl⟩ hK hP (MR_0 hX) (by decide) rfl rfl rfl hl rfl (Nat.le_of_ble_eq_true rfl) d_MO_answered_41 ⟨Nat.zero_le _, Nat.zero_le _⟩ hS (fun _ h => h) (fun v C H locs hp hP _ _ hS => ?_)
      obtain ⟨rfl, hX⟩ := hp
      have hX : MV ca b C 0 dts tld 4095 4095 (2 ^ tld - 1) lf9 mb9 mwt mab mbe on1 ot2 lea mos (upto 6 (fun _ => 4095) yrs) bv := ⟨_, _, hX, hB9⟩
      refine lv_aload_n hx hb d_MO_answered_44 rfl (lv_at hl 0 rfl) ?_
      refine xw_get (v := .ref (b + 10)) hx hb hts (fun w h => mw (uw_MO w h)) hown hK hP (MV_0 hX) (by decide) rfl 12 (by decide) (hts _ (mw tb_607)) (fun _ h => h) rfl d_MO_answered_45 ?_
      refine lv_iload_n hx hb d_MO_answered_48 rfl (lv_at hl 1 rfl) ?_
      refine lv_iconst (v := nI 1) hx hb d_MO_answered_49 (by decide) ?_
      refine lv_iload_n hx hb d_MO_answered_50 rfl (lv_at hl 2 rfl) ?_
      refine lv_ishl hx hb d_MO_answered_51 ?_
      refine ti (nI (2 ^ y9)) (sh1 (by omega)) ?_
      refine xw_iast hx hb hK hP hA hS 0 (MV_10 hX) (by decide) rfl (by omega) (by decide) d_MO_answered_52 (fun H locs hP hS => ?_)
      have hX := MV_set_yrs (j := d9) (x := 2 ^ y9) hX
      generalize va_up _ 10 _ = C at hP hX
      refine lv_aload_n hx hb d_MO_answered_53 rfl (lv_at hl 0 rfl) ?_
      refine xc_V (n := 0) (g0 := 0) (As := []) (rest := []) (st0 := _) hx hb hml hown hts (c_MO_sum l D ca b _ (JS on1 ot2 lea mos mwt mab mbe tld dts (2 ^ tld - 1) 4095 4095 (va_up (upto 6 (fun _ => 4095) yrs) d9 (2 ^ y9)) bv) hX hH.M hH.D (yr_up yr_lt (p12 hy9)) (cnb hM6) (by decide) (by decide) (JS.z hH (2 ^ tld - 1) 4095 4095 (va_up (upto 6 (fun _ => 4095) yrs) d9 (2 ^ y9)) bv) (JS.s hH (2 ^ tld - 1) 4095 4095 (va_up (upto 6 (fun _ => 4095) yrs) d9 (2 ^ y9)) bv) (JS.l hH (2 ^ tld - 1) 4095 4095 (va_up (upto 6 (fun _ => 4095) yrs) d9 (2 ^ y9)) bv) (JS.r hH (2 ^ tld - 1) 4095 4095 (va_up (upto 6 (fun _ => 4095) yrs) d9 (2 ^ y9)) bv) (JS.p (2 ^ tld - 1) 4095 4095 (va_up (upto 6 (fun _ => 4095) yrs) d9 (2 ^ y9)) bv)) km_MO_sum tb_712 tb_714 tps_26 tb_7 (by decide +kernel) rfl rfl ⟨Nat.le_of_ble_eq_true rfl, Nat.le_of_ble_eq_true rfl⟩ hK hP (MV_0 hX) (by decide) rfl rfl rfl hl rfl (Nat.le_of_ble_eq_true rfl) d_MO_answered_54 ⟨Nat.zero_le _, Nat.zero_le _⟩ hS (fun _ h => h) (fun v C H locs hp hP _ _ hS => ?_)
      obtain ⟨rfl, al, bv1, bw2, hJ, hX, hs3, hk4⟩ := hp
      have hs3 : bw2 74 = mSum on1 ot2 lea mos mwt mab mbe tld dts (2 ^ tld - 1) 4095 4095 (va_up (upto 6 (fun _ => 4095) yrs) d9 (2 ^ y9)) := hs3.trans (JS.d hH hJ)
      refine lv_aload_n hx hb d_MO_answered_57 rfl (lv_at hl 0 rfl) ?_
      refine lv_bipush (v := nI 74) hx hb d_MO_answered_58 (by decide) ?_
      refine lv_iload_n hx hb d_MO_answered_60 rfl (lv_at hl 3 rfl) ?_
      obtain ⟨bg9, wd9, hX, hB9⟩ := hX
      refine xc_V (n := 2) (g0 := 0) (As := [.int (nI 74), .int (nI k9)]) (rest := []) (st0 := _) hx hb hml hown hts (c_MO_digitOf l D ca b _ 74 k9 _ hX (by omega) (by omega) (hB9 74 (by omega)) (by rw [hs3]; exact mSum_l2 hH)) km_MO_digitOf tb_764 tb_766 tps_39 tb_7 (by decide +kernel) rfl rfl ⟨Nat.le_of_ble_eq_true rfl, Nat.le_of_ble_eq_true rfl⟩ hK hP (MR_0 hX) (by decide) rfl rfl rfl hl rfl (Nat.le_of_ble_eq_true rfl) d_MO_answered_61 ⟨Nat.zero_le _, Nat.zero_le _⟩ hS (fun _ h => h) (fun v C H locs hp hP _ _ hS => ?_)
      obtain ⟨rfl, hX⟩ := hp
      have hX : MV ca b C 0 dts tld 4095 4095 (2 ^ tld - 1) 0 (mbU (2 ^ tld - 1) on1 ot2 tld) mwt mab mbe on1 ot2 lea mos (va_up (upto 6 (fun _ => 4095) yrs) d9 (2 ^ y9)) bw2 := ⟨_, _, hX, hB9⟩
      exact xw_iret hx hb hr hlocks hP hS (Or.inl ⟨d9, y9, k9, hd9, hy9, hk9, rfl, rfl, rfl, by rw [hs3], hX.g⟩) d_MO_answered_64
    · skip
      have hz0 : ¬ zz = true := fun q => gz_z h35 (by rw [q]; rfl)
      rw [gth_1 hz0] at hX
      refine lv_iconst (v := nI 0) hx hb d_MO_answered_38 (by decide) ?_
      exact xw_iret hx hb hr hlocks hP hS (Or.inr ⟨fun q => hz0 (hzz.mpr q), rfl, hX.g⟩) d_MO_answered_39
  refine xz_eq (tgt := 29) hx hb d_MO_answered_6 (by decide) (tn31 _) (fun h6 => ?_) (fun h6 => ?_)
  · skip
    refine lv_iconst (v := nI 0) hx hb d_MO_answered_29 (by decide) ?_
    exact j30 false _ _ _ ⟨fun q => (by cases q), fun q => by have := hz1.mpr q.1; rw [bf h6] at this; cases this⟩ hP hS hX
  · skip
    refine lv_iload_n hx hb d_MO_answered_9 rfl (lv_at hl 2 rfl) ?_
    refine lv_bipush (v := nI 12) hx hb d_MO_answered_10 (by decide) ?_
    obtain ⟨bg9, wd9, hX, hB9⟩ := hX
    refine xc_S (n := 2) (As := [.int y, .int (nI 12)]) (rest := [.ref (b + 0)]) (st0 := _) hx hb hml hown hts (c_MO_below l D ca b _ y 12 hX (by omega)) km_MO_below tb_670 tb_671 tb_7 (by decide +kernel) rfl rfl ⟨Nat.le_of_ble_eq_true rfl, Nat.le_of_ble_eq_true rfl⟩ hK hP rfl hl rfl (Nat.le_of_ble_eq_true rfl) d_MO_answered_12 ⟨Nat.zero_le _, Nat.zero_le _⟩ hS (fun _ h => h) (fun v C H locs hp hP _ _ hS => ?_)
    obtain ⟨z5, rfl, hz5, hX⟩ := hp
    have hX : MV ca b C th dts tld fs9 ls9 cn9 lf9 mb9 mwt mab mbe on1 ot2 lea mos yrs bv := ⟨_, _, hX, hB9⟩
    refine xz_eq (tgt := 29) hx hb d_MO_answered_15 (by decide) (tn31 _) (fun h15 => ?_) (fun h15 => ?_)
    · skip
      refine lv_iconst (v := nI 0) hx hb d_MO_answered_29 (by decide) ?_
      exact j30 false _ _ _ ⟨fun q => (by cases q), fun q => by have := hz5.mpr q.2.1; rw [bf h15] at this; cases this⟩ hP hS hX
    · skip
      refine lv_iload_n hx hb d_MO_answered_18 rfl (lv_at hl 3 rfl) ?_
      obtain ⟨bg9, wd9, hX, hB9⟩ := hX
      refine xc_S (n := 1) (As := [.int k]) (rest := [.ref (b + 0)]) (st0 := _) hx hb hml hown hts (c_MO_isDigit l D ca b _ k hX ) km_MO_isDigit tb_705 tb_706 tb_7 (by decide +kernel) rfl rfl ⟨Nat.le_of_ble_eq_true rfl, Nat.le_of_ble_eq_true rfl⟩ hK hP rfl hl rfl (Nat.le_of_ble_eq_true rfl) d_MO_answered_19 ⟨Nat.zero_le _, Nat.zero_le _⟩ hS (fun _ h => h) (fun v C H locs hp hP _ _ hS => ?_)
      obtain ⟨z6, rfl, hz6, hX⟩ := hp
      have hX : MV ca b C th dts tld fs9 ls9 cn9 lf9 mb9 mwt mab mbe on1 ot2 lea mos yrs bv := ⟨_, _, hX, hB9⟩
      refine xz_eq (tgt := 29) hx hb d_MO_answered_22 (by decide) (tn31 _) (fun h22 => ?_) (fun h22 => ?_)
      · skip
        refine lv_iconst (v := nI 0) hx hb d_MO_answered_29 (by decide) ?_
        exact j30 false _ _ _ ⟨fun q => (by cases q), fun q => by have := hz6.mpr q.2.2; rw [bf h22] at this; cases this⟩ hP hS hX
      · skip
        refine lv_iconst (v := nI 1) hx hb d_MO_answered_25 (by decide) ?_
        refine lv_goto (tgt := 30) hx hb d_MO_answered_26 (by decide) ?_
        exact j30 true _ _ _ ⟨fun _ => ⟨hz1.mp (bt h6), hz5.mp (bt h15), hz6.mp (bt h22)⟩, fun _ => rfl⟩ hP hS hX

set_option maxHeartbeats 4000000 in
set_option maxRecDepth 100000 in
/-- the sum of all ways with years of two dates: a digit -/
theorem c_MO_both (l : Launch) (D : va_G) (ca : Nat → ClassId) (b : Nat) (C0 : Nat → va_E) {th : Nat} {dts : Nat} {tld : Nat} {fs9 : Nat} {ls9 : Nat} {cn9 : Nat} {lf9 : Nat} {mb9 : Nat} {mwt : Nat → Nat} {mab : Nat → Nat} {mbe : Nat → Nat} {on1 : Nat → Nat} {ot2 : Nat → Nat} {lea : Nat → Nat} {mos : Nat → Nat} {yrs : Nat → Nat} {bv : Nat → Nat} (a x g y k : Int32) (hX : MV ca b C0 th dts tld fs9 ls9 cn9 lf9 mb9 mwt mab mbe on1 ot2 lea mos yrs bv) (hH : MH on1 ot2 lea mos mwt mab mbe tld dts) : Met l y_MO_both (k_MO_both :: gw) ({ frames := 5, cells := 0, slots := 0, locals := 112 }) (xPc D ca b 11 C0 [.ref (b + 0), .int a, .int x, .int g, .int y, .int k]) (xQ D b 11 (fun r C1 => (∃ a9 x9 g9 y9 k9, a9 < dts ∧ x9 < 12 ∧ g9 < dts ∧ y9 < 12 ∧ k9 < 48 ∧ a = nI a9 ∧ x = nI x9 ∧ g = nI g9 ∧ y = nI y9 ∧ k = nI k9 ∧ r = some (.int (nI (mSum on1 ot2 lea mos mwt mab mbe tld dts (2 ^ tld - 1) 4095 4095 (va_up (va_up (upto 6 (fun _ => 4095) yrs) a9 (2 ^ x9)) g9 (va_up (upto 6 (fun _ => 4095) yrs) a9 (2 ^ x9) g9 &&& 2 ^ y9)) / 10 ^ k9 % 10))) ∧ MG ca b C1 0 dts tld mwt mab mbe on1 ot2 lea mos) ∨ (¬ (isN a dts ∧ isN x 12 ∧ isN g dts ∧ isN y 12 ∧ isN k 48) ∧ r = some (.int (nI 0)) ∧ MG ca b C1 1 dts tld mwt mab mbe on1 ot2 lea mos))) 0 0 (xr b 11) := by
  refine Met.ofW (cc := b_MO_both) (maxL := 6) (ret := (some FieldType.int)) (by decide) rfl ?_
  intro p e s m args below meth c s₁ B hml hv
  obtain ⟨hav, hP, hK⟩ := hv
  have hx := B.exec
  have hb := B.bytes
  have hr := B.returns
  have hts := atoms_spec (ws := k_MO_both :: gw) B.pre
  have hown : s.vm.findClass R_MO = some m.cls := findClass_of_methodNamed B.named
  have hlocks := B.notSynchronized
  have hA : ∀ k, k < 11 → xr b 11 (b + k) := xr_in
  have hS : va_S (xr b 11) s.heap s.heap [] := va_S.rf
  have hl := lv_entry ([.ref (b + 0), .int a, .int x, .int g, .int y, .int k]) (n := 6) (Nat.le_of_ble_eq_true rfl)
  rw [hav, lg_entry_eq]
  generalize (lg_sl ([.ref (b + 0), .int a, .int x, .int g, .int y, .int k]) ++ List.replicate (6 - (lg_sl ([.ref (b + 0), .int a, .int x, .int g, .int y, .int k])).length) Slot.unset).toArray = ls at hl ⊢
  have hl : lv_has ls 6 [(0, .ref (b + 0)), (1, .int a), (2, .int x), (3, .int g), (4, .int y), (5, .int k)] := hl
  rw [← hav]
  have hM6 := hH.M.1
  have hd6 := hH.D.1
  refine lv_aload_n hx hb d_MO_both_0 rfl (lv_at hl 0 rfl) ?_
  refine lv_aload_n hx hb d_MO_both_1 rfl (lv_at hl 0 rfl) ?_
  refine lv_iload_n hx hb d_MO_both_2 rfl (lv_at hl 1 rfl) ?_
  obtain ⟨bg9, wd9, hX, hB9⟩ := hX
  refine xc_V (n := 1) (g0 := 0) (As := [.int a]) (rest := [.ref (b + 0)]) (st0 := _) hx hb hml hown hts (c_MO_isDate l D ca b _ a hX (by omega)) km_MO_isDate tb_666 tb_668 tps_20 tb_7 (by decide +kernel) rfl rfl ⟨Nat.le_of_ble_eq_true rfl, Nat.le_of_ble_eq_true rfl⟩ hK hP (MR_0 hX) (by decide) rfl rfl rfl hl rfl (Nat.le_of_ble_eq_true rfl) d_MO_both_3 ⟨Nat.zero_le _, Nat.zero_le _⟩ hS (fun _ h => h) (fun v C H locs hp hP _ _ hS => ?_)
  obtain ⟨z1, rfl, hz1, hX⟩ := hp
  have hX : MV ca b C th dts tld fs9 ls9 cn9 lf9 mb9 mwt mab mbe on1 ot2 lea mos yrs bv := ⟨_, _, hX, hB9⟩
  have j49 : ∀ (zz : Bool) (C : Nat → va_E) (H : Heap) (locs : List Loc), (zz = true ↔ isN a dts ∧ isN x 12 ∧ isN g dts ∧ isN y 12 ∧ isN k 48) → va_P D classes (wl b 11 C) H → va_S (xr b 11) s.heap H locs → MV ca b C th dts tld fs9 ls9 cn9 lf9 mb9 mwt mab mbe on1 ot2 lea mos yrs bv → W p l e (headSpec (k_MO_both :: gw) ({ frames := 5, cells := 0, slots := 0, locals := 112 })).room s m args below meth c H locs 0 0 (MQ below (xQ D b 11 (fun r C1 => (∃ a9 x9 g9 y9 k9, a9 < dts ∧ x9 < 12 ∧ g9 < dts ∧ y9 < 12 ∧ k9 < 48 ∧ a = nI a9 ∧ x = nI x9 ∧ g = nI g9 ∧ y = nI y9 ∧ k = nI k9 ∧ r = some (.int (nI (mSum on1 ot2 lea mos mwt mab mbe tld dts (2 ^ tld - 1) 4095 4095 (va_up (va_up (upto 6 (fun _ => 4095) yrs) a9 (2 ^ x9)) g9 (va_up (upto 6 (fun _ => 4095) yrs) a9 (2 ^ x9) g9 &&& 2 ^ y9)) / 10 ^ k9 % 10))) ∧ MG ca b C1 0 dts tld mwt mab mbe on1 ot2 lea mos) ∨ (¬ (isN a dts ∧ isN x 12 ∧ isN g dts ∧ isN y 12 ∧ isN k 48) ∧ r = some (.int (nI 0)) ∧ MG ca b C1 1 dts tld mwt mab mbe on1 ot2 lea mos))) args s 0 0 (xr b 11)) (F0 m 49 ls [.int (nI zz.toNat), .ref (b + 0)]) := by
    intro zz C H locs hzz hP hS hX
    refine lv_iconst (v := nI 1) hx hb d_MO_both_49 (by decide) ?_
    refine lv_iconst (v := nI 1) hx hb d_MO_both_50 (by decide) ?_
    obtain ⟨bg9, wd9, hX, hB9⟩ := hX
    refine xc_V (n := 3) (g0 := 0) (As := [.int (nI zz.toNat), .int (nI 1), .int (nI 1)]) (rest := []) (st0 := _) hx hb hml hown hts (c_MO_goes l D ca b _ zz true true hX ) km_MO_goes tb_658 tb_660 tps_19 tb_7 (by decide +kernel) rfl rfl ⟨Nat.le_of_ble_eq_true rfl, Nat.le_of_ble_eq_true rfl⟩ hK hP (MR_0 hX) (by decide) rfl rfl rfl hl rfl (Nat.le_of_ble_eq_true rfl) d_MO_both_51 ⟨Nat.zero_le _, Nat.zero_le _⟩ hS (fun _ h => h) (fun v C H locs hp hP _ _ hS => ?_)
    obtain ⟨rfl, hX⟩ := hp
    have hX : MV ca b C (gth zz true true) dts tld fs9 ls9 cn9 lf9 mb9 mwt mab mbe on1 ot2 lea mos yrs bv := ⟨_, _, hX, hB9⟩
    refine xz_ne (tgt := 59) hx hb d_MO_both_54 (by decide) (gz_b _) (fun h54 => ?_) (fun h54 => ?_)
    · skip
      obtain ⟨g1, -, -⟩ := gth_0 (gz_n h54)
      obtain ⟨⟨a9, ha9, rfl⟩, ⟨x9, hx9, rfl⟩, ⟨g9, hg9, rfl⟩, ⟨y9, hy9, rfl⟩, ⟨k9, hk9, rfl⟩⟩ := hzz.mp g1
      have hg0 := gz_n h54
      rw [hg0] at hX
      refine lv_aload_n hx hb d_MO_both_59 rfl (lv_at hl 0 rfl) ?_
      obtain ⟨bg9, wd9, hX, hB9⟩ := hX
      refine xc_V (n := 0) (g0 := 0) (As := []) (rest := []) (st0 := _) hx hb hml hown hts (c_MO_open l D ca b _  hX (by omega)) km_MO_open tb_708 tb_710 tps_25 tb_7 (by decide +kernel) rfl rfl ⟨Nat.le_of_ble_eq_true rfl, Nat.le_of_ble_eq_true rfl⟩ hK hP (MR_0 hX) (by decide) rfl rfl rfl hl rfl (Nat.le_of_ble_eq_true rfl) d_MO_both_60 ⟨Nat.zero_le _, Nat.zero_le _⟩ hS (fun _ h => h) (fun v C H locs hp hP _ _ hS => ?_)
      obtain ⟨rfl, hX⟩ := hp
      have hX : MV ca b C 0 dts tld 4095 4095 (2 ^ tld - 1) lf9 mb9 mwt mab mbe on1 ot2 lea mos (upto 6 (fun _ => 4095) yrs) bv := ⟨_, _, hX, hB9⟩
      refine lv_aload_n hx hb d_MO_both_63 rfl (lv_at hl 0 rfl) ?_
      refine xw_get (v := .ref (b + 10)) hx hb hts (fun w h => mw (uw_MO w h)) hown hK hP (MV_0 hX) (by decide) rfl 12 (by decide) (hts _ (mw tb_607)) (fun _ h => h) rfl d_MO_both_64 ?_
      refine lv_iload_n hx hb d_MO_both_67 rfl (lv_at hl 1 rfl) ?_
      refine lv_iconst (v := nI 1) hx hb d_MO_both_68 (by decide) ?_
      refine lv_iload_n hx hb d_MO_both_69 rfl (lv_at hl 2 rfl) ?_
      refine lv_ishl hx hb d_MO_both_70 ?_
      refine ti (nI (2 ^ x9)) (sh1 (by omega)) ?_
      refine xw_iast hx hb hK hP hA hS 0 (MV_10 hX) (by decide) rfl (by omega) (by decide) d_MO_both_71 (fun H locs hP hS => ?_)
      have hX := MV_set_yrs (j := a9) (x := 2 ^ x9) hX
      generalize va_up _ 10 _ = C at hP hX
      refine lv_aload_n hx hb d_MO_both_72 rfl (lv_at hl 0 rfl) ?_
      refine xw_get (v := .ref (b + 10)) hx hb hts (fun w h => mw (uw_MO w h)) hown hK hP (MV_0 hX) (by decide) rfl 12 (by decide) (hts _ (mw tb_607)) (fun _ h => h) rfl d_MO_both_73 ?_
      refine lv_iload_n hx hb d_MO_both_76 rfl (lv_at hl 3 rfl) ?_
      refine lv_aload_n hx hb d_MO_both_77 rfl (lv_at hl 0 rfl) ?_
      refine xw_get (v := .ref (b + 10)) hx hb hts (fun w h => mw (uw_MO w h)) hown hK hP (MV_0 hX) (by decide) rfl 12 (by decide) (hts _ (mw tb_607)) (fun _ h => h) rfl d_MO_both_78 ?_
      refine lv_iload_n hx hb d_MO_both_81 rfl (lv_at hl 3 rfl) ?_
      refine xw_iald hx hb hK hP 0 (MV_10 hX) (by decide) rfl (by omega) (by decide) d_MO_both_82 ?_
      refine lv_iconst (v := nI 1) hx hb d_MO_both_83 (by decide) ?_
      refine lv_iload hx hb d_MO_both_84 (lv_at hl 4 rfl) ?_
      refine lv_ishl hx hb d_MO_both_86 ?_
      refine ti (nI (2 ^ y9)) (sh1 (by omega)) ?_
      refine lv_iand hx hb d_MO_both_87 ?_
      refine ti (nI (((va_up (upto 6 (fun _ => 4095) yrs) a9 (2 ^ x9)) g9) &&& (2 ^ y9))) (nx_and _ _) ?_
      refine xw_iast hx hb hK hP hA hS 0 (MV_10 hX) (by decide) rfl (by omega) (by decide) d_MO_both_88 (fun H locs hP hS => ?_)
      have hX := MV_set_yrs (j := g9) (x := ((va_up (upto 6 (fun _ => 4095) yrs) a9 (2 ^ x9)) g9) &&& (2 ^ y9)) hX
      generalize va_up _ 10 _ = C at hP hX
      refine lv_aload_n hx hb d_MO_both_89 rfl (lv_at hl 0 rfl) ?_
      refine xc_V (n := 0) (g0 := 0) (As := []) (rest := []) (st0 := _) hx hb hml hown hts (c_MO_sum l D ca b _ (JS on1 ot2 lea mos mwt mab mbe tld dts (2 ^ tld - 1) 4095 4095 (va_up (va_up (upto 6 (fun _ => 4095) yrs) a9 (2 ^ x9)) g9 (((va_up (upto 6 (fun _ => 4095) yrs) a9 (2 ^ x9)) g9) &&& (2 ^ y9))) bv) hX hH.M hH.D (yr_up (yr_up yr_lt (p12 hx9)) (Nat.lt_of_le_of_lt Nat.and_le_right (p12 hy9))) (cnb hM6) (by decide) (by decide) (JS.z hH (2 ^ tld - 1) 4095 4095 (va_up (va_up (upto 6 (fun _ => 4095) yrs) a9 (2 ^ x9)) g9 (((va_up (upto 6 (fun _ => 4095) yrs) a9 (2 ^ x9)) g9) &&& (2 ^ y9))) bv) (JS.s hH (2 ^ tld - 1) 4095 4095 (va_up (va_up (upto 6 (fun _ => 4095) yrs) a9 (2 ^ x9)) g9 (((va_up (upto 6 (fun _ => 4095) yrs) a9 (2 ^ x9)) g9) &&& (2 ^ y9))) bv) (JS.l hH (2 ^ tld - 1) 4095 4095 (va_up (va_up (upto 6 (fun _ => 4095) yrs) a9 (2 ^ x9)) g9 (((va_up (upto 6 (fun _ => 4095) yrs) a9 (2 ^ x9)) g9) &&& (2 ^ y9))) bv) (JS.r hH (2 ^ tld - 1) 4095 4095 (va_up (va_up (upto 6 (fun _ => 4095) yrs) a9 (2 ^ x9)) g9 (((va_up (upto 6 (fun _ => 4095) yrs) a9 (2 ^ x9)) g9) &&& (2 ^ y9))) bv) (JS.p (2 ^ tld - 1) 4095 4095 (va_up (va_up (upto 6 (fun _ => 4095) yrs) a9 (2 ^ x9)) g9 (((va_up (upto 6 (fun _ => 4095) yrs) a9 (2 ^ x9)) g9) &&& (2 ^ y9))) bv)) km_MO_sum tb_712 tb_714 tps_26 tb_7 (by decide +kernel) rfl rfl ⟨Nat.le_of_ble_eq_true rfl, Nat.le_of_ble_eq_true rfl⟩ hK hP (MV_0 hX) (by decide) rfl rfl rfl hl rfl (Nat.le_of_ble_eq_true rfl) d_MO_both_90 ⟨Nat.zero_le _, Nat.zero_le _⟩ hS (fun _ h => h) (fun v C H locs hp hP _ _ hS => ?_)
      obtain ⟨rfl, al, bv1, bw2, hJ, hX, hs3, hk4⟩ := hp
      have hs3 : bw2 74 = mSum on1 ot2 lea mos mwt mab mbe tld dts (2 ^ tld - 1) 4095 4095 (va_up (va_up (upto 6 (fun _ => 4095) yrs) a9 (2 ^ x9)) g9 (((va_up (upto 6 (fun _ => 4095) yrs) a9 (2 ^ x9)) g9) &&& (2 ^ y9))) := hs3.trans (JS.d hH hJ)
      refine lv_aload_n hx hb d_MO_both_93 rfl (lv_at hl 0 rfl) ?_
      refine lv_bipush (v := nI 74) hx hb d_MO_both_94 (by decide) ?_
      refine lv_iload hx hb d_MO_both_96 (lv_at hl 5 rfl) ?_
      obtain ⟨bg9, wd9, hX, hB9⟩ := hX
      refine xc_V (n := 2) (g0 := 0) (As := [.int (nI 74), .int (nI k9)]) (rest := []) (st0 := _) hx hb hml hown hts (c_MO_digitOf l D ca b _ 74 k9 _ hX (by omega) (by omega) (hB9 74 (by omega)) (by rw [hs3]; exact mSum_l2 hH)) km_MO_digitOf tb_764 tb_766 tps_39 tb_7 (by decide +kernel) rfl rfl ⟨Nat.le_of_ble_eq_true rfl, Nat.le_of_ble_eq_true rfl⟩ hK hP (MR_0 hX) (by decide) rfl rfl rfl hl rfl (Nat.le_of_ble_eq_true rfl) d_MO_both_98 ⟨Nat.zero_le _, Nat.zero_le _⟩ hS (fun _ h => h) (fun v C H locs hp hP _ _ hS => ?_)
      obtain ⟨rfl, hX⟩ := hp
      have hX : MV ca b C 0 dts tld 4095 4095 (2 ^ tld - 1) 0 (mbU (2 ^ tld - 1) on1 ot2 tld) mwt mab mbe on1 ot2 lea mos (va_up (va_up (upto 6 (fun _ => 4095) yrs) a9 (2 ^ x9)) g9 (((va_up (upto 6 (fun _ => 4095) yrs) a9 (2 ^ x9)) g9) &&& (2 ^ y9))) bw2 := ⟨_, _, hX, hB9⟩
      exact xw_iret hx hb hr hlocks hP hS (Or.inl ⟨a9, x9, g9, y9, k9, ha9, hx9, hg9, hy9, hk9, rfl, rfl, rfl, rfl, rfl, by rw [hs3], hX.g⟩) d_MO_both_101
    · skip
      have hz0 : ¬ zz = true := fun q => gz_z h54 (by rw [q]; rfl)
      rw [gth_1 hz0] at hX
      refine lv_iconst (v := nI 0) hx hb d_MO_both_57 (by decide) ?_
      exact xw_iret hx hb hr hlocks hP hS (Or.inr ⟨fun q => hz0 (hzz.mpr q), rfl, hX.g⟩) d_MO_both_58
  refine xz_eq (tgt := 48) hx hb d_MO_both_6 (by decide) (tn31 _) (fun h6 => ?_) (fun h6 => ?_)
  · skip
    refine lv_iconst (v := nI 0) hx hb d_MO_both_48 (by decide) ?_
    exact j49 false _ _ _ ⟨fun q => (by cases q), fun q => by have := hz1.mpr q.1; rw [bf h6] at this; cases this⟩ hP hS hX
  · skip
    refine lv_iload_n hx hb d_MO_both_9 rfl (lv_at hl 2 rfl) ?_
    refine lv_bipush (v := nI 12) hx hb d_MO_both_10 (by decide) ?_
    obtain ⟨bg9, wd9, hX, hB9⟩ := hX
    refine xc_S (n := 2) (As := [.int x, .int (nI 12)]) (rest := [.ref (b + 0)]) (st0 := _) hx hb hml hown hts (c_MO_below l D ca b _ x 12 hX (by omega)) km_MO_below tb_670 tb_671 tb_7 (by decide +kernel) rfl rfl ⟨Nat.le_of_ble_eq_true rfl, Nat.le_of_ble_eq_true rfl⟩ hK hP rfl hl rfl (Nat.le_of_ble_eq_true rfl) d_MO_both_12 ⟨Nat.zero_le _, Nat.zero_le _⟩ hS (fun _ h => h) (fun v C H locs hp hP _ _ hS => ?_)
    obtain ⟨z5, rfl, hz5, hX⟩ := hp
    have hX : MV ca b C th dts tld fs9 ls9 cn9 lf9 mb9 mwt mab mbe on1 ot2 lea mos yrs bv := ⟨_, _, hX, hB9⟩
    refine xz_eq (tgt := 48) hx hb d_MO_both_15 (by decide) (tn31 _) (fun h15 => ?_) (fun h15 => ?_)
    · skip
      refine lv_iconst (v := nI 0) hx hb d_MO_both_48 (by decide) ?_
      exact j49 false _ _ _ ⟨fun q => (by cases q), fun q => by have := hz5.mpr q.2.1; rw [bf h15] at this; cases this⟩ hP hS hX
    · skip
      refine lv_aload_n hx hb d_MO_both_18 rfl (lv_at hl 0 rfl) ?_
      refine lv_iload_n hx hb d_MO_both_19 rfl (lv_at hl 3 rfl) ?_
      obtain ⟨bg9, wd9, hX, hB9⟩ := hX
      refine xc_V (n := 1) (g0 := 0) (As := [.int g]) (rest := [.ref (b + 0)]) (st0 := _) hx hb hml hown hts (c_MO_isDate l D ca b _ g hX (by omega)) km_MO_isDate tb_666 tb_668 tps_20 tb_7 (by decide +kernel) rfl rfl ⟨Nat.le_of_ble_eq_true rfl, Nat.le_of_ble_eq_true rfl⟩ hK hP (MR_0 hX) (by decide) rfl rfl rfl hl rfl (Nat.le_of_ble_eq_true rfl) d_MO_both_20 ⟨Nat.zero_le _, Nat.zero_le _⟩ hS (fun _ h => h) (fun v C H locs hp hP _ _ hS => ?_)
      obtain ⟨z6, rfl, hz6, hX⟩ := hp
      have hX : MV ca b C th dts tld fs9 ls9 cn9 lf9 mb9 mwt mab mbe on1 ot2 lea mos yrs bv := ⟨_, _, hX, hB9⟩
      refine xz_eq (tgt := 48) hx hb d_MO_both_23 (by decide) (tn31 _) (fun h23 => ?_) (fun h23 => ?_)
      · skip
        refine lv_iconst (v := nI 0) hx hb d_MO_both_48 (by decide) ?_
        exact j49 false _ _ _ ⟨fun q => (by cases q), fun q => by have := hz6.mpr q.2.2.1; rw [bf h23] at this; cases this⟩ hP hS hX
      · skip
        refine lv_iload hx hb d_MO_both_26 (lv_at hl 4 rfl) ?_
        refine lv_bipush (v := nI 12) hx hb d_MO_both_28 (by decide) ?_
        obtain ⟨bg9, wd9, hX, hB9⟩ := hX
        refine xc_S (n := 2) (As := [.int y, .int (nI 12)]) (rest := [.ref (b + 0)]) (st0 := _) hx hb hml hown hts (c_MO_below l D ca b _ y 12 hX (by omega)) km_MO_below tb_670 tb_671 tb_7 (by decide +kernel) rfl rfl ⟨Nat.le_of_ble_eq_true rfl, Nat.le_of_ble_eq_true rfl⟩ hK hP rfl hl rfl (Nat.le_of_ble_eq_true rfl) d_MO_both_30 ⟨Nat.zero_le _, Nat.zero_le _⟩ hS (fun _ h => h) (fun v C H locs hp hP _ _ hS => ?_)
        obtain ⟨z7, rfl, hz7, hX⟩ := hp
        have hX : MV ca b C th dts tld fs9 ls9 cn9 lf9 mb9 mwt mab mbe on1 ot2 lea mos yrs bv := ⟨_, _, hX, hB9⟩
        refine xz_eq (tgt := 48) hx hb d_MO_both_33 (by decide) (tn31 _) (fun h33 => ?_) (fun h33 => ?_)
        · skip
          refine lv_iconst (v := nI 0) hx hb d_MO_both_48 (by decide) ?_
          exact j49 false _ _ _ ⟨fun q => (by cases q), fun q => by have := hz7.mpr q.2.2.2.1; rw [bf h33] at this; cases this⟩ hP hS hX
        · skip
          refine lv_iload hx hb d_MO_both_36 (lv_at hl 5 rfl) ?_
          obtain ⟨bg9, wd9, hX, hB9⟩ := hX
          refine xc_S (n := 1) (As := [.int k]) (rest := [.ref (b + 0)]) (st0 := _) hx hb hml hown hts (c_MO_isDigit l D ca b _ k hX ) km_MO_isDigit tb_705 tb_706 tb_7 (by decide +kernel) rfl rfl ⟨Nat.le_of_ble_eq_true rfl, Nat.le_of_ble_eq_true rfl⟩ hK hP rfl hl rfl (Nat.le_of_ble_eq_true rfl) d_MO_both_38 ⟨Nat.zero_le _, Nat.zero_le _⟩ hS (fun _ h => h) (fun v C H locs hp hP _ _ hS => ?_)
          obtain ⟨z8, rfl, hz8, hX⟩ := hp
          have hX : MV ca b C th dts tld fs9 ls9 cn9 lf9 mb9 mwt mab mbe on1 ot2 lea mos yrs bv := ⟨_, _, hX, hB9⟩
          refine xz_eq (tgt := 48) hx hb d_MO_both_41 (by decide) (tn31 _) (fun h41 => ?_) (fun h41 => ?_)
          · skip
            refine lv_iconst (v := nI 0) hx hb d_MO_both_48 (by decide) ?_
            exact j49 false _ _ _ ⟨fun q => (by cases q), fun q => by have := hz8.mpr q.2.2.2.2; rw [bf h41] at this; cases this⟩ hP hS hX
          · skip
            refine lv_iconst (v := nI 1) hx hb d_MO_both_44 (by decide) ?_
            refine lv_goto (tgt := 49) hx hb d_MO_both_45 (by decide) ?_
            exact j49 true _ _ _ ⟨fun _ => ⟨hz1.mp (bt h6), hz5.mp (bt h15), hz6.mp (bt h23), hz7.mp (bt h33), hz8.mp (bt h41)⟩, fun _ => rfl⟩ hP hS hX

set_option maxHeartbeats 4000000 in
set_option maxRecDepth 100000 in
/-- whether there is a way -/
theorem c_MO_fits (l : Launch) (D : va_G) (ca : Nat → ClassId) (b : Nat) (C0 : Nat → va_E) {th : Nat} {dts : Nat} {tld : Nat} {fs9 : Nat} {ls9 : Nat} {cn9 : Nat} {lf9 : Nat} {mb9 : Nat} {mwt : Nat → Nat} {mab : Nat → Nat} {mbe : Nat → Nat} {on1 : Nat → Nat} {ot2 : Nat → Nat} {lea : Nat → Nat} {mos : Nat → Nat} {yrs : Nat → Nat} {bv : Nat → Nat}  (hX : MV ca b C0 th dts tld fs9 ls9 cn9 lf9 mb9 mwt mab mbe on1 ot2 lea mos yrs bv) (hH : MH on1 ot2 lea mos mwt mab mbe tld dts) : Met l y_MO_fits (k_MO_fits :: gw) ({ frames := 5, cells := 0, slots := 0, locals := 112 }) (xPc D ca b 11 C0 [.ref (b + 0)]) (xQ D b 11 (fun r C1 => ∃ z : Bool, r = some (.int (nI z.toNat)) ∧ (z = true ↔ mSum on1 ot2 lea mos mwt mab mbe tld dts (2 ^ tld - 1) 4095 4095 (upto 6 (fun _ => 4095) yrs) ≠ 0) ∧ MG ca b C1 0 dts tld mwt mab mbe on1 ot2 lea mos)) 0 0 (xr b 11) := by
  refine Met.ofW (cc := b_MO_fits) (maxL := 1) (ret := (some FieldType.boolean)) (by decide) rfl ?_
  intro p e s m args below meth c s₁ B hml hv
  obtain ⟨hav, hP, hK⟩ := hv
  have hx := B.exec
  have hb := B.bytes
  have hr := B.returns
  have hts := atoms_spec (ws := k_MO_fits :: gw) B.pre
  have hown : s.vm.findClass R_MO = some m.cls := findClass_of_methodNamed B.named
  have hlocks := B.notSynchronized
  have hA : ∀ k, k < 11 → xr b 11 (b + k) := xr_in
  have hS : va_S (xr b 11) s.heap s.heap [] := va_S.rf
  have hl := lv_entry ([.ref (b + 0)]) (n := 1) (Nat.le_of_ble_eq_true rfl)
  rw [hav, lg_entry_eq]
  generalize (lg_sl ([.ref (b + 0)]) ++ List.replicate (1 - (lg_sl ([.ref (b + 0)])).length) Slot.unset).toArray = ls at hl ⊢
  have hl : lv_has ls 1 [(0, .ref (b + 0))] := hl
  rw [← hav]
  have hM6 := hH.M.1
  have hd6 := hH.D.1
  refine lv_aload_n hx hb d_MO_fits_0 rfl (lv_at hl 0 rfl) ?_
  refine lv_iconst (v := nI 0) hx hb d_MO_fits_1 (by decide) ?_
  refine xw_put (v := .int (nI 0)) (ty := t_MO 0) hx hb hts (fun w h => mw (uw_MO w h)) t_MO t_MO_ok n_MO hown hK hP hA hS (MV_0 hX) (by decide) rfl 0 (by decide) (hts _ (mw tb_595)) (fun _ h => h) rfl (by decide +kernel) rfl rfl (Nat.le_of_ble_eq_true rfl) d_MO_fits_2 (fun H locs hP hS => ?_)
  have hX := MV_set_th (x1 := 0) hX
  generalize va_up _ 0 _ = C at hP hX
  refine lv_aload_n hx hb d_MO_fits_5 rfl (lv_at hl 0 rfl) ?_
  obtain ⟨bg9, wd9, hX, hB9⟩ := hX
  refine xc_V (n := 0) (g0 := 0) (As := []) (rest := []) (st0 := _) hx hb hml hown hts (c_MO_open l D ca b _  hX (by omega)) km_MO_open tb_708 tb_710 tps_25 tb_7 (by decide +kernel) rfl rfl ⟨Nat.le_of_ble_eq_true rfl, Nat.le_of_ble_eq_true rfl⟩ hK hP (MR_0 hX) (by decide) rfl rfl rfl hl rfl (Nat.le_of_ble_eq_true rfl) d_MO_fits_6 ⟨Nat.zero_le _, Nat.zero_le _⟩ hS (fun _ h => h) (fun v C H locs hp hP _ _ hS => ?_)
  obtain ⟨rfl, hX⟩ := hp
  have hX : MV ca b C 0 dts tld 4095 4095 (2 ^ tld - 1) lf9 mb9 mwt mab mbe on1 ot2 lea mos (upto 6 (fun _ => 4095) yrs) bv := ⟨_, _, hX, hB9⟩
  refine lv_aload_n hx hb d_MO_fits_9 rfl (lv_at hl 0 rfl) ?_
  refine xc_V (n := 0) (g0 := 0) (As := []) (rest := []) (st0 := _) hx hb hml hown hts (c_MO_sum l D ca b _ (JS on1 ot2 lea mos mwt mab mbe tld dts (2 ^ tld - 1) 4095 4095 (upto 6 (fun _ => 4095) yrs) bv) hX hH.M hH.D yr_lt (cnb hM6) (by decide) (by decide) (JS.z hH (2 ^ tld - 1) 4095 4095 (upto 6 (fun _ => 4095) yrs) bv) (JS.s hH (2 ^ tld - 1) 4095 4095 (upto 6 (fun _ => 4095) yrs) bv) (JS.l hH (2 ^ tld - 1) 4095 4095 (upto 6 (fun _ => 4095) yrs) bv) (JS.r hH (2 ^ tld - 1) 4095 4095 (upto 6 (fun _ => 4095) yrs) bv) (JS.p (2 ^ tld - 1) 4095 4095 (upto 6 (fun _ => 4095) yrs) bv)) km_MO_sum tb_712 tb_714 tps_26 tb_7 (by decide +kernel) rfl rfl ⟨Nat.le_of_ble_eq_true rfl, Nat.le_of_ble_eq_true rfl⟩ hK hP (MV_0 hX) (by decide) rfl rfl rfl hl rfl (Nat.le_of_ble_eq_true rfl) d_MO_fits_10 ⟨Nat.zero_le _, Nat.zero_le _⟩ hS (fun _ h => h) (fun v C H locs hp hP _ _ hS => ?_)
  obtain ⟨rfl, al, bv1, bw1, hJ, hX, hs2, hk3⟩ := hp
  have hs2 : bw1 74 = mSum on1 ot2 lea mos mwt mab mbe tld dts (2 ^ tld - 1) 4095 4095 (upto 6 (fun _ => 4095) yrs) := hs2.trans (JS.d hH hJ)
  refine lv_aload_n hx hb d_MO_fits_13 rfl (lv_at hl 0 rfl) ?_
  refine lv_bipush (v := nI 74) hx hb d_MO_fits_14 (by decide) ?_
  obtain ⟨bg9, wd9, hX, hB9⟩ := hX
  refine xc_V (n := 1) (g0 := 0) (As := [.int (nI 74)]) (rest := []) (st0 := _) hx hb hml hown hts (c_MO_isNothing l D ca b _ 74 hX (by omega) (hB9 74 (by omega)).1) km_MO_isNothing tb_788 tb_790 tps_41 tb_7 (by decide +kernel) rfl rfl ⟨Nat.le_of_ble_eq_true rfl, Nat.le_of_ble_eq_true rfl⟩ hK hP (MR_0 hX) (by decide) rfl rfl rfl hl rfl (Nat.le_of_ble_eq_true rfl) d_MO_fits_16 ⟨Nat.zero_le _, Nat.zero_le _⟩ hS (fun _ h => h) (fun v C H locs hp hP _ _ hS => ?_)
  obtain ⟨z4, rfl, hz4, hX⟩ := hp
  have hz4 := hz4.trans (bRep_z (hB9 74 (by omega)) (by rw [hs2]; exact mSum_l2 hH))
  rw [hs2] at hz4
  have hX : MV ca b C 0 dts tld 4095 4095 (2 ^ tld - 1) 0 (mbU (2 ^ tld - 1) on1 ot2 tld) mwt mab mbe on1 ot2 lea mos (upto 6 (fun _ => 4095) yrs) bw1 := ⟨_, _, hX, hB9⟩
  refine xz_ne (tgt := 26) hx hb d_MO_fits_19 (by decide) (tn31 _) (fun h19 => ?_) (fun h19 => ?_)
  · skip
    refine lv_iconst (v := nI 0) hx hb d_MO_fits_26 (by decide) ?_
    exact xw_zret hx hb hr hlocks nz0 hP hS ⟨false, rfl, ⟨fun q => (by cases q), fun q => absurd (hz4.mp (bt h19)) q⟩, hX.g⟩ d_MO_fits_27
  · skip
    refine lv_iconst (v := nI 1) hx hb d_MO_fits_22 (by decide) ?_
    refine lv_goto (tgt := 27) hx hb d_MO_fits_23 (by decide) ?_
    exact xw_zret hx hb hr hlocks nz1 hP hS ⟨true, rfl, ⟨fun _ q => (by rw [hz4.mpr q] at h19; cases h19), fun _ => rfl⟩, hX.g⟩ d_MO_fits_27

/-- how many members are told -/
def mct (on1 ot2 : Nat → Nat) : Nat → Nat := sm (fun k => if on1 k = ot2 k then 1 else 0)
theorem mct_le (on1 ot2 : Nat → Nat) (n : Nat) : mct on1 ot2 n ≤ n := by
  have h := sm_le (F := fun k => if on1 k = ot2 k then 1 else 0) (G := fun _ => 1) (n := n) (fun i _ => by split <;> omega)
  rw [sm_const] at h
  unfold mct; omega
set_option maxHeartbeats 4000000 in
set_option maxRecDepth 100000 in
/-- a count -/
theorem c_MO_count (l : Launch) (D : va_G) (ca : Nat → ClassId) (b : Nat) (C0 : Nat → va_E) {th : Nat} {dts : Nat} {tld : Nat} {fs9 : Nat} {ls9 : Nat} {cn9 : Nat} {lf9 : Nat} {mb9 : Nat} {mwt : Nat → Nat} {mab : Nat → Nat} {mbe : Nat → Nat} {on1 : Nat → Nat} {ot2 : Nat → Nat} {lea : Nat → Nat} {mos : Nat → Nat} {yrs : Nat → Nat} {bv : Nat → Nat} (x : Int32) (hX : MV ca b C0 th dts tld fs9 ls9 cn9 lf9 mb9 mwt mab mbe on1 ot2 lea mos yrs bv) (hH : MH on1 ot2 lea mos mwt mab mbe tld dts) : Met l y_MO_count (k_MO_count :: gw) ({ frames := 2, cells := 0, slots := 0, locals := 35 }) (xPc D ca b 11 C0 [.ref (b + 0), .int x]) (xQ D b 11 (fun r C1 => (∃ x9, x9 < 3 ∧ x = nI x9 ∧ r = some (.int (nI (if x9 = 0 then dts else if x9 = 1 then tld - mct on1 ot2 tld else mct on1 ot2 tld))) ∧ MG ca b C1 0 dts tld mwt mab mbe on1 ot2 lea mos) ∨ (¬ isN x 3 ∧ r = some (.int (nI 0)) ∧ MG ca b C1 1 dts tld mwt mab mbe on1 ot2 lea mos))) 0 0 (xr b 11) := by
  refine Met.ofW (cc := b_MO_count) (maxL := 4) (ret := (some FieldType.int)) (by decide) rfl ?_
  intro p e s m args below meth c s₁ B hml hv
  obtain ⟨hav, hP, hK⟩ := hv
  have hx := B.exec
  have hb := B.bytes
  have hr := B.returns
  have hts := atoms_spec (ws := k_MO_count :: gw) B.pre
  have hown : s.vm.findClass R_MO = some m.cls := findClass_of_methodNamed B.named
  have hlocks := B.notSynchronized
  have hA : ∀ k, k < 11 → xr b 11 (b + k) := xr_in
  have hS : va_S (xr b 11) s.heap s.heap [] := va_S.rf
  have hl := lv_entry ([.ref (b + 0), .int x]) (n := 4) (Nat.le_of_ble_eq_true rfl)
  rw [hav, lg_entry_eq]
  generalize (lg_sl ([.ref (b + 0), .int x]) ++ List.replicate (4 - (lg_sl ([.ref (b + 0), .int x])).length) Slot.unset).toArray = ls at hl ⊢
  have hl : lv_has ls 4 [(0, .ref (b + 0)), (1, .int x)] := hl
  rw [← hav]
  have hM6 := hH.M.1
  have hd6 := hH.D.1
  refine lv_aload_n hx hb d_MO_count_0 rfl (lv_at hl 0 rfl) ?_
  refine lv_iload_n hx hb d_MO_count_1 rfl (lv_at hl 1 rfl) ?_
  refine lv_iconst (v := nI 3) hx hb d_MO_count_2 (by decide) ?_
  obtain ⟨bg9, wd9, hX, hB9⟩ := hX
  refine xc_S (n := 2) (As := [.int x, .int (nI 3)]) (rest := [.ref (b + 0)]) (st0 := _) hx hb hml hown hts (c_MO_below l D ca b _ x 3 hX (by omega)) km_MO_below tb_670 tb_671 tb_7 (by decide +kernel) rfl rfl ⟨Nat.le_of_ble_eq_true rfl, Nat.le_of_ble_eq_true rfl⟩ hK hP rfl hl rfl (Nat.le_of_ble_eq_true rfl) d_MO_count_3 ⟨Nat.zero_le _, Nat.zero_le _⟩ hS (fun _ h => h) (fun v C H locs hp hP _ _ hS => ?_)
  obtain ⟨z1, rfl, hz1, hX⟩ := hp
  have hX : MV ca b C th dts tld fs9 ls9 cn9 lf9 mb9 mwt mab mbe on1 ot2 lea mos yrs bv := ⟨_, _, hX, hB9⟩
  refine lv_iconst (v := nI 1) hx hb d_MO_count_6 (by decide) ?_
  refine lv_iconst (v := nI 1) hx hb d_MO_count_7 (by decide) ?_
  obtain ⟨bg9, wd9, hX, hB9⟩ := hX
  refine xc_V (n := 3) (g0 := 0) (As := [.int (nI z1.toNat), .int (nI 1), .int (nI 1)]) (rest := []) (st0 := _) hx hb hml hown hts (c_MO_goes l D ca b _ z1 true true hX ) km_MO_goes tb_658 tb_660 tps_19 tb_7 (by decide +kernel) rfl rfl ⟨Nat.le_of_ble_eq_true rfl, Nat.le_of_ble_eq_true rfl⟩ hK hP (MR_0 hX) (by decide) rfl rfl rfl hl rfl (Nat.le_of_ble_eq_true rfl) d_MO_count_8 ⟨Nat.zero_le _, Nat.zero_le _⟩ hS (fun _ h => h) (fun v C H locs hp hP _ _ hS => ?_)
  obtain ⟨rfl, hX⟩ := hp
  have hX : MV ca b C (gth z1 true true) dts tld fs9 ls9 cn9 lf9 mb9 mwt mab mbe on1 ot2 lea mos yrs bv := ⟨_, _, hX, hB9⟩
  refine xz_ne (tgt := 16) hx hb d_MO_count_11 (by decide) (gz_b _) (fun h11 => ?_) (fun h11 => ?_)
  · skip
    obtain ⟨g1, -, -⟩ := gth_0 (gz_n h11)
    obtain ⟨x9, hx9, hxe⟩ := hz1.mp g1
    have hg0 := gz_n h11
    rw [hg0] at hX
    rw [hxe] at hl
    refine lv_iconst (v := nI 0) hx hb d_MO_count_16 (by decide) ?_
    refine lv_istore_n (lv' := [(2, .int (nI 0)), (0, .ref (b + 0)), (1, .int (nI x9))]) hx hb d_MO_count_17 rfl hl (by decide) rfl (fun ls hl => ?_)
    refine lv_iconst (v := nI 0) hx hb d_MO_count_18 (by decide) ?_
    refine lv_istore_n (lv' := [(3, .int (nI 0)), (2, .int (nI 0)), (0, .ref (b + 0)), (1, .int (nI x9))]) hx hb d_MO_count_19 rfl hl (by decide) rfl (fun ls hl => ?_)
    have loop20 : ∀ (r : Nat) (k : Nat) (n : Nat) (C : Nat → va_E) (H : Heap) (locs : List Loc) (ls : Array Slot), tld < k + r → k ≤ tld → n = mct on1 ot2 k → va_P D classes (wl b 11 C) H → va_S (xr b 11) s.heap H locs → MV ca b C 0 dts tld fs9 ls9 cn9 lf9 mb9 mwt mab mbe on1 ot2 lea mos yrs bv → lv_has ls 4 [(0, .ref (b + 0)), (1, .int (nI x9)), (2, .int (nI n)), (3, .int (nI k))] → W p l e (headSpec (k_MO_count :: gw) ({ frames := 2, cells := 0, slots := 0, locals := 35 })).room s m args below meth c H locs 0 0 (MQ below (xQ D b 11 (fun r C1 => (∃ x9, x9 < 3 ∧ x = nI x9 ∧ r = some (.int (nI (if x9 = 0 then dts else if x9 = 1 then tld - mct on1 ot2 tld else mct on1 ot2 tld))) ∧ MG ca b C1 0 dts tld mwt mab mbe on1 ot2 lea mos) ∨ (¬ isN x 3 ∧ r = some (.int (nI 0)) ∧ MG ca b C1 1 dts tld mwt mab mbe on1 ot2 lea mos))) args s 0 0 (xr b 11)) (F0 m 20 ls []) := by
      intro r
      induction r with
      | zero => intro k n C H locs ls hms hk hn; exact absurd hms (by omega)
      | succ r ih20 =>
        intro k n C H locs ls hms hk hn hP hS hX hl
        refine lv_iload_n hx hb d_MO_count_20 rfl (lv_at hl 3 rfl) ?_
        refine lv_aload_n hx hb d_MO_count_21 rfl (lv_at hl 0 rfl) ?_
        refine xw_get (v := .int (nI tld)) hx hb hts (fun w h => mw (uw_MO w h)) hown hK hP (MV_0 hX) (by decide) rfl 5 (by decide) (hts _ (mw tb_600)) (fun _ h => h) rfl d_MO_count_22 ?_
        refine xi_ge (tgt := 50) hx hb d_MO_count_25 (by decide) (by omega) (by omega) (fun h25 => ?_) (fun h25 => ?_)
        · skip
          have hle := mct_le on1 ot2 tld
          have hkt : k = tld := by omega
          rw [hkt] at hn
          subst hn
          refine lv_iload_n hx hb d_MO_count_50 rfl (lv_at hl 1 rfl) ?_
          refine xz_ne (tgt := 61) hx hb d_MO_count_51 (by decide) (by omega) (fun h51 => ?_) (fun h51 => ?_)
          · skip
            refine lv_iload_n hx hb d_MO_count_61 rfl (lv_at hl 1 rfl) ?_
            refine lv_iconst (v := nI 1) hx hb d_MO_count_62 (by decide) ?_
            refine xi_ne (tgt := 75) hx hb d_MO_count_63 (by decide) (by omega) (by omega) (fun h63 => ?_) (fun h63 => ?_)
            · skip
              refine lv_iload_n hx hb d_MO_count_75 rfl (lv_at hl 2 rfl) ?_
              exact xw_iret hx hb hr hlocks hP hS (Or.inl ⟨x9, hx9, hxe, by rw [if_neg h51, if_neg h63], hX.g⟩) d_MO_count_76
            · skip
              refine lv_aload_n hx hb d_MO_count_66 rfl (lv_at hl 0 rfl) ?_
              refine xw_get (v := .int (nI tld)) hx hb hts (fun w h => mw (uw_MO w h)) hown hK hP (MV_0 hX) (by decide) rfl 5 (by decide) (hts _ (mw tb_600)) (fun _ h => h) rfl d_MO_count_67 ?_
              refine lv_iload_n hx hb d_MO_count_70 rfl (lv_at hl 2 rfl) ?_
              refine lv_isub hx hb d_MO_count_71 ?_
              refine ti (nI (tld - (mct on1 ot2 tld))) (pk_sub (by omega)) ?_
              refine lv_goto (tgt := 76) hx hb d_MO_count_72 (by decide) ?_
              exact xw_iret hx hb hr hlocks hP hS (Or.inl ⟨x9, hx9, hxe, by rw [if_neg h51, if_pos h63], hX.g⟩) d_MO_count_76
          · skip
            refine lv_aload_n hx hb d_MO_count_54 rfl (lv_at hl 0 rfl) ?_
            refine xw_get (v := .int (nI dts)) hx hb hts (fun w h => mw (uw_MO w h)) hown hK hP (MV_0 hX) (by decide) rfl 1 (by decide) (hts _ (mw tb_596)) (fun _ h => h) rfl d_MO_count_55 ?_
            refine lv_goto (tgt := 76) hx hb d_MO_count_58 (by decide) ?_
            exact xw_iret hx hb hr hlocks hP hS (Or.inl ⟨x9, hx9, hxe, by rw [if_pos h51], hX.g⟩) d_MO_count_76
        · skip
          refine lv_aload_n hx hb d_MO_count_28 rfl (lv_at hl 0 rfl) ?_
          refine lv_iload_n hx hb d_MO_count_29 rfl (lv_at hl 3 rfl) ?_
          obtain ⟨bg9, wd9, hX, hB9⟩ := hX
          refine xc_V (n := 1) (g0 := 0) (As := [.int (nI k)]) (rest := []) (st0 := _) hx hb hml hown hts (c_MO_isMember l D ca b _ k hX (by omega) (hH.M.2 k (by omega)).1 (hH.M.2 k (by omega)).2.1) km_MO_isMember tb_689 tb_691 tps_23 tb_7 (by decide +kernel) rfl rfl ⟨Nat.le_of_ble_eq_true rfl, Nat.le_of_ble_eq_true rfl⟩ hK hP (MR_0 hX) (by decide) rfl rfl rfl hl rfl (Nat.le_of_ble_eq_true rfl) d_MO_count_30 ⟨Nat.zero_le _, Nat.zero_le _⟩ hS (fun _ h => h) (fun v C H locs hp hP _ _ hS => ?_)
          obtain ⟨z2, rfl, hz2, hX⟩ := hp
          have hX : MV ca b C 0 dts tld fs9 ls9 cn9 lf9 mb9 mwt mab mbe on1 ot2 lea mos yrs bv := ⟨_, _, hX, hB9⟩
          have j43 : ∀ (n1 : Nat), (n1 = mct on1 ot2 (k + 1)) → W p l e (headSpec (k_MO_count :: gw) ({ frames := 2, cells := 0, slots := 0, locals := 35 })).room s m args below meth c H locs 0 0 (MQ below (xQ D b 11 (fun r C1 => (∃ x9, x9 < 3 ∧ x = nI x9 ∧ r = some (.int (nI (if x9 = 0 then dts else if x9 = 1 then tld - mct on1 ot2 tld else mct on1 ot2 tld))) ∧ MG ca b C1 0 dts tld mwt mab mbe on1 ot2 lea mos) ∨ (¬ isN x 3 ∧ r = some (.int (nI 0)) ∧ MG ca b C1 1 dts tld mwt mab mbe on1 ot2 lea mos))) args s 0 0 (xr b 11)) (F0 m 43 ls [.int (nI n1)]) := by
            intro n1 hn1
            refine lv_istore_n (lv' := [(2, .int (nI n1)), (0, .ref (b + 0)), (1, .int (nI x9)), (3, .int (nI k))]) hx hb d_MO_count_43 rfl hl (by decide) rfl (fun ls hl => ?_)
            refine lv_iinc (v := nI (k + 1)) (lv' := [(3, .int (nI (k + 1))), (2, .int (nI n1)), (0, .ref (b + 0)), (1, .int (nI x9))]) hx hb d_MO_count_44 hl (k := 3) rfl (show nI k + Int32.ofInt 1 = nI (k + 1) from nI_add _ _) (by decide) rfl (fun ls hl => ?_)
            refine lv_goto (tgt := 20) hx hb d_MO_count_47 (by decide) ?_
            exact ih20 (k + 1) n1 _ _ _ _ (by omega) (by omega) hn1 hP hS hX (lv_sub hl [2, 3, 1, 0] rfl)
          refine xz_eq (tgt := 42) hx hb d_MO_count_33 (by decide) (tn31 _) (fun h33 => ?_) (fun h33 => ?_)
          · skip
            refine lv_iload_n hx hb d_MO_count_42 rfl (lv_at hl 2 rfl) ?_
            exact j43 n (by rw [hn]; unfold mct; rw [sm_s, if_neg (fun q => by have := hz2.mpr q; rw [bf h33] at this; cases this), Nat.add_zero])
          · skip
            refine lv_iload_n hx hb d_MO_count_36 rfl (lv_at hl 2 rfl) ?_
            refine lv_iconst (v := nI 1) hx hb d_MO_count_37 (by decide) ?_
            refine lv_iadd hx hb d_MO_count_38 ?_
            refine ti (nI (n + 1)) (nI_add _ _) ?_
            refine lv_goto (tgt := 43) hx hb d_MO_count_39 (by decide) ?_
            exact j43 (n + 1) (by rw [hn]; unfold mct; rw [sm_s, if_pos (hz2.mp (bt h33))])
    exact loop20 (tld + 1) 0 0 _ _ _ _ (by omega) (by omega) rfl hP hS hX (lv_sub hl [2, 3, 1, 0] rfl)
  · skip
    have hz0 : ¬ z1 = true := fun q => gz_z h11 (by rw [q]; rfl)
    rw [gth_1 hz0] at hX
    refine lv_iconst (v := nI 0) hx hb d_MO_count_14 (by decide) ?_
    exact xw_iret hx hb hr hlocks hP hS (Or.inr ⟨fun q => hz0 (hz1.mpr q), rfl, hX.g⟩) d_MO_count_15

