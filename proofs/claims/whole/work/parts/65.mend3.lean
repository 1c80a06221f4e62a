/-! The Model: narrow -/
theorem sm_mono {F : Nat → Nat} {m n : Nat} (h : m ≤ n) : sm F m ≤ sm F n := by
  induction n with
  | zero => rw [show m = 0 by omega]; exact Nat.le_refl _
  | succ n ih =>
    by_cases q : m = n + 1
    · rw [q]; exact Nat.le_refl _
    · rw [sm_s]; have := ih (by omega); omega
theorem sm_part {F : Nat → Nat} {f m : Nat} (h : f + m ≤ 12) : sm (fun j => F (f + j)) m ≤ sm F 12 := by
  have := sm_mono (F := F) h
  rw [sm_app] at this
  omega
theorem nrw_lt {F : Nat → Nat} {f m x T : Nat} (h : f + m ≤ 12) (hT : sm F 12 = T) (hT2 : T < 10 ^ 40) (hx : x ≤ 1000) : sm (fun j => F (f + j) * x) m < mB ^ 12 ∧ T * x < mB ^ 12 := by
  have h1 : T * x ≤ 10 ^ 40 * 1000 := Nat.mul_le_mul (by omega) hx
  have h2 := Nat.mul_le_mul_right x (sm_part (F := F) h)
  rw [hT] at h2
  rw [sm_mulr]
  have h3 : (10 : Nat) ^ 40 * 1000 < mB ^ 12 := by decide
  exact ⟨by omega, by omega⟩
set_option maxHeartbeats 4000000 in
set_option maxRecDepth 100000 in
/-- the shortest stretch of years -/
theorem c_MO_narrow (l : Launch) (D : va_G) (ca : Nat → ClassId) (b : Nat) (C0 : Nat → va_E) {th : Nat} {dts : Nat} {tld : Nat} {fs9 : Nat} {ls9 : Nat} {cn9 : Nat} {lf9 : Nat} {mb9 : Nat} {mwt : Nat → Nat} {mab : Nat → Nat} {mbe : Nat → Nat} {on1 : Nat → Nat} {ot2 : Nat → Nat} {lea : Nat → Nat} {mos : Nat → Nat} {yrs : Nat → Nat} {bv : Nat → Nat} (d a x : Int32) (hX : MV ca b C0 th dts tld fs9 ls9 cn9 lf9 mb9 mwt mab mbe on1 ot2 lea mos yrs bv) (hH : MH on1 ot2 lea mos mwt mab mbe tld dts) : Met l y_MO_narrow (k_MO_narrow :: gw) ({ frames := 5, cells := 0, slots := 0, locals := 112 }) (xPc D ca b 11 C0 [.ref (b + 0), .int d, .int a, .int x]) (xQ D b 11 (fun r C1 => (∃ d9 a9 b9, d9 < dts ∧ 1 ≤ a9 ∧ a9 ≤ b9 ∧ b9 ≤ 1000 ∧ d = nI d9 ∧ a = nI a9 ∧ x = nI b9 ∧ ((mSum on1 ot2 lea mos mwt mab mbe tld dts (2 ^ tld - 1) 4095 4095 (fun _ => 4095) = 0 ∧ r = some (.int (-1))) ∨ (mSum on1 ot2 lea mos mwt mab mbe tld dts (2 ^ tld - 1) 4095 4095 (fun _ => 4095) ≠ 0 ∧ ∃ z, r = some (.int (eo z)) ∧ nrwP (fun f n => mSum on1 ot2 lea mos mwt mab mbe tld dts (2 ^ tld - 1) 4095 4095 (fun _ => 4095) * a9 ≤ sm (fun j => mSum on1 ot2 lea mos mwt mab mbe tld dts (2 ^ tld - 1) 4095 4095 (va_up (fun _ => 4095) d9 (2 ^ (f + j))) * b9) (n + 1)) z)) ∧ MG ca b C1 0 dts tld mwt mab mbe on1 ot2 lea mos) ∨ (∃ t, ((¬ isN d dts ∧ t = 1) ∨ (isN d dts ∧ ¬ (∃ a9 b9, 1 ≤ a9 ∧ a9 ≤ b9 ∧ b9 ≤ 1000 ∧ a = nI a9 ∧ x = nI b9) ∧ t = 2)) ∧ r = some (.int (nI 0)) ∧ MG ca b C1 t dts tld mwt mab mbe on1 ot2 lea mos))) 0 0 (xr b 11) := by
  refine Met.ofW (cc := b_MO_narrow) (maxL := 7) (ret := (some FieldType.int)) (by decide) rfl ?_
  intro p e s m args below meth c s₁ B hml hv
  obtain ⟨hav, hP, hK⟩ := hv
  have hx := B.exec
  have hb := B.bytes
  have hr := B.returns
  have hts := atoms_spec (ws := k_MO_narrow :: gw) B.pre
  have hown : s.vm.findClass R_MO = some m.cls := findClass_of_methodNamed B.named
  have hlocks := B.notSynchronized
  have hA : ∀ k, k < 11 → xr b 11 (b + k) := xr_in
  have hS : va_S (xr b 11) s.heap s.heap [] := va_S.rf
  have hl := lv_entry ([.ref (b + 0), .int d, .int a, .int x]) (n := 7) (Nat.le_of_ble_eq_true rfl)
  rw [hav, lg_entry_eq]
  generalize (lg_sl ([.ref (b + 0), .int d, .int a, .int x]) ++ List.replicate (7 - (lg_sl ([.ref (b + 0), .int d, .int a, .int x])).length) Slot.unset).toArray = ls at hl ⊢
  have hl : lv_has ls 7 [(0, .ref (b + 0)), (1, .int d), (2, .int a), (3, .int x)] := hl
  rw [← hav]
  have hM6 := hH.M.1
  have hd6 := hH.D.1
  have h2p : 0 < 2 ^ tld := Nat.pow_pos (by decide)
  refine lv_aload_n hx hb d_MO_narrow_0 rfl (lv_at hl 0 rfl) ?_
  refine lv_aload_n hx hb d_MO_narrow_1 rfl (lv_at hl 0 rfl) ?_
  refine lv_iload_n hx hb d_MO_narrow_2 rfl (lv_at hl 1 rfl) ?_
  obtain ⟨bg9, wd9, hX, hB9⟩ := hX
  refine xc_V (n := 1) (g0 := 0) (As := [.int d]) (rest := [.ref (b + 0)]) (st0 := _) hx hb hml hown hts (c_MO_isDate l D ca b _ d hX (by omega)) km_MO_isDate tb_666 tb_668 tps_20 tb_7 (by decide +kernel) rfl rfl ⟨Nat.le_of_ble_eq_true rfl, Nat.le_of_ble_eq_true rfl⟩ hK hP (MR_0 hX) (by decide) rfl rfl rfl hl rfl (Nat.le_of_ble_eq_true rfl) d_MO_narrow_3 ⟨Nat.zero_le _, Nat.zero_le _⟩ hS (fun _ h => h) (fun v C H locs hp hP _ _ hS => ?_)
  obtain ⟨z1, rfl, hz1, hX⟩ := hp
  have hX : MV ca b C th dts tld fs9 ls9 cn9 lf9 mb9 mwt mab mbe on1 ot2 lea mos yrs bv := ⟨_, _, hX, hB9⟩
  have j28 : ∀ (zz : Bool), (zz = true ↔ ∃ a9 b9, 1 ≤ a9 ∧ a9 ≤ b9 ∧ b9 ≤ 1000 ∧ a = nI a9 ∧ x = nI b9) → W p l e (headSpec (k_MO_narrow :: gw) ({ frames := 5, cells := 0, slots := 0, locals := 112 })).room s m args below meth c H locs 0 0 (MQ below (xQ D b 11 (fun r C1 => (∃ d9 a9 b9, d9 < dts ∧ 1 ≤ a9 ∧ a9 ≤ b9 ∧ b9 ≤ 1000 ∧ d = nI d9 ∧ a = nI a9 ∧ x = nI b9 ∧ ((mSum on1 ot2 lea mos mwt mab mbe tld dts (2 ^ tld - 1) 4095 4095 (fun _ => 4095) = 0 ∧ r = some (.int (-1))) ∨ (mSum on1 ot2 lea mos mwt mab mbe tld dts (2 ^ tld - 1) 4095 4095 (fun _ => 4095) ≠ 0 ∧ ∃ z, r = some (.int (eo z)) ∧ nrwP (fun f n => mSum on1 ot2 lea mos mwt mab mbe tld dts (2 ^ tld - 1) 4095 4095 (fun _ => 4095) * a9 ≤ sm (fun j => mSum on1 ot2 lea mos mwt mab mbe tld dts (2 ^ tld - 1) 4095 4095 (va_up (fun _ => 4095) d9 (2 ^ (f + j))) * b9) (n + 1)) z)) ∧ MG ca b C1 0 dts tld mwt mab mbe on1 ot2 lea mos) ∨ (∃ t, ((¬ isN d dts ∧ t = 1) ∨ (isN d dts ∧ ¬ (∃ a9 b9, 1 ≤ a9 ∧ a9 ≤ b9 ∧ b9 ≤ 1000 ∧ a = nI a9 ∧ x = nI b9) ∧ t = 2)) ∧ r = some (.int (nI 0)) ∧ MG ca b C1 t dts tld mwt mab mbe on1 ot2 lea mos))) args s 0 0 (xr b 11)) (F0 m 28 ls [.int (nI zz.toNat), .int (nI z1.toNat), .ref (b + 0)]) := by
    intro zz hzz
    refine lv_iconst (v := nI 1) hx hb d_MO_narrow_28 (by decide) ?_
    obtain ⟨bg9, wd9, hX, hB9⟩ := hX
    refine xc_V (n := 3) (g0 := 0) (As := [.int (nI z1.toNat), .int (nI zz.toNat), .int (nI 1)]) (rest := []) (st0 := _) hx hb hml hown hts (c_MO_goes l D ca b _ z1 zz true hX ) km_MO_goes tb_658 tb_660 tps_19 tb_7 (by decide +kernel) rfl rfl ⟨Nat.le_of_ble_eq_true rfl, Nat.le_of_ble_eq_true rfl⟩ hK hP (MR_0 hX) (by decide) rfl rfl rfl hl rfl (Nat.le_of_ble_eq_true rfl) d_MO_narrow_29 ⟨Nat.zero_le _, Nat.zero_le _⟩ hS (fun _ h => h) (fun v C H locs hp hP _ _ hS => ?_)
    obtain ⟨rfl, hX⟩ := hp
    have hX : MV ca b C (gth z1 zz true) dts tld fs9 ls9 cn9 lf9 mb9 mwt mab mbe on1 ot2 lea mos yrs bv := ⟨_, _, hX, hB9⟩
    refine xz_ne (tgt := 37) hx hb d_MO_narrow_32 (by decide) (gz_b _) (fun h32 => ?_) (fun h32 => ?_)
    · skip
      obtain ⟨g1, g2, -⟩ := gth_0 (gz_n h32)
      obtain ⟨d9, hd9, hde⟩ := hz1.mp g1
      obtain ⟨a9, b9, k1, k2, k3, hae, hbe⟩ := hzz.mp g2
      have hg0 := gz_n h32
      rw [hg0] at hX
      rw [hde, hae, hbe] at hl
      have hT4 : mSum on1 ot2 lea mos mwt mab mbe tld dts (2 ^ tld - 1) 4095 4095 (fun _ => 4095) < 10 ^ 40 := mSum_lt hH
      have hyT : sm (fun y => mSum on1 ot2 lea mos mwt mab mbe tld dts (2 ^ tld - 1) 4095 4095 (va_up (fun _ => 4095) d9 (2 ^ y))) 12 = mSum on1 ot2 lea mos mwt mab mbe tld dts (2 ^ tld - 1) 4095 4095 (fun _ => 4095) := mSum_years hd9
      refine lv_aload_n hx hb d_MO_narrow_37 rfl (lv_at hl 0 rfl) ?_
      obtain ⟨bg9, wd9, hX, hB9⟩ := hX
      refine xc_V (n := 0) (g0 := 0) (As := []) (rest := []) (st0 := _) hx hb hml hown hts (c_MO_open l D ca b _  hX (by omega)) km_MO_open tb_708 tb_710 tps_25 tb_7 (by decide +kernel) rfl rfl ⟨Nat.le_of_ble_eq_true rfl, Nat.le_of_ble_eq_true rfl⟩ hK hP (MR_0 hX) (by decide) rfl rfl rfl hl rfl (Nat.le_of_ble_eq_true rfl) d_MO_narrow_38 ⟨Nat.zero_le _, Nat.zero_le _⟩ hS (fun _ h => h) (fun v C H locs hp hP _ _ hS => ?_)
      obtain ⟨rfl, hX⟩ := hp
      have hX : MV ca b C 0 dts tld 4095 4095 (2 ^ tld - 1) lf9 mb9 mwt mab mbe on1 ot2 lea mos (upto 6 (fun _ => 4095) yrs) bv := ⟨_, _, hX, hB9⟩
      refine lv_aload_n hx hb d_MO_narrow_41 rfl (lv_at hl 0 rfl) ?_
      refine xc_V (n := 0) (g0 := 0) (As := []) (rest := []) (st0 := _) hx hb hml hown hts (c_MO_sum l D ca b _ (JS on1 ot2 lea mos mwt mab mbe tld dts (2 ^ tld - 1) 4095 4095 (upto 6 (fun _ => 4095) yrs) bv) hX hH.M hH.D yr_lt (cnb hM6) (by decide) (by decide) (JS.z hH (2 ^ tld - 1) 4095 4095 (upto 6 (fun _ => 4095) yrs) bv) (JS.s hH (2 ^ tld - 1) 4095 4095 (upto 6 (fun _ => 4095) yrs) bv) (JS.l hH (2 ^ tld - 1) 4095 4095 (upto 6 (fun _ => 4095) yrs) bv) (JS.r hH (2 ^ tld - 1) 4095 4095 (upto 6 (fun _ => 4095) yrs) bv) (JS.p (2 ^ tld - 1) 4095 4095 (upto 6 (fun _ => 4095) yrs) bv)) km_MO_sum tb_712 tb_714 tps_26 tb_7 (by decide +kernel) rfl rfl ⟨Nat.le_of_ble_eq_true rfl, Nat.le_of_ble_eq_true rfl⟩ hK hP (MV_0 hX) (by decide) rfl rfl rfl hl rfl (Nat.le_of_ble_eq_true rfl) d_MO_narrow_42 ⟨Nat.zero_le _, Nat.zero_le _⟩ hS (fun _ h => h) (fun v C H locs hp hP _ _ hS => ?_)
      obtain ⟨rfl, al, bv1, bw2, hJ, hX, hs3, hk4⟩ := hp
      have hs3 : bw2 74 = mSum on1 ot2 lea mos mwt mab mbe tld dts (2 ^ tld - 1) 4095 4095 (upto 6 (fun _ => 4095) yrs) := hs3.trans (JS.d hH hJ)
      refine lv_aload_n hx hb d_MO_narrow_45 rfl (lv_at hl 0 rfl) ?_
      refine lv_bipush (v := nI 74) hx hb d_MO_narrow_46 (by decide) ?_
      obtain ⟨bg9, wd9, hX, hB9⟩ := hX
      refine xc_V (n := 1) (g0 := 0) (As := [.int (nI 74)]) (rest := []) (st0 := _) hx hb hml hown hts (c_MO_isNothing l D ca b _ 74 hX (by omega) (hB9 74 (by omega)).1) km_MO_isNothing tb_788 tb_790 tps_41 tb_7 (by decide +kernel) rfl rfl ⟨Nat.le_of_ble_eq_true rfl, Nat.le_of_ble_eq_true rfl⟩ hK hP (MR_0 hX) (by decide) rfl rfl rfl hl rfl (Nat.le_of_ble_eq_true rfl) d_MO_narrow_48 ⟨Nat.zero_le _, Nat.zero_le _⟩ hS (fun _ h => h) (fun v C H locs hp hP _ _ hS => ?_)
      obtain ⟨z5, rfl, hz5, hX⟩ := hp
      have hz5 := hz5.trans (bRep_z (hB9 74 (by omega)) (by rw [hs3]; exact mSum_l2 hH))
      rw [hs3] at hz5
      have hX : MV ca b C 0 dts tld 4095 4095 (2 ^ tld - 1) 0 (mbU (2 ^ tld - 1) on1 ot2 tld) mwt mab mbe on1 ot2 lea mos (upto 6 (fun _ => 4095) yrs) bw2 := ⟨_, _, hX, hB9⟩
      refine xz_eq (tgt := 56) hx hb d_MO_narrow_51 (by decide) (tn31 _) (fun h51 => ?_) (fun h51 => ?_)
      · skip
        rw [mSum_o hd6] at hz5 hs3
        have hT0 : mSum on1 ot2 lea mos mwt mab mbe tld dts (2 ^ tld - 1) 4095 4095 (fun _ => 4095) ≠ 0 := fun q => by have := hz5.mpr q; rw [bf h51] at this; cases this
        refine lv_aload_n hx hb d_MO_narrow_56 rfl (lv_at hl 0 rfl) ?_
        refine lv_bipush (v := nI 75) hx hb d_MO_narrow_57 (by decide) ?_
        refine lv_bipush (v := nI 74) hx hb d_MO_narrow_59 (by decide) ?_
        obtain ⟨bg9, wd9, hX, hB9⟩ := hX
        refine xc_V (n := 2) (g0 := 0) (As := [.int (nI 75), .int (nI 74)]) (rest := []) (st0 := _) hx hb hml hown hts (c_MO_copy l D ca b _ 75 74 hX (by omega) (by omega) (by omega) (hB9 74 (by omega)).1) km_MO_copy tb_760 tb_762 tps_38 tb_7 (by decide +kernel) rfl rfl ⟨Nat.le_of_ble_eq_true rfl, Nat.le_of_ble_eq_true rfl⟩ hK hP (MR_0 hX) (by decide) rfl rfl rfl hl rfl (Nat.le_of_ble_eq_true rfl) d_MO_narrow_61 ⟨Nat.zero_le _, Nat.zero_le _⟩ hS (fun _ h => h) (fun v C H locs hp hP _ _ hS => ?_)
        obtain ⟨rfl, big1, hX, hb1, hf1⟩ := hp
        have hX : MV ca b C 0 dts tld 4095 4095 (2 ^ tld - 1) 0 (mbU (2 ^ tld - 1) on1 ot2 tld) mwt mab mbe on1 ot2 lea mos (upto 6 (fun _ => 4095) yrs) (va_up bw2 75 (bw2 74)) := ⟨_, _, hX, bvCp hB9 (by omega) hb1 hf1⟩
        refine lv_aload_n hx hb d_MO_narrow_64 rfl (lv_at hl 0 rfl) ?_
        refine lv_bipush (v := nI 76) hx hb d_MO_narrow_65 (by decide) ?_
        refine lv_iload_n hx hb d_MO_narrow_67 rfl (lv_at hl 2 rfl) ?_
        obtain ⟨bg9, wd9, hX, hB9⟩ := hX
        refine xc_V (n := 2) (g0 := 0) (As := [.int (nI 76), .int (nI a9)]) (rest := []) (st0 := _) hx hb hml hown hts (c_MO_set l D ca b _ 76 a9 hX (by omega) (by omega)) km_MO_set tb_724 tb_726 tps_29 tb_7 (by decide +kernel) rfl rfl ⟨Nat.le_of_ble_eq_true rfl, Nat.le_of_ble_eq_true rfl⟩ hK hP (MR_0 hX) (by decide) rfl rfl rfl hl rfl (Nat.le_of_ble_eq_true rfl) d_MO_narrow_68 ⟨Nat.zero_le _, Nat.zero_le _⟩ hS (fun _ h => h) (fun v C H locs hp hP _ _ hS => ?_)
        obtain ⟨rfl, big1, hX, hb1, hf1⟩ := hp
        have hX : MV ca b C 0 dts tld 4095 4095 (2 ^ tld - 1) 0 (mbU (2 ^ tld - 1) on1 ot2 tld) mwt mab mbe on1 ot2 lea mos (upto 6 (fun _ => 4095) yrs) (va_up (va_up bw2 75 (bw2 74)) 76 a9) := ⟨_, _, hX, bvUp hB9 hb1 hf1⟩
        refine lv_aload_n hx hb d_MO_narrow_71 rfl (lv_at hl 0 rfl) ?_
        refine lv_bipush (v := nI 75) hx hb d_MO_narrow_72 (by decide) ?_
        refine lv_bipush (v := nI 76) hx hb d_MO_narrow_74 (by decide) ?_
        obtain ⟨bg9, wd9, hX, hB9⟩ := hX
        refine xc_V (n := 2) (g0 := 0) (As := [.int (nI 75), .int (nI 76)]) (rest := []) (st0 := _) hx hb hml hown hts (c_MO_times l D ca b _ 75 76 _ _ hX (by omega) (by omega) (by omega) (hB9 75 (by omega)) (hB9 76 (by omega))) km_MO_times tb_752 tb_754 tps_36 tb_7 (by decide +kernel) rfl rfl ⟨Nat.le_of_ble_eq_true rfl, Nat.le_of_ble_eq_true rfl⟩ hK hP (MR_0 hX) (by decide) rfl rfl rfl hl rfl (Nat.le_of_ble_eq_true rfl) d_MO_narrow_76 ⟨Nat.zero_le _, Nat.zero_le _⟩ hS (fun _ h => h) (fun v C H locs hp hP _ _ hS => ?_)
        obtain ⟨rfl, big1, wid1, hX, hb1, hf1⟩ := hp
        have hX : MV ca b C 0 dts tld 4095 4095 (2 ^ tld - 1) 0 (mbU (2 ^ tld - 1) on1 ot2 tld) mwt mab mbe on1 ot2 lea mos (upto 6 (fun _ => 4095) yrs) (va_up (va_up (va_up bw2 75 (bw2 74)) 76 a9) 75 ((va_up (va_up bw2 75 (bw2 74)) 76 a9) 75 * (va_up (va_up bw2 75 (bw2 74)) 76 a9) 76)) := ⟨_, _, hX, bvUp hB9 hb1 hf1⟩
        refine lv_aload_n hx hb d_MO_narrow_79 rfl (lv_at hl 0 rfl) ?_
        refine lv_bipush (v := nI 76) hx hb d_MO_narrow_80 (by decide) ?_
        refine lv_iload_n hx hb d_MO_narrow_82 rfl (lv_at hl 3 rfl) ?_
        obtain ⟨bg9, wd9, hX, hB9⟩ := hX
        refine xc_V (n := 2) (g0 := 0) (As := [.int (nI 76), .int (nI b9)]) (rest := []) (st0 := _) hx hb hml hown hts (c_MO_set l D ca b _ 76 b9 hX (by omega) (by omega)) km_MO_set tb_724 tb_726 tps_29 tb_7 (by decide +kernel) rfl rfl ⟨Nat.le_of_ble_eq_true rfl, Nat.le_of_ble_eq_true rfl⟩ hK hP (MR_0 hX) (by decide) rfl rfl rfl hl rfl (Nat.le_of_ble_eq_true rfl) d_MO_narrow_83 ⟨Nat.zero_le _, Nat.zero_le _⟩ hS (fun _ h => h) (fun v C H locs hp hP _ _ hS => ?_)
        obtain ⟨rfl, big1, hX, hb1, hf1⟩ := hp
        have hX : MV ca b C 0 dts tld 4095 4095 (2 ^ tld - 1) 0 (mbU (2 ^ tld - 1) on1 ot2 tld) mwt mab mbe on1 ot2 lea mos (upto 6 (fun _ => 4095) yrs) (va_up (va_up (va_up (va_up bw2 75 (bw2 74)) 76 a9) 75 ((va_up (va_up bw2 75 (bw2 74)) 76 a9) 75 * (va_up (va_up bw2 75 (bw2 74)) 76 a9) 76)) 76 b9) := ⟨_, _, hX, bvUp hB9 hb1 hf1⟩
        refine lv_iconst (v := nI 0) hx hb d_MO_narrow_86 (by decide) ?_
        refine lv_istore (lv' := [(4, .int (nI 0)), (0, .ref (b + 0)), (1, .int (nI d9)), (2, .int (nI a9)), (3, .int (nI b9))]) hx hb d_MO_narrow_87 hl (by decide) rfl (fun ls hl => ?_)
        have loop89 : ∀ (r : Nat) (y : Nat) (fs0 : Nat) (ls0 : Nat) (cn0 : Nat) (lf0 : Nat) (mb0 : Nat) (yr0 : Nat → Nat) (bv0 : Nat → Nat) (C : Nat → va_E) (H : Heap) (locs : List Loc) (ls : Array Slot), 12 < y + r → y ≤ 12 → bv0 75 = mSum on1 ot2 lea mos mwt mab mbe tld dts (2 ^ tld - 1) 4095 4095 (fun _ => 4095) * a9 → bv0 76 = b9 → (∀ j, j < y → bv0 (79 + j) = mSum on1 ot2 lea mos mwt mab mbe tld dts (2 ^ tld - 1) 4095 4095 (va_up (fun _ => 4095) d9 (2 ^ j)) * b9) → va_P D classes (wl b 11 C) H → va_S (xr b 11) s.heap H locs → MV ca b C 0 dts tld fs0 ls0 cn0 lf0 mb0 mwt mab mbe on1 ot2 lea mos yr0 bv0 → lv_has ls 7 [(0, .ref (b + 0)), (1, .int (nI d9)), (2, .int (nI a9)), (3, .int (nI b9)), (4, .int (nI y))] → W p l e (headSpec (k_MO_narrow :: gw) ({ frames := 5, cells := 0, slots := 0, locals := 112 })).room s m args below meth c H locs 0 0 (MQ below (xQ D b 11 (fun r C1 => (∃ d9 a9 b9, d9 < dts ∧ 1 ≤ a9 ∧ a9 ≤ b9 ∧ b9 ≤ 1000 ∧ d = nI d9 ∧ a = nI a9 ∧ x = nI b9 ∧ ((mSum on1 ot2 lea mos mwt mab mbe tld dts (2 ^ tld - 1) 4095 4095 (fun _ => 4095) = 0 ∧ r = some (.int (-1))) ∨ (mSum on1 ot2 lea mos mwt mab mbe tld dts (2 ^ tld - 1) 4095 4095 (fun _ => 4095) ≠ 0 ∧ ∃ z, r = some (.int (eo z)) ∧ nrwP (fun f n => mSum on1 ot2 lea mos mwt mab mbe tld dts (2 ^ tld - 1) 4095 4095 (fun _ => 4095) * a9 ≤ sm (fun j => mSum on1 ot2 lea mos mwt mab mbe tld dts (2 ^ tld - 1) 4095 4095 (va_up (fun _ => 4095) d9 (2 ^ (f + j))) * b9) (n + 1)) z)) ∧ MG ca b C1 0 dts tld mwt mab mbe on1 ot2 lea mos) ∨ (∃ t, ((¬ isN d dts ∧ t = 1) ∨ (isN d dts ∧ ¬ (∃ a9 b9, 1 ≤ a9 ∧ a9 ≤ b9 ∧ b9 ≤ 1000 ∧ a = nI a9 ∧ x = nI b9) ∧ t = 2)) ∧ r = some (.int (nI 0)) ∧ MG ca b C1 t dts tld mwt mab mbe on1 ot2 lea mos))) args s 0 0 (xr b 11)) (F0 m 89 ls []) := by
          intro r
          induction r with
          | zero => intro y fs0 ls0 cn0 lf0 mb0 yr0 bv0 C H locs ls hms hy h75 h76 h79; exact absurd hms (by omega)
          | succ r ih89 =>
            intro y fs0 ls0 cn0 lf0 mb0 yr0 bv0 C H locs ls hms hy h75 h76 h79 hP hS hX hl
            refine lv_iload hx hb d_MO_narrow_89 (lv_at hl 4 rfl) ?_
            refine lv_bipush (v := nI 12) hx hb d_MO_narrow_91 (by decide) ?_
            refine xi_ge (tgt := 139) hx hb d_MO_narrow_93 (by decide) (by omega) (by omega) (fun h93 => ?_) (fun h93 => ?_)
            · skip
              have hy12 : y = 12 := by omega
              rw [hy12] at h79
              refine lv_iconst (v := nI 0) hx hb d_MO_narrow_139 (by decide) ?_
              refine lv_istore (lv' := [(4, .int (nI 0)), (0, .ref (b + 0)), (1, .int (nI d9)), (2, .int (nI a9)), (3, .int (nI b9))]) hx hb d_MO_narrow_140 hl (by decide) rfl (fun ls hl => ?_)
              have loop142 : ∀ (r : Nat) (n : Nat) (bv2 : Nat → Nat) (C : Nat → va_E) (H : Heap) (locs : List Loc) (ls : Array Slot), 12 < n + r → n ≤ 12 → (∀ x, x ≠ 78 → bv2 x = bv0 x) → (∀ m e, m < n → e + m < 12 → ¬ mSum on1 ot2 lea mos mwt mab mbe tld dts (2 ^ tld - 1) 4095 4095 (fun _ => 4095) * a9 ≤ sm (fun j => mSum on1 ot2 lea mos mwt mab mbe tld dts (2 ^ tld - 1) 4095 4095 (va_up (fun _ => 4095) d9 (2 ^ (e + j))) * b9) (m + 1)) → va_P D classes (wl b 11 C) H → va_S (xr b 11) s.heap H locs → MV ca b C 0 dts tld fs0 ls0 cn0 lf0 mb0 mwt mab mbe on1 ot2 lea mos yr0 bv2 → lv_has ls 7 [(0, .ref (b + 0)), (4, .int (nI n))] → W p l e (headSpec (k_MO_narrow :: gw) ({ frames := 5, cells := 0, slots := 0, locals := 112 })).room s m args below meth c H locs 0 0 (MQ below (xQ D b 11 (fun r C1 => (∃ d9 a9 b9, d9 < dts ∧ 1 ≤ a9 ∧ a9 ≤ b9 ∧ b9 ≤ 1000 ∧ d = nI d9 ∧ a = nI a9 ∧ x = nI b9 ∧ ((mSum on1 ot2 lea mos mwt mab mbe tld dts (2 ^ tld - 1) 4095 4095 (fun _ => 4095) = 0 ∧ r = some (.int (-1))) ∨ (mSum on1 ot2 lea mos mwt mab mbe tld dts (2 ^ tld - 1) 4095 4095 (fun _ => 4095) ≠ 0 ∧ ∃ z, r = some (.int (eo z)) ∧ nrwP (fun f n => mSum on1 ot2 lea mos mwt mab mbe tld dts (2 ^ tld - 1) 4095 4095 (fun _ => 4095) * a9 ≤ sm (fun j => mSum on1 ot2 lea mos mwt mab mbe tld dts (2 ^ tld - 1) 4095 4095 (va_up (fun _ => 4095) d9 (2 ^ (f + j))) * b9) (n + 1)) z)) ∧ MG ca b C1 0 dts tld mwt mab mbe on1 ot2 lea mos) ∨ (∃ t, ((¬ isN d dts ∧ t = 1) ∨ (isN d dts ∧ ¬ (∃ a9 b9, 1 ≤ a9 ∧ a9 ≤ b9 ∧ b9 ≤ 1000 ∧ a = nI a9 ∧ x = nI b9) ∧ t = 2)) ∧ r = some (.int (nI 0)) ∧ MG ca b C1 t dts tld mwt mab mbe on1 ot2 lea mos))) args s 0 0 (xr b 11)) (F0 m 142 ls []) := by
                intro r
                induction r with
                | zero => intro n bv2 C H locs ls hms hn hb2 hG; exact absurd hms (by omega)
                | succ r ih142 =>
                  intro n bv2 C H locs ls hms hn hb2 hG hP hS hX hl
                  refine lv_iload hx hb d_MO_narrow_142 (lv_at hl 1 rfl) ?_
                  refine lv_bipush (v := nI 12) hx hb d_MO_narrow_144 (by decide) ?_
                  refine xi_ge (tgt := 235) hx hb d_MO_narrow_146 (by decide) (by omega) (by omega) (fun h146 => ?_) (fun h146 => ?_)
                  · skip
                    refine lv_iconst (v := (-1)) hx hb d_MO_narrow_235 (by decide) ?_
                    exact xw_iret hx hb hr hlocks hP hS (Or.inl ⟨d9, a9, b9, hd9, k1, k2, k3, hde, hae, hbe, Or.inr ⟨hT0, none, rfl, Or.inr ⟨rfl, fun e m hem => hG m e (by omega) hem⟩⟩, hX.g⟩) d_MO_narrow_236
                  · skip
                    refine lv_iconst (v := nI 0) hx hb d_MO_narrow_149 (by decide) ?_
                    refine lv_istore (lv' := [(5, .int (nI 0)), (0, .ref (b + 0)), (4, .int (nI n))]) hx hb d_MO_narrow_150 hl (by decide) rfl (fun ls hl => ?_)
                    have loop152 : ∀ (r : Nat) (f : Nat) (bv3 : Nat → Nat) (C : Nat → va_E) (H : Heap) (locs : List Loc) (ls : Array Slot), 12 < f + n + r → f + n ≤ 12 → (∀ x, x ≠ 78 → bv3 x = bv0 x) → (∀ e, e < f → ¬ mSum on1 ot2 lea mos mwt mab mbe tld dts (2 ^ tld - 1) 4095 4095 (fun _ => 4095) * a9 ≤ sm (fun j => mSum on1 ot2 lea mos mwt mab mbe tld dts (2 ^ tld - 1) 4095 4095 (va_up (fun _ => 4095) d9 (2 ^ (e + j))) * b9) (n + 1)) → va_P D classes (wl b 11 C) H → va_S (xr b 11) s.heap H locs → MV ca b C 0 dts tld fs0 ls0 cn0 lf0 mb0 mwt mab mbe on1 ot2 lea mos yr0 bv3 → lv_has ls 7 [(0, .ref (b + 0)), (4, .int (nI n)), (5, .int (nI f))] → W p l e (headSpec (k_MO_narrow :: gw) ({ frames := 5, cells := 0, slots := 0, locals := 112 })).room s m args below meth c H locs 0 0 (MQ below (xQ D b 11 (fun r C1 => (∃ d9 a9 b9, d9 < dts ∧ 1 ≤ a9 ∧ a9 ≤ b9 ∧ b9 ≤ 1000 ∧ d = nI d9 ∧ a = nI a9 ∧ x = nI b9 ∧ ((mSum on1 ot2 lea mos mwt mab mbe tld dts (2 ^ tld - 1) 4095 4095 (fun _ => 4095) = 0 ∧ r = some (.int (-1))) ∨ (mSum on1 ot2 lea mos mwt mab mbe tld dts (2 ^ tld - 1) 4095 4095 (fun _ => 4095) ≠ 0 ∧ ∃ z, r = some (.int (eo z)) ∧ nrwP (fun f n => mSum on1 ot2 lea mos mwt mab mbe tld dts (2 ^ tld - 1) 4095 4095 (fun _ => 4095) * a9 ≤ sm (fun j => mSum on1 ot2 lea mos mwt mab mbe tld dts (2 ^ tld - 1) 4095 4095 (va_up (fun _ => 4095) d9 (2 ^ (f + j))) * b9) (n + 1)) z)) ∧ MG ca b C1 0 dts tld mwt mab mbe on1 ot2 lea mos) ∨ (∃ t, ((¬ isN d dts ∧ t = 1) ∨ (isN d dts ∧ ¬ (∃ a9 b9, 1 ≤ a9 ∧ a9 ≤ b9 ∧ b9 ≤ 1000 ∧ a = nI a9 ∧ x = nI b9) ∧ t = 2)) ∧ r = some (.int (nI 0)) ∧ MG ca b C1 t dts tld mwt mab mbe on1 ot2 lea mos))) args s 0 0 (xr b 11)) (F0 m 152 ls []) := by
                      intro r
                      induction r with
                      | zero => intro f bv3 C H locs ls hms hf hb3 hF; exact absurd hms (by omega)
                      | succ r ih152 =>
                        intro f bv3 C H locs ls hms hf hb3 hF hP hS hX hl
                        refine lv_iload hx hb d_MO_narrow_152 (lv_at hl 2 rfl) ?_
                        refine lv_iload hx hb d_MO_narrow_154 (lv_at hl 1 rfl) ?_
                        refine lv_iadd hx hb d_MO_narrow_156 ?_
                        refine ti (nI (f + n)) (nI_add _ _) ?_
                        refine lv_bipush (v := nI 12) hx hb d_MO_narrow_157 (by decide) ?_
                        refine xi_ge (tgt := 229) hx hb d_MO_narrow_159 (by decide) (by omega) (by omega) (fun h159 => ?_) (fun h159 => ?_)
                        · skip
                          refine lv_iinc (v := nI (n + 1)) (lv' := [(4, .int (nI (n + 1))), (0, .ref (b + 0)), (5, .int (nI f))]) hx hb d_MO_narrow_229 hl (k := 1) rfl (show nI n + Int32.ofInt 1 = nI (n + 1) from nI_add _ _) (by decide) rfl (fun ls hl => ?_)
                          refine lv_goto (tgt := 142) hx hb d_MO_narrow_232 (by decide) ?_
                          exact ih142 (n + 1) bv3 _ _ _ _ (by omega) (by omega) hb3 (fun m e hm hem => by
                                by_cases q : m = n
                                · rw [q] at hem ⊢; exact hF e (by omega)
                                · exact hG m e (by omega) hem) hP hS hX (lv_sub hl [1, 0] rfl)
                        · skip
                          refine lv_aload_n hx hb d_MO_narrow_162 rfl (lv_at hl 0 rfl) ?_
                          refine lv_bipush (v := nI 78) hx hb d_MO_narrow_163 (by decide) ?_
                          refine lv_iconst (v := nI 0) hx hb d_MO_narrow_165 (by decide) ?_
                          obtain ⟨bg9, wd9, hX, hB9⟩ := hX
                          refine xc_V (n := 2) (g0 := 0) (As := [.int (nI 78), .int (nI 0)]) (rest := []) (st0 := _) hx hb hml hown hts (c_MO_set l D ca b _ 78 0 hX (by omega) (by omega)) km_MO_set tb_724 tb_726 tps_29 tb_7 (by decide +kernel) rfl rfl ⟨Nat.le_of_ble_eq_true rfl, Nat.le_of_ble_eq_true rfl⟩ hK hP (MR_0 hX) (by decide) rfl rfl rfl hl rfl (Nat.le_of_ble_eq_true rfl) d_MO_narrow_166 ⟨Nat.zero_le _, Nat.zero_le _⟩ hS (fun _ h => h) (fun v C H locs hp hP _ _ hS => ?_)
                          obtain ⟨rfl, big1, hX, hb1, hf1⟩ := hp
                          have hX : MV ca b C 0 dts tld fs0 ls0 cn0 lf0 mb0 mwt mab mbe on1 ot2 lea mos yr0 (va_up bv3 78 0) := ⟨_, _, hX, bvUp hB9 hb1 hf1⟩
                          refine lv_iload hx hb d_MO_narrow_169 (lv_at hl 2 rfl) ?_
                          refine lv_istore (lv' := [(6, .int (nI f)), (0, .ref (b + 0)), (4, .int (nI n)), (5, .int (nI f))]) hx hb d_MO_narrow_171 hl (by decide) rfl (fun ls hl => ?_)
                          have loop173 : ∀ (r : Nat) (t : Nat) (bv4 : Nat → Nat) (C : Nat → va_E) (H : Heap) (locs : List Loc) (ls : Array Slot), n + 1 < t + r → t ≤ n + 1 → (∀ x, x ≠ 78 → bv4 x = bv0 x) → bv4 78 = sm (fun j => mSum on1 ot2 lea mos mwt mab mbe tld dts (2 ^ tld - 1) 4095 4095 (va_up (fun _ => 4095) d9 (2 ^ (f + j))) * b9) t → va_P D classes (wl b 11 C) H → va_S (xr b 11) s.heap H locs → MV ca b C 0 dts tld fs0 ls0 cn0 lf0 mb0 mwt mab mbe on1 ot2 lea mos yr0 bv4 → lv_has ls 7 [(0, .ref (b + 0)), (4, .int (nI n)), (5, .int (nI f)), (6, .int (nI (f + t)))] → W p l e (headSpec (k_MO_narrow :: gw) ({ frames := 5, cells := 0, slots := 0, locals := 112 })).room s m args below meth c H locs 0 0 (MQ below (xQ D b 11 (fun r C1 => (∃ d9 a9 b9, d9 < dts ∧ 1 ≤ a9 ∧ a9 ≤ b9 ∧ b9 ≤ 1000 ∧ d = nI d9 ∧ a = nI a9 ∧ x = nI b9 ∧ ((mSum on1 ot2 lea mos mwt mab mbe tld dts (2 ^ tld - 1) 4095 4095 (fun _ => 4095) = 0 ∧ r = some (.int (-1))) ∨ (mSum on1 ot2 lea mos mwt mab mbe tld dts (2 ^ tld - 1) 4095 4095 (fun _ => 4095) ≠ 0 ∧ ∃ z, r = some (.int (eo z)) ∧ nrwP (fun f n => mSum on1 ot2 lea mos mwt mab mbe tld dts (2 ^ tld - 1) 4095 4095 (fun _ => 4095) * a9 ≤ sm (fun j => mSum on1 ot2 lea mos mwt mab mbe tld dts (2 ^ tld - 1) 4095 4095 (va_up (fun _ => 4095) d9 (2 ^ (f + j))) * b9) (n + 1)) z)) ∧ MG ca b C1 0 dts tld mwt mab mbe on1 ot2 lea mos) ∨ (∃ t, ((¬ isN d dts ∧ t = 1) ∨ (isN d dts ∧ ¬ (∃ a9 b9, 1 ≤ a9 ∧ a9 ≤ b9 ∧ b9 ≤ 1000 ∧ a = nI a9 ∧ x = nI b9) ∧ t = 2)) ∧ r = some (.int (nI 0)) ∧ MG ca b C1 t dts tld mwt mab mbe on1 ot2 lea mos))) args s 0 0 (xr b 11)) (F0 m 173 ls []) := by
                            intro r
                            induction r with
                            | zero => intro t bv4 C H locs ls hms ht hb4 h78; exact absurd hms (by omega)
                            | succ r ih173 =>
                              intro t bv4 C H locs ls hms ht hb4 h78 hP hS hX hl
                              refine lv_iload hx hb d_MO_narrow_173 (lv_at hl 3 rfl) ?_
                              refine lv_iload hx hb d_MO_narrow_175 (lv_at hl 2 rfl) ?_
                              refine lv_iload hx hb d_MO_narrow_177 (lv_at hl 1 rfl) ?_
                              refine lv_iadd hx hb d_MO_narrow_179 ?_
                              refine ti (nI (f + n)) (nI_add _ _) ?_
                              refine xi_gt (tgt := 200) hx hb d_MO_narrow_180 (by decide) (by omega) (by omega) (fun h180 => ?_) (fun h180 => ?_)
                              · skip
                                have ht1 : t = n + 1 := by omega
                                rw [ht1] at h78
                                refine lv_aload_n hx hb d_MO_narrow_200 rfl (lv_at hl 0 rfl) ?_
                                refine lv_bipush (v := nI 78) hx hb d_MO_narrow_201 (by decide) ?_
                                refine lv_bipush (v := nI 75) hx hb d_MO_narrow_203 (by decide) ?_
                                obtain ⟨bg9, wd9, hX, hB9⟩ := hX
                                refine xc_V (n := 2) (g0 := 0) (As := [.int (nI 78), .int (nI 75)]) (rest := []) (st0 := _) hx hb hml hown hts (c_MO_isLess l D ca b _ 78 75 hX (by omega) (by omega) (hB9 78 (by omega)).1 (hB9 75 (by omega)).1) km_MO_isLess tb_796 tb_798 tps_42 tb_7 (by decide +kernel) rfl rfl ⟨Nat.le_of_ble_eq_true rfl, Nat.le_of_ble_eq_true rfl⟩ hK hP (MR_0 hX) (by decide) rfl rfl rfl hl rfl (Nat.le_of_ble_eq_true rfl) d_MO_narrow_205 ⟨Nat.zero_le _, Nat.zero_le _⟩ hS (fun _ h => h) (fun v C H locs hp hP _ _ hS => ?_)
                                obtain ⟨z6, rfl, hz6, hX⟩ := hp
                                rw [(hB9 78 (by omega)).2 (by rw [h78]; exact (nrw_lt (F := (fun y => mSum on1 ot2 lea mos mwt mab mbe tld dts (2 ^ tld - 1) 4095 4095 (va_up (fun _ => 4095) d9 (2 ^ y)))) (by omega) hyT hT4 k3).1), (hB9 75 (by omega)).2 (by rw [hb4 75 (by decide), h75]; exact (nrw_lt (F := (fun y => mSum on1 ot2 lea mos mwt mab mbe tld dts (2 ^ tld - 1) 4095 4095 (va_up (fun _ => 4095) d9 (2 ^ y)))) (f := 0) (m := 0) (by omega) hyT hT4 (show a9 ≤ 1000 by omega)).2), h78, hb4 75 (by decide), h75] at hz6
                                have hX : MV ca b C 0 dts tld fs0 ls0 cn0 lf0 mb0 mwt mab mbe on1 ot2 lea mos yr0 bv4 := ⟨_, _, hX, hB9⟩
                                refine xz_ne (tgt := 223) hx hb d_MO_narrow_208 (by decide) (tn31 _) (fun h208 => ?_) (fun h208 => ?_)
                                · skip
                                  have hno : ¬ mSum on1 ot2 lea mos mwt mab mbe tld dts (2 ^ tld - 1) 4095 4095 (fun _ => 4095) * a9 ≤ sm (fun j => mSum on1 ot2 lea mos mwt mab mbe tld dts (2 ^ tld - 1) 4095 4095 (va_up (fun _ => 4095) d9 (2 ^ (f + j))) * b9) (n + 1) := fun q => absurd (hz6.mp (bt h208)) (by omega)
                                  refine lv_iinc (v := nI (f + 1)) (lv' := [(5, .int (nI (f + 1))), (0, .ref (b + 0)), (4, .int (nI n)), (6, .int (nI (f + t)))]) hx hb d_MO_narrow_223 hl (k := 2) rfl (show nI f + Int32.ofInt 1 = nI (f + 1) from nI_add _ _) (by decide) rfl (fun ls hl => ?_)
                                  refine lv_goto (tgt := 152) hx hb d_MO_narrow_226 (by decide) ?_
                                  exact ih152 (f + 1) bv4 _ _ _ _ (by omega) (by omega) hb4 (fun e he => by
                                        by_cases q : e = f
                                        · rw [q]; exact hno
                                        · exact hF e (by omega)) hP hS hX (lv_sub hl [1, 2, 0] rfl)
                                · skip
                                  have hyes : mSum on1 ot2 lea mos mwt mab mbe tld dts (2 ^ tld - 1) 4095 4095 (fun _ => 4095) * a9 ≤ sm (fun j => mSum on1 ot2 lea mos mwt mab mbe tld dts (2 ^ tld - 1) 4095 4095 (va_up (fun _ => 4095) d9 (2 ^ (f + j))) * b9) (n + 1) := Nat.not_lt.mp (fun q => by have := hz6.mpr q; rw [bf h208] at this; cases this)
                                  refine lv_bipush (v := nI 100) hx hb d_MO_narrow_211 (by decide) ?_
                                  refine lv_iload hx hb d_MO_narrow_213 (lv_at hl 2 rfl) ?_
                                  refine lv_imul hx hb d_MO_narrow_215 ?_
                                  refine ti (nI (100 * f)) (pk_mul _ _) ?_
                                  refine lv_iload hx hb d_MO_narrow_216 (lv_at hl 2 rfl) ?_
                                  refine lv_iadd hx hb d_MO_narrow_218 ?_
                                  refine ti (nI ((100 * f) + f)) (nI_add _ _) ?_
                                  refine lv_iload hx hb d_MO_narrow_219 (lv_at hl 1 rfl) ?_
                                  refine lv_iadd hx hb d_MO_narrow_221 ?_
                                  refine ti (nI (((100 * f) + f) + n)) (nI_add _ _) ?_
                                  exact xw_iret hx hb hr hlocks hP hS (Or.inl ⟨d9, a9, b9, hd9, k1, k2, k3, hde, hae, hbe, Or.inr ⟨hT0, some (100 * f + f + n), rfl, Or.inl ⟨f, n, rfl, by omega, hyes, hG, hF⟩⟩, hX.g⟩) d_MO_narrow_222
                              · skip
                                refine lv_aload_n hx hb d_MO_narrow_183 rfl (lv_at hl 0 rfl) ?_
                                refine lv_bipush (v := nI 78) hx hb d_MO_narrow_184 (by decide) ?_
                                refine lv_bipush (v := nI 79) hx hb d_MO_narrow_186 (by decide) ?_
                                refine lv_iload hx hb d_MO_narrow_188 (lv_at hl 3 rfl) ?_
                                refine lv_iadd hx hb d_MO_narrow_190 ?_
                                refine ti (nI (79 + (f + t))) (nI_add _ _) ?_
                                obtain ⟨bg9, wd9, hX, hB9⟩ := hX
                                refine xc_V (n := 2) (g0 := 0) (As := [.int (nI 78), .int (nI (79 + (f + t)))]) (rest := []) (st0 := _) hx hb hml hown hts (c_MO_add l D ca b _ 78 (79 + (f + t)) _ _ hX (by omega) (by omega) (by omega) (hB9 78 (by omega)) (hB9 (79 + (f + t)) (by omega))) km_MO_add tb_748 tb_750 tps_35 tb_7 (by decide +kernel) rfl rfl ⟨Nat.le_of_ble_eq_true rfl, Nat.le_of_ble_eq_true rfl⟩ hK hP (MR_0 hX) (by decide) rfl rfl rfl hl rfl (Nat.le_of_ble_eq_true rfl) d_MO_narrow_191 ⟨Nat.zero_le _, Nat.zero_le _⟩ hS (fun _ h => h) (fun v C H locs hp hP _ _ hS => ?_)
                                obtain ⟨rfl, big1, hX, hb1, hf1⟩ := hp
                                have hX : MV ca b C 0 dts tld fs0 ls0 cn0 lf0 mb0 mwt mab mbe on1 ot2 lea mos yr0 (va_up bv4 78 (bv4 78 + bv4 (79 + (f + t)))) := ⟨_, _, hX, bvUp hB9 hb1 hf1⟩
                                refine lv_iinc (v := nI (f + t + 1)) (lv' := [(6, .int (nI (f + t + 1))), (0, .ref (b + 0)), (4, .int (nI n)), (5, .int (nI f))]) hx hb d_MO_narrow_194 hl (k := 3) rfl (show nI (f + t) + Int32.ofInt 1 = nI (f + t + 1) from nI_add _ _) (by decide) rfl (fun ls hl => ?_)
                                refine lv_goto (tgt := 173) hx hb d_MO_narrow_197 (by decide) ?_
                                exact ih173 (t + 1) (va_up bv4 78 (bv4 78 + bv4 (79 + (f + t)))) _ _ _ _ (by omega) (by omega) (fun x hx => by rw [va_up_ne _ _ hx]; exact hb4 x hx) (by rw [va_up_self, h78, hb4 _ (by omega), h79 _ (by omega), sm_s]) hP hS hX (lv_sub hl [1, 2, 3, 0] rfl)
                          exact loop173 (n + 2) 0 (va_up bv3 78 0) _ _ _ _ (by omega) (by omega) (fun x hx => by rw [va_up_ne _ _ hx]; exact hb3 x hx) (va_up_self _ _ _) hP hS hX (lv_sub hl [1, 2, 3, 0] rfl)
                    exact loop152 13 0 bv2 _ _ _ _ (by omega) (by omega) hb2 (fun e he => absurd he (by omega)) hP hS hX (lv_sub hl [1, 2, 0] rfl)
              exact loop142 13 0 bv0 _ _ _ _ (by omega) (by omega) (fun x _ => rfl) (fun m e hm => absurd hm (by omega)) hP hS hX (lv_sub hl [1, 0] rfl)
            · skip
              refine lv_aload_n hx hb d_MO_narrow_96 rfl (lv_at hl 0 rfl) ?_
              obtain ⟨bg9, wd9, hX, hB9⟩ := hX
              refine xc_V (n := 0) (g0 := 0) (As := []) (rest := []) (st0 := _) hx hb hml hown hts (c_MO_open l D ca b _  hX (by omega)) km_MO_open tb_708 tb_710 tps_25 tb_7 (by decide +kernel) rfl rfl ⟨Nat.le_of_ble_eq_true rfl, Nat.le_of_ble_eq_true rfl⟩ hK hP (MR_0 hX) (by decide) rfl rfl rfl hl rfl (Nat.le_of_ble_eq_true rfl) d_MO_narrow_97 ⟨Nat.zero_le _, Nat.zero_le _⟩ hS (fun _ h => h) (fun v C H locs hp hP _ _ hS => ?_)
              obtain ⟨rfl, hX⟩ := hp
              have hX : MV ca b C 0 dts tld 4095 4095 (2 ^ tld - 1) lf0 mb0 mwt mab mbe on1 ot2 lea mos (upto 6 (fun _ => 4095) yr0) bv0 := ⟨_, _, hX, hB9⟩
              refine lv_aload_n hx hb d_MO_narrow_100 rfl (lv_at hl 0 rfl) ?_
              refine xw_get (v := .ref (b + 10)) hx hb hts (fun w h => mw (uw_MO w h)) hown hK hP (MV_0 hX) (by decide) rfl 12 (by decide) (hts _ (mw tb_607)) (fun _ h => h) rfl d_MO_narrow_101 ?_
              refine lv_iload_n hx hb d_MO_narrow_104 rfl (lv_at hl 1 rfl) ?_
              refine lv_iconst (v := nI 1) hx hb d_MO_narrow_105 (by decide) ?_
              refine lv_iload hx hb d_MO_narrow_106 (lv_at hl 4 rfl) ?_
              refine lv_ishl hx hb d_MO_narrow_108 ?_
              refine ti (nI (2 ^ y)) (sh1 (by omega)) ?_
              refine xw_iast hx hb hK hP hA hS 0 (MV_10 hX) (by decide) rfl (by omega) (by decide) d_MO_narrow_109 (fun H locs hP hS => ?_)
              have hX := MV_set_yrs (j := d9) (x := 2 ^ y) hX
              generalize va_up _ 10 _ = C at hP hX
              refine lv_aload_n hx hb d_MO_narrow_110 rfl (lv_at hl 0 rfl) ?_
              refine xc_V (n := 0) (g0 := 0) (As := []) (rest := []) (st0 := _) hx hb hml hown hts (c_MO_sum l D ca b _ (JS on1 ot2 lea mos mwt mab mbe tld dts (2 ^ tld - 1) 4095 4095 (va_up (upto 6 (fun _ => 4095) yr0) d9 (2 ^ y)) bv0) hX hH.M hH.D (yr_up yr_lt (p12 h93)) (cnb hM6) (by decide) (by decide) (JS.z hH (2 ^ tld - 1) 4095 4095 (va_up (upto 6 (fun _ => 4095) yr0) d9 (2 ^ y)) bv0) (JS.s hH (2 ^ tld - 1) 4095 4095 (va_up (upto 6 (fun _ => 4095) yr0) d9 (2 ^ y)) bv0) (JS.l hH (2 ^ tld - 1) 4095 4095 (va_up (upto 6 (fun _ => 4095) yr0) d9 (2 ^ y)) bv0) (JS.r hH (2 ^ tld - 1) 4095 4095 (va_up (upto 6 (fun _ => 4095) yr0) d9 (2 ^ y)) bv0) (JS.p (2 ^ tld - 1) 4095 4095 (va_up (upto 6 (fun _ => 4095) yr0) d9 (2 ^ y)) bv0)) km_MO_sum tb_712 tb_714 tps_26 tb_7 (by decide +kernel) rfl rfl ⟨Nat.le_of_ble_eq_true rfl, Nat.le_of_ble_eq_true rfl⟩ hK hP (MV_0 hX) (by decide) rfl rfl rfl hl rfl (Nat.le_of_ble_eq_true rfl) d_MO_narrow_111 ⟨Nat.zero_le _, Nat.zero_le _⟩ hS (fun _ h => h) (fun v C H locs hp hP _ _ hS => ?_)
              obtain ⟨rfl, al, bv1, bw7, hJ, hX, hs8, hk9⟩ := hp
              have hs8 : bw7 74 = mSum on1 ot2 lea mos mwt mab mbe tld dts (2 ^ tld - 1) 4095 4095 (va_up (upto 6 (fun _ => 4095) yr0) d9 (2 ^ y)) := hs8.trans (JS.d hH hJ)
              refine lv_aload_n hx hb d_MO_narrow_114 rfl (lv_at hl 0 rfl) ?_
              refine lv_bipush (v := nI 74) hx hb d_MO_narrow_115 (by decide) ?_
              refine lv_bipush (v := nI 76) hx hb d_MO_narrow_117 (by decide) ?_
              obtain ⟨bg9, wd9, hX, hB9⟩ := hX
              refine xc_V (n := 2) (g0 := 0) (As := [.int (nI 74), .int (nI 76)]) (rest := []) (st0 := _) hx hb hml hown hts (c_MO_times l D ca b _ 74 76 _ _ hX (by omega) (by omega) (by omega) (hB9 74 (by omega)) (hB9 76 (by omega))) km_MO_times tb_752 tb_754 tps_36 tb_7 (by decide +kernel) rfl rfl ⟨Nat.le_of_ble_eq_true rfl, Nat.le_of_ble_eq_true rfl⟩ hK hP (MR_0 hX) (by decide) rfl rfl rfl hl rfl (Nat.le_of_ble_eq_true rfl) d_MO_narrow_119 ⟨Nat.zero_le _, Nat.zero_le _⟩ hS (fun _ h => h) (fun v C H locs hp hP _ _ hS => ?_)
              obtain ⟨rfl, big1, wid1, hX, hb1, hf1⟩ := hp
              have hX : MV ca b C 0 dts tld 4095 4095 (2 ^ tld - 1) 0 (mbU (2 ^ tld - 1) on1 ot2 tld) mwt mab mbe on1 ot2 lea mos (va_up (upto 6 (fun _ => 4095) yr0) d9 (2 ^ y)) (va_up bw7 74 (bw7 74 * bw7 76)) := ⟨_, _, hX, bvUp hB9 hb1 hf1⟩
              refine lv_aload_n hx hb d_MO_narrow_122 rfl (lv_at hl 0 rfl) ?_
              refine lv_bipush (v := nI 79) hx hb d_MO_narrow_123 (by decide) ?_
              refine lv_iload hx hb d_MO_narrow_125 (lv_at hl 4 rfl) ?_
              refine lv_iadd hx hb d_MO_narrow_127 ?_
              refine ti (nI (79 + y)) (nI_add _ _) ?_
              refine lv_bipush (v := nI 74) hx hb d_MO_narrow_128 (by decide) ?_
              obtain ⟨bg9, wd9, hX, hB9⟩ := hX
              refine xc_V (n := 2) (g0 := 0) (As := [.int (nI (79 + y)), .int (nI 74)]) (rest := []) (st0 := _) hx hb hml hown hts (c_MO_copy l D ca b _ (79 + y) 74 hX (by omega) (by omega) (by omega) (hB9 74 (by omega)).1) km_MO_copy tb_760 tb_762 tps_38 tb_7 (by decide +kernel) rfl rfl ⟨Nat.le_of_ble_eq_true rfl, Nat.le_of_ble_eq_true rfl⟩ hK hP (MR_0 hX) (by decide) rfl rfl rfl hl rfl (Nat.le_of_ble_eq_true rfl) d_MO_narrow_130 ⟨Nat.zero_le _, Nat.zero_le _⟩ hS (fun _ h => h) (fun v C H locs hp hP _ _ hS => ?_)
              obtain ⟨rfl, big1, hX, hb1, hf1⟩ := hp
              have hX : MV ca b C 0 dts tld 4095 4095 (2 ^ tld - 1) 0 (mbU (2 ^ tld - 1) on1 ot2 tld) mwt mab mbe on1 ot2 lea mos (va_up (upto 6 (fun _ => 4095) yr0) d9 (2 ^ y)) (va_up (va_up bw7 74 (bw7 74 * bw7 76)) (79 + y) ((va_up bw7 74 (bw7 74 * bw7 76)) 74)) := ⟨_, _, hX, bvCp hB9 (by omega) hb1 hf1⟩
              refine lv_iinc (v := nI (y + 1)) (lv' := [(4, .int (nI (y + 1))), (0, .ref (b + 0)), (1, .int (nI d9)), (2, .int (nI a9)), (3, .int (nI b9))]) hx hb d_MO_narrow_133 hl (k := 4) rfl (show nI y + Int32.ofInt 1 = nI (y + 1) from nI_add _ _) (by decide) rfl (fun ls hl => ?_)
              refine lv_goto (tgt := 89) hx hb d_MO_narrow_136 (by decide) ?_
              rw [mSum_oy hd6] at hs8
              exact ih89 (y + 1) 4095 4095 (2 ^ tld - 1) 0 (mbU (2 ^ tld - 1) on1 ot2 tld) (va_up (upto 6 (fun _ => 4095) yr0) d9 (2 ^ y)) (va_up (va_up bw7 74 (bw7 74 * bw7 76)) (79 + y) ((va_up bw7 74 (bw7 74 * bw7 76)) 74)) _ _ _ _ (by omega) (by omega) (by rw [va_up_ne _ _ (by omega), va_up_ne _ _ (by decide), hk9 75 (by decide) (by decide) (by decide)]; exact h75) (by rw [va_up_ne _ _ (by omega), va_up_ne _ _ (by decide), hk9 76 (by decide) (by decide) (by decide)]; exact h76) (fun j hj => by
                    by_cases q : j = y
                    · rw [q, va_up_self, va_up_self, hs8, hk9 76 (by decide) (by decide) (by decide), h76]
                    · rw [va_up_ne _ _ (by omega), va_up_ne _ _ (by omega), hk9 (79 + j) (by omega) (by omega) (by omega)]; exact h79 j (by omega)) hP hS hX (lv_sub hl [1, 2, 3, 4, 0] rfl)
        exact loop89 13 0 4095 4095 (2 ^ tld - 1) 0 (mbU (2 ^ tld - 1) on1 ot2 tld) (upto 6 (fun _ => 4095) yrs) (va_up (va_up (va_up (va_up bw2 75 (bw2 74)) 76 a9) 75 ((va_up (va_up bw2 75 (bw2 74)) 76 a9) 75 * (va_up (va_up bw2 75 (bw2 74)) 76 a9) 76)) 76 b9) _ _ _ _ (by omega) (by omega) (by rw [va_up_ne _ _ (by decide), va_up_self, va_up_ne _ _ (by decide), va_up_self, va_up_self, hs3]) (va_up_self _ _ _) (fun j hj => absurd hj (by omega)) hP hS hX (lv_sub hl [1, 2, 3, 4, 0] rfl)
      · skip
        rw [mSum_o hd6] at hz5 hs3
        refine lv_iconst (v := (-1)) hx hb d_MO_narrow_54 (by decide) ?_
        exact xw_iret hx hb hr hlocks hP hS (Or.inl ⟨d9, a9, b9, hd9, k1, k2, k3, hde, hae, hbe, Or.inl ⟨hz5.mp (bt h51), rfl⟩, hX.g⟩) d_MO_narrow_55
    · skip
      refine lv_iconst (v := nI 0) hx hb d_MO_narrow_35 (by decide) ?_
      exact xw_iret hx hb hr hlocks hP hS (Or.inr ⟨_, by
          by_cases q : z1 = true
          · refine Or.inr ⟨hz1.mp q, fun hq => ?_, gth_2 q (fun q2 => ?_)⟩
            · exact gz_z h32 (by rw [q, hzz.mpr hq]; rfl)
            · exact gz_z h32 (by rw [q, q2]; rfl)
          · exact Or.inl ⟨fun hq => q (hz1.mpr hq), gth_1 q⟩, rfl, hX.g⟩) d_MO_narrow_36
  refine lv_iload_n hx hb d_MO_narrow_6 rfl (lv_at hl 2 rfl) ?_
  refine lv_iconst (v := nI 1) hx hb d_MO_narrow_7 (by decide) ?_
  refine lv_icmp_lt (tgt := 27) hx hb d_MO_narrow_8 (by decide) (fun h8 => ?_) (fun h8 => ?_)
  · skip
    refine lv_iconst (v := nI 0) hx hb d_MO_narrow_27 (by decide) ?_
    exact j28 false ⟨fun q => (by cases q), fun ⟨a9, b9, q1, q2, q3, q4, q5⟩ => by subst q4; subst q5; exact absurd h8 (fun q => absurd ((nI_ltI (by omega) (by omega)).mp q) (by omega))⟩
  · skip
    refine lv_iload_n hx hb d_MO_narrow_11 rfl (lv_at hl 2 rfl) ?_
    refine lv_iload_n hx hb d_MO_narrow_12 rfl (lv_at hl 3 rfl) ?_
    refine lv_icmp_gt (tgt := 27) hx hb d_MO_narrow_13 (by decide) (fun h13 => ?_) (fun h13 => ?_)
    · skip
      refine lv_iconst (v := nI 0) hx hb d_MO_narrow_27 (by decide) ?_
      exact j28 false ⟨fun q => (by cases q), fun ⟨a9, b9, q1, q2, q3, q4, q5⟩ => by subst q4; subst q5; exact absurd h13 (fun q => absurd ((nI_ltI (by omega) (by omega)).mp q) (by omega))⟩
    · skip
      refine lv_iload_n hx hb d_MO_narrow_16 rfl (lv_at hl 3 rfl) ?_
      refine lv_sipush (v := nI 1000) hx hb d_MO_narrow_17 (by decide) ?_
      refine lv_icmp_gt (tgt := 27) hx hb d_MO_narrow_20 (by decide) (fun h20 => ?_) (fun h20 => ?_)
      · skip
        refine lv_iconst (v := nI 0) hx hb d_MO_narrow_27 (by decide) ?_
        exact j28 false ⟨fun q => (by cases q), fun ⟨a9, b9, q1, q2, q3, q4, q5⟩ => by subst q4; subst q5; exact absurd h20 (fun q => absurd ((nI_ltI (by omega) (by omega)).mp q) (by omega))⟩
      · skip
        have ha0 : ¬ a < 0 := fun q => h8 (Int32.lt_of_lt_of_le q (by decide))
        obtain ⟨a9, ha31, hae⟩ := nI_of ha0
        have hb0 : ¬ x < 0 := fun q => h13 (Int32.lt_of_lt_of_le q (by rw [hae]; exact nI_pos' ha31))
        obtain ⟨b9, hb31, hbe⟩ := nI_of hb0
        rw [hae] at h8 h13
        rw [hbe] at h13 h20
        have e8 := Nat.not_lt.mp (fun q => h8 ((nI_ltI (a := a9) (b := 1) (by omega) (by omega)).mpr q))
        have e13 := Nat.not_lt.mp (fun q => h13 ((nI_ltI (a := b9) (b := a9) (by omega) (by omega)).mpr q))
        have e20 := Nat.not_lt.mp (fun q => h20 ((nI_ltI (a := 1000) (b := b9) (by omega) (by omega)).mpr q))
        refine lv_iconst (v := nI 1) hx hb d_MO_narrow_23 (by decide) ?_
        refine lv_goto (tgt := 28) hx hb d_MO_narrow_24 (by decide) ?_
        exact j28 true ⟨fun _ => ⟨a9, b9, e8, e13, e20, hae, hbe⟩, fun _ => rfl⟩

