/-! OrderPassing: its own methods that throw nothing -/
theorem mSum_nil {on1 ot2 lea mos mwt mab mbe : Nat → Nat} {nt nd cn fs ls : Nat} {yrs : Nat → Nat} (h0 : nd = 0) (hT : TN on1 (mtt on1 ot2) nt nd) : mSum on1 ot2 lea mos mwt mab mbe nt nd cn fs ls yrs = 1 := by
  subst h0
  have hn : nt = 0 := by
    rcases Nat.eq_zero_or_pos nt with q | q
    · exact q
    · exact absurd (hT 0 q).1 (Nat.not_lt_zero _)
  subst hn
  show pS _ _ _ 0 * pR _ _ _ _ _ _ 0 * phi _ _ _ 0 _ = 1
  have e : anyM (fun d => (mbU cn on1 ot2 0).testBit d) 0 ≠ true := fun q => by
    obtain ⟨d, h1, -⟩ := anyM_iff.mp q
    exact absurd h1 (Nat.not_lt_zero _)
  unfold phi
  rw [if_neg e]
  rfl
theorem fix_s0 {wt : Nat → Nat → Nat} {ab be fr : Nat → Nat} {tt : Nat → Option Nat} {le mo : Nat → Nat} {nt nm nd : Nat} {mwt mab mbe on1 ot2 lea mos : Nat → Nat} {fy : Nat → Option Nat} (hR : RL wt ab be fr tt le mo nt nm mwt mab mbe on1 ot2 lea mos) (hd6 : nd ≤ 6) (hfy : ∀ d, d < 6 → fy d = none) (x : Nat) : ∀ y, y < 12 → ∀ d z, d < nd → z < 12 → fixW (s0 wt ab be fy) x y d z = fixW (cnt (mw2 mwt) mab mbe) x y d z := by
  intro y _ d z hd hz
  unfold fixW s0
  rw [if_pos (Or.inl (hfy d (by omega))), rl_cnt hR (by omega) hz]
theorem oB_none {fb : Nat → Option Nat} (h : ∀ w, w < 2 → fb w = none) {w : Nat} (hw : w < 2) : ∀ y, y < 12 → oB fb w y = (4095 : Nat).testBit y := fun y hy => by
  rw [b4095.mpr hy]; exact oB_iff.mpr (Or.inl (h w hw))
theorem clr_none {n : Nat} {f : Nat → Option Nat} : ∀ d, d < n → clrO n f d = none := fun d hd => if_pos hd
theorem tot_mSum {on1 ot2 lea mos mwt mab mbe : Nat → Nat} {nt nd cn fs ls x : Nat} {S1 : Nat → Nat → Nat} (hx : x < nd) (h : ∀ y, y < 12 → S1 x y = mWS on1 ot2 lea mos nt nd cn fs ls (fixW (cnt (mw2 mwt) mab mbe) x y)) : tot S1 x = mSum on1 ot2 lea mos mwt mab mbe nt nd cn fs ls (fun _ => 4095) := by
  unfold tot
  rw [sm_congr (fun y hy => (h y hy).trans mSum_Ay.symm)]
  exact mSum_years hx
set_option maxHeartbeats 4000000 in
set_option maxRecDepth 100000 in
/-- whole becomes the sum of all ways -/
theorem c_OP_sumAll (l : Launch) (D : va_G) (ca : Nat → ClassId) (b : Nat) (C0 : Nat → va_E) {wt : Nat → Nat → Nat} {ab : Nat → Nat} {be : Nat → Nat} {nd : Nat} {fr : Nat → Nat} {tt : Nat → Option Nat} {le : Nat → Nat} {mo : Nat → Nat} {nf : Nat → Bool} {tr : Nat → Nat} {nt : Nat} {nm : Nat} {fy : Nat → Option Nat} {fb : Nat → Option Nat} {im : Nat → Bool} {hm : Nat} {S : Nat → Nat → Nat} {I : Nat → Nat} {P : Nat → Nat} {pt : Nat} {ap : Nat} {fa : Nat} {wh : Nat} {st : Nat} {k : KQ} {mwt mab mbe on1 ot2 lea mos : Nat → Nat} (cn fs l1 : Nat) (hX : XS ca b C0 wt ab be nd fr tt le mo nf tr nt nm fy fb k.2.2.2.1 k.2.1 k.2.2.1 k.1 im k.2.2.2.2 hm (gvOf S I P pt ap fa wh st)) (hH : MH on1 ot2 lea mos mwt mab mbe nt nd) (hR : RL wt ab be fr tt le mo nt nm mwt mab mbe on1 ot2 lea mos) (hnf : ∀ i, i < nt → nf i = cn.testBit i) (hfy0 : ∀ d, d < 6 → fy d = none) (hfb31 : ∀ w, w < 2 → ∀ y, fb w = some y → y < 2 ^ 31) (h0 : ∀ y, y < 12 → oB fb 0 y = fs.testBit y) (h1 : ∀ y, y < 12 → oB fb 1 y = l1.testBit y) (hz : nd = 0 → ∀ w, w < 2 → fb w = none) : Met l y_OP_sumAll (k_OP_sumAll :: gw) ({ frames := 6, cells := 0, slots := 0, locals := 152 }) (xPc D ca b 219 C0 [.ref (b + 0)]) (xQ D b 219 (fun r C1 => r = none ∧ ∃ (k1 : KQ) (im1 : Nat → Bool) (hm1 : Nat) (S1 : Nat → Nat → Nat) (f1 : Nat) (I1 P1 : Nat → Nat) (p1 a1 : Nat) (fy1 fb1 : Nat → Option Nat), XS ca b C1 wt ab be nd fr tt le mo nf tr nt nm fy1 fb1 k1.2.2.2.1 k1.2.1 k1.2.2.1 k1.1 im1 k1.2.2.2.2 hm1 (gvOf S1 I1 P1 p1 a1 f1 (mSum on1 ot2 lea mos mwt mab mbe nt nd cn fs l1 (fun _ => 4095)) st) ∧ (∀ d, d < 6 → fy1 d = none) ∧ ∀ w, w < 2 → fb1 w = none)) 0 0 (xr b 219) := by
  refine Met.ofW (cc := b_OP_sumAll) (maxL := 1) (ret := none) (by decide) rfl ?_
  intro p e s m args below meth c s₁ B hml hv
  obtain ⟨hav, hP, hK⟩ := hv
  have hx := B.exec
  have hb := B.bytes
  have hr := B.returns
  have hts := atoms_spec (ws := k_OP_sumAll :: gw) B.pre
  have hown : s.vm.findClass R_OP = some m.cls := findClass_of_methodNamed B.named
  have hlocks := B.notSynchronized
  have hA : ∀ k, k < 219 → xr b 219 (b + k) := xr_in
  have hS : va_S (xr b 219) s.heap s.heap [] := va_S.rf
  have hl := lv_entry ([.ref (b + 0)]) (n := 1) (Nat.le_of_ble_eq_true rfl)
  rw [hav, lg_entry_eq]
  generalize (lg_sl ([.ref (b + 0)]) ++ List.replicate (1 - (lg_sl ([.ref (b + 0)])).length) Slot.unset).toArray = ls at hl ⊢
  have hl : lv_has ls 1 [(0, .ref (b + 0))] := hl
  rw [← hav]
  have hd6 := hH.D.1
  refine lv_aload_n hx hb d_OP_sumAll_0 rfl (lv_at hl 0 rfl) ?_
  refine xw_get (v := .ref (b + 1)) hx hb hts (fun w h => mw (uw_OP w h)) hown hK hP (XS_0 hX) (by decide) rfl 0 (by decide) (hts _ (mw tb_149)) (fun _ h => h) rfl d_OP_sumAll_1 ?_
  refine xc_V (n := 0) (As := []) (rest := []) (st0 := _) hx hb hml hown hts (c_DA_number l D ca b _  hX ) km_DA_number tb_173 tb_174 tb_175 tb_2 (by decide +kernel) rfl rfl ⟨Nat.le_of_ble_eq_true rfl, Nat.le_of_ble_eq_true rfl⟩ hK hP (XS_1 hX) (by decide) rfl rfl rfl hl rfl (Nat.le_of_ble_eq_true rfl) d_OP_sumAll_4 ⟨Nat.zero_le _, Nat.zero_le _⟩ hS (fun _ h => h) (fun v C H locs hp hP _ _ hS => ?_)
  obtain ⟨rfl, hX⟩ := hp
  refine xz_ne (tgt := 19) hx hb d_OP_sumAll_7 (by decide) (by omega) (fun h7 => ?_) (fun h7 => ?_)
  · skip
    refine lv_aload_n hx hb d_OP_sumAll_19 rfl (lv_at hl 0 rfl) ?_
    refine xw_get (v := .ref (b + 18)) hx hb hts (fun w h => mw (uw_OP w h)) hown hK hP (XS_0 hX) (by decide) rfl 2 (by decide) (hts _ (mw tb_151)) (fun _ h => h) rfl d_OP_sumAll_20 ?_
    refine lv_iconst (v := nI 0) hx hb d_OP_sumAll_23 (by decide) ?_
    refine lv_aload_n hx hb d_OP_sumAll_24 rfl (lv_at hl 0 rfl) ?_
    refine xw_get (v := .ref (b + 1)) hx hb hts (fun w h => mw (uw_OP w h)) hown hK hP (XS_0 hX) (by decide) rfl 0 (by decide) (hts _ (mw tb_149)) (fun _ h => h) rfl d_OP_sumAll_25 ?_
    refine lv_aload_n hx hb d_OP_sumAll_28 rfl (lv_at hl 0 rfl) ?_
    refine xw_get (v := .ref (b + 11)) hx hb hts (fun w h => mw (uw_OP w h)) hown hK hP (XS_0 hX) (by decide) rfl 1 (by decide) (hts _ (mw tb_150)) (fun _ h => h) rfl d_OP_sumAll_29 ?_
    refine xc_V (n := 3) (As := [.int (nI 0), .ref (b + 1), .ref (b + 11)]) (rest := []) (st0 := _) hx hb hml hown hts (c_PA_passR l D ca b _ 0 cn fs l1 (fun y => fixW (cnt (mw2 mwt) mab mbe) 0 y) hX hH hR (by omega) hnf (fun d hd y hy => by rw [hfy0 d (by omega)] at hy; cases hy) hfb31 (fix_s0 hR hd6 hfy0 0) h0 h1) km_PA_passTo tb_181 tb_182 tb_183 tb_4 (by decide +kernel) rfl rfl ⟨Nat.le_of_ble_eq_true rfl, Nat.le_of_ble_eq_true rfl⟩ hK hP (XS_18 hX) (by decide) rfl rfl rfl hl rfl (Nat.le_of_ble_eq_true rfl) d_OP_sumAll_32 ⟨Nat.zero_le _, Nat.zero_le _⟩ hS (fun _ h => h) (fun v C H locs hp hP _ _ hS => ?_)
    obtain ⟨rfl, k1, im1, hm1, S1, f1, I1, P1, p1, a1, hX, hS1⟩ := hp
    refine lv_aload_n hx hb d_OP_sumAll_35 rfl (lv_at hl 0 rfl) ?_
    refine xw_get (v := .ref (b + 18)) hx hb hts (fun w h => mw (uw_OP w h)) hown hK hP (XS_0 hX) (by decide) rfl 2 (by decide) (hts _ (mw tb_151)) (fun _ h => h) rfl d_OP_sumAll_36 ?_
    refine lv_iconst (v := nI 0) hx hb d_OP_sumAll_39 (by decide) ?_
    refine lv_aload_n hx hb d_OP_sumAll_40 rfl (lv_at hl 0 rfl) ?_
    refine xw_get (v := .ref (b + 215)) hx hb hts (fun w h => mw (uw_OP w h)) hown hK hP (XS_0 hX) (by decide) rfl 3 (by decide) (hts _ (mw tb_152)) (fun _ h => h) rfl d_OP_sumAll_41 ?_
    refine xc_V (n := 2) (As := [.int (nI 0), .ref (b + 215)]) (rest := []) (st0 := _) hx hb hml hown hts (c_PA_addYears_wh l D ca b _ 0 hX (by omega)) km_PA_addYears tb_286 tb_263 tb_264 tb_4 (by decide +kernel) rfl rfl ⟨Nat.le_of_ble_eq_true rfl, Nat.le_of_ble_eq_true rfl⟩ hK hP (XS_18 hX) (by decide) rfl rfl rfl hl rfl (Nat.le_of_ble_eq_true rfl) d_OP_sumAll_44 ⟨Nat.zero_le _, Nat.zero_le _⟩ hS (fun _ h => h) (fun v C H locs hp hP _ _ hS => ?_)
    obtain ⟨rfl, hX⟩ := hp
    exact xw_vret hx hb hr hlocks hP hS ⟨rfl, k1, im1, hm1, S1, f1, I1, P1, p1, a1, _, _, by rw [← tot_mSum (x := 0) (by omega) hS1]; exact hX, clr_none, clr_none⟩ d_OP_sumAll_47
  · skip
    refine lv_aload_n hx hb d_OP_sumAll_10 rfl (lv_at hl 0 rfl) ?_
    refine xw_get (v := .ref (b + 215)) hx hb hts (fun w h => mw (uw_OP w h)) hown hK hP (XS_0 hX) (by decide) rfl 3 (by decide) (hts _ (mw tb_152)) (fun _ h => h) rfl d_OP_sumAll_11 ?_
    refine lv_iconst (v := nI 1) hx hb d_OP_sumAll_14 (by decide) ?_
    have hgi1 : gid 215 := (by unfold gid; decide)
    obtain ⟨ga1, gn1, hga1, hgb1, hgc1⟩ := XS_g hX 215 hgi1
    rw [gv_wh] at hgc1
    refine xc_V (n := 1) (As := [.int (nI 1)]) (rest := []) (st0 := _) hx hb hml hown hts (c_GR_set l D ca b 219 _ 215 gn1 _ ga1 1 hga1 hgb1 (by unfold gid at hgi1; omega) hgc1 (by decide)) km_GR_set tb_177 tb_178 tb_179 tb_5 (by decide +kernel) rfl rfl ⟨Nat.le_of_ble_eq_true rfl, Nat.le_of_ble_eq_true rfl⟩ hK hP hga1 (by unfold gid at hgi1; omega) rfl rfl rfl hl rfl (Nat.le_of_ble_eq_true rfl) d_OP_sumAll_15 ⟨Nat.zero_le _, Nat.zero_le _⟩ hS (fun _ h => h) (fun v C H locs hp hP _ _ hS => ?_)
    obtain ⟨rfl, hG1, hG2⟩ := hp
    have hX := XS_set_gv hX hgi1 hG1 hG2
    have hX := gs_wh hX
    exact xw_vret hx hb hr hlocks hP hS ⟨rfl, k, im, hm, S, fa, I, P, pt, ap, fy, fb, by rw [mSum_nil (by omega) hH.T]; exact hX, hfy0, hz (by omega)⟩ d_OP_sumAll_18

set_option maxHeartbeats 4000000 in
set_option maxRecDepth 100000 in
/-- whether there is a way -/
theorem c_OP_fits (l : Launch) (D : va_G) (ca : Nat → ClassId) (b : Nat) (C0 : Nat → va_E) {wt : Nat → Nat → Nat} {ab : Nat → Nat} {be : Nat → Nat} {nd : Nat} {fr : Nat → Nat} {tt : Nat → Option Nat} {le : Nat → Nat} {mo : Nat → Nat} {nf : Nat → Bool} {tr : Nat → Nat} {nt : Nat} {nm : Nat} {fy : Nat → Option Nat} {fb : Nat → Option Nat} {im : Nat → Bool} {hm : Nat} {S : Nat → Nat → Nat} {I : Nat → Nat} {P : Nat → Nat} {pt : Nat} {ap : Nat} {fa : Nat} {wh : Nat} {st : Nat} {k : KQ} {mwt mab mbe on1 ot2 lea mos : Nat → Nat} (hX : XS ca b C0 wt ab be nd fr tt le mo nf tr nt nm fy fb k.2.2.2.1 k.2.1 k.2.2.1 k.1 im k.2.2.2.2 hm (gvOf S I P pt ap fa wh st)) (hH : MH on1 ot2 lea mos mwt mab mbe nt nd) (hR : RL wt ab be fr tt le mo nt nm mwt mab mbe on1 ot2 lea mos) (hnf : ∀ i, i < nt → nf i = true) (hfy0 : ∀ d, d < 6 → fy d = none) (hfb0 : ∀ w, w < 2 → fb w = none) : Met l y_OP_fits (k_OP_fits :: gw) ({ frames := 7, cells := 0, slots := 0, locals := 172 }) (xPc D ca b 219 C0 [.ref (b + 0)]) (xQ D b 219 (fun r C1 => ∃ z : Bool, r = some (.int (nI z.toNat)) ∧ (z = true ↔ mSum on1 ot2 lea mos mwt mab mbe nt nd (2 ^ nt - 1) 4095 4095 (fun _ => 4095) ≠ 0) ∧ XM ca b C1 nd nt mwt mab mbe on1 ot2 lea mos)) 0 0 (xr b 219) := by
  refine Met.ofW (cc := b_OP_fits) (maxL := 1) (ret := (some FieldType.boolean)) (by decide) rfl ?_
  intro p e s m args below meth c s₁ B hml hv
  obtain ⟨hav, hP, hK⟩ := hv
  have hx := B.exec
  have hb := B.bytes
  have hr := B.returns
  have hts := atoms_spec (ws := k_OP_fits :: gw) B.pre
  have hown : s.vm.findClass R_OP = some m.cls := findClass_of_methodNamed B.named
  have hlocks := B.notSynchronized
  have hA : ∀ k, k < 219 → xr b 219 (b + k) := xr_in
  have hS : va_S (xr b 219) s.heap s.heap [] := va_S.rf
  have hl := lv_entry ([.ref (b + 0)]) (n := 1) (Nat.le_of_ble_eq_true rfl)
  rw [hav, lg_entry_eq]
  generalize (lg_sl ([.ref (b + 0)]) ++ List.replicate (1 - (lg_sl ([.ref (b + 0)])).length) Slot.unset).toArray = ls at hl ⊢
  have hl : lv_has ls 1 [(0, .ref (b + 0))] := hl
  rw [← hav]
  have hd6 := hH.D.1
  refine lv_aload_n hx hb d_OP_fits_0 rfl (lv_at hl 0 rfl) ?_
  refine xc_V (n := 0) (As := []) (rest := []) (st0 := _) hx hb hml hown hts (c_OP_sumAll l D ca b _ (2 ^ nt - 1) 4095 4095 hX hH hR (fun i hi => by rw [hnf i hi]; exact (bits_lt.mpr hi).symm) hfy0 (fun w hw y hy => by rw [hfb0 w hw] at hy; cases hy) (oB_none hfb0 (by decide)) (oB_none hfb0 (by decide)) (fun _ => hfb0)) km_OP_sumAll tb_169 tb_171 tps_0 tb_1 (by decide +kernel) rfl rfl ⟨Nat.le_of_ble_eq_true rfl, Nat.le_of_ble_eq_true rfl⟩ hK hP (XS_0 hX) (by decide) rfl rfl rfl hl rfl (Nat.le_of_ble_eq_true rfl) d_OP_fits_1 ⟨Nat.zero_le _, Nat.zero_le _⟩ hS (fun _ h => h) (fun v C H locs hp hP _ _ hS => ?_)
  obtain ⟨rfl, k1, im1, hm1, S1, f1, I1, P1, p1, a1, fy1, fb1, hX, hfy1, hfb1⟩ := hp
  refine lv_aload_n hx hb d_OP_fits_4 rfl (lv_at hl 0 rfl) ?_
  refine xw_get (v := .ref (b + 215)) hx hb hts (fun w h => mw (uw_OP w h)) hown hK hP (XS_0 hX) (by decide) rfl 3 (by decide) (hts _ (mw tb_152)) (fun _ h => h) rfl d_OP_fits_5 ?_
  have hgi1 : gid 215 := (by unfold gid; decide)
  obtain ⟨ga1, gn1, hga1, hgb1, hgc1⟩ := XS_g hX 215 hgi1
  rw [gv_wh] at hgc1
  refine xc_V (n := 0) (As := []) (rest := []) (st0 := _) hx hb hml hown hts (c_GR_isZero l D ca b 219 _ 215 gn1 _ ga1 hga1 hgb1 (by unfold gid at hgi1; omega) hgc1) km_GR_isZero tb_287 tb_288 tb_289 tb_5 (by decide +kernel) rfl rfl ⟨Nat.le_of_ble_eq_true rfl, Nat.le_of_ble_eq_true rfl⟩ hK hP hga1 (by unfold gid at hgi1; omega) rfl rfl rfl hl rfl (Nat.le_of_ble_eq_true rfl) d_OP_fits_8 ⟨Nat.zero_le _, Nat.zero_le _⟩ hS (fun _ h => h) (fun v C H locs hp hP _ _ hS => ?_)
  obtain ⟨rfl, hCe⟩ := hp
  rw [hCe] at hP
  refine xz_ne (tgt := 18) hx hb d_OP_fits_11 (by decide) (by split <;> decide) (fun h11 => ?_) (fun h11 => ?_)
  · skip
    refine lv_iconst (v := nI 0) hx hb d_OP_fits_18 (by decide) ?_
    exact xw_zret hx hb hr hlocks nz0 hP hS ⟨false, rfl, ⟨fun q => (by cases q), fun q => absurd ((gRep_zero hgc1 (by rw [← p48g]; exact Nat.lt_trans (mSum_lt hH) (by decide))).mp (gz_n h11)) q⟩, ⟨_, _, _, _, _, _, _, _, _, _, _, _, k1, im1, hm1, S1, I1, P1, _, _, _, _, _, hX, hR, hnf, hfy1, hfb1⟩⟩ d_OP_fits_19
  · skip
    refine lv_iconst (v := nI 1) hx hb d_OP_fits_14 (by decide) ?_
    refine lv_goto (tgt := 19) hx hb d_OP_fits_15 (by decide) ?_
    exact xw_zret hx hb hr hlocks nz1 hP hS ⟨true, rfl, ⟨fun _ q => gz_z h11 ((gRep_zero hgc1 (by rw [← p48g]; exact Nat.lt_trans (mSum_lt hH) (by decide))).mpr q), fun _ => rfl⟩, ⟨_, _, _, _, _, _, _, _, _, _, _, _, k1, im1, hm1, S1, I1, P1, _, _, _, _, _, hX, hR, hnf, hfy1, hfb1⟩⟩ d_OP_fits_19

set_option maxHeartbeats 4000000 in
set_option maxRecDepth 100000 in
/-- the least year up to which the sums reach whole -/
theorem c_OP_endOfStretch (l : Launch) (D : va_G) (ca : Nat → ClassId) (b : Nat) (C0 : Nat → va_E) {wt : Nat → Nat → Nat} {ab : Nat → Nat} {be : Nat → Nat} {nd : Nat} {fr : Nat → Nat} {tt : Nat → Option Nat} {le : Nat → Nat} {mo : Nat → Nat} {nf : Nat → Bool} {tr : Nat → Nat} {nt : Nat} {nm : Nat} {fy : Nat → Option Nat} {fb : Nat → Option Nat} {od : Nat → Nat} {pa : Nat → Option Nat} {rp : Nat → Option Nat} {se : Nat → Bool} {im : Nat → Bool} {qd : Nat} {hm : Nat} {S : Nat → Nat → Nat} {I : Nat → Nat} {P : Nat → Nat} {pt : Nat} {ap : Nat} {fa : Nat} {wh : Nat} {st : Nat} (d f : Nat) (hX : XS ca b C0 wt ab be nd fr tt le mo nf tr nt nm fy fb od pa rp se im qd hm (gvOf S I P pt ap fa wh st)) (hd : d < 6) (hf : f < 12) (hwh : wh < gB ^ 6) (hB : ∀ f n, f + n ≤ 12 → sm (fun j => S d (f + j)) n < gB ^ 6) : Met l y_OP_endOfStretch (k_OP_endOfStretch :: gw) ({ frames := 2, cells := 0, slots := 0, locals := 54 }) (xPc D ca b 219 C0 [.ref (b + 0), .int (nI d), .int (nI f)]) (xQ D b 219 (fun r C1 => ∃ (z : Option Nat) (s9 : Nat), r = some (.int (eo z)) ∧ ((∃ n, z = some (f + n) ∧ f + n < 12 ∧ wh ≤ sm (fun j => S d (f + j)) (n + 1) ∧ ∀ m, m < n → ¬ wh ≤ sm (fun j => S d (f + j)) (m + 1)) ∨ (z = none ∧ ∀ n, f + n < 12 → ¬ wh ≤ sm (fun j => S d (f + j)) (n + 1))) ∧ XS ca b C1 wt ab be nd fr tt le mo nf tr nt nm fy fb od pa rp se im qd hm (gvOf S I P pt ap fa wh s9))) 0 0 (xr b 219) := by
  refine Met.ofW (cc := b_OP_endOfStretch) (maxL := 4) (ret := (some FieldType.int)) (by decide) rfl ?_
  intro p e s m args below meth c s₁ B hml hv
  obtain ⟨hav, hP, hK⟩ := hv
  have hx := B.exec
  have hb := B.bytes
  have hr := B.returns
  have hts := atoms_spec (ws := k_OP_endOfStretch :: gw) B.pre
  have hown : s.vm.findClass R_OP = some m.cls := findClass_of_methodNamed B.named
  have hlocks := B.notSynchronized
  have hA : ∀ k, k < 219 → xr b 219 (b + k) := xr_in
  have hS : va_S (xr b 219) s.heap s.heap [] := va_S.rf
  have hl := lv_entry ([.ref (b + 0), .int (nI d), .int (nI f)]) (n := 4) (Nat.le_of_ble_eq_true rfl)
  rw [hav, lg_entry_eq]
  generalize (lg_sl ([.ref (b + 0), .int (nI d), .int (nI f)]) ++ List.replicate (4 - (lg_sl ([.ref (b + 0), .int (nI d), .int (nI f)])).length) Slot.unset).toArray = ls at hl ⊢
  have hl : lv_has ls 4 [(0, .ref (b + 0)), (1, .int (nI d)), (2, .int (nI f))] := hl
  rw [← hav]
  refine lv_aload_n hx hb d_OP_endOfStretch_0 rfl (lv_at hl 0 rfl) ?_
  refine xw_get (v := .ref (b + 217)) hx hb hts (fun w h => mw (uw_OP w h)) hown hK hP (XS_0 hX) (by decide) rfl 4 (by decide) (hts _ (mw tb_153)) (fun _ h => h) rfl d_OP_endOfStretch_1 ?_
  refine lv_iconst (v := nI 0) hx hb d_OP_endOfStretch_4 (by decide) ?_
  have hgi1 : gid 217 := (by unfold gid; decide)
  obtain ⟨ga1, gn1, hga1, hgb1, hgc1⟩ := XS_g hX 217 hgi1
  rw [gv_st] at hgc1
  refine xc_V (n := 1) (As := [.int (nI 0)]) (rest := []) (st0 := _) hx hb hml hown hts (c_GR_set l D ca b 219 _ 217 gn1 _ ga1 0 hga1 hgb1 (by unfold gid at hgi1; omega) hgc1 (by decide)) km_GR_set tb_177 tb_178 tb_179 tb_5 (by decide +kernel) rfl rfl ⟨Nat.le_of_ble_eq_true rfl, Nat.le_of_ble_eq_true rfl⟩ hK hP hga1 (by unfold gid at hgi1; omega) rfl rfl rfl hl rfl (Nat.le_of_ble_eq_true rfl) d_OP_endOfStretch_5 ⟨Nat.zero_le _, Nat.zero_le _⟩ hS (fun _ h => h) (fun v C H locs hp hP _ _ hS => ?_)
  obtain ⟨rfl, hG1, hG2⟩ := hp
  have hX := XS_set_gv hX hgi1 hG1 hG2
  have hX := gs_st hX
  refine lv_iload_n hx hb d_OP_endOfStretch_8 rfl (lv_at hl 2 rfl) ?_
  refine lv_istore_n (lv' := [(3, .int (nI f)), (0, .ref (b + 0)), (1, .int (nI d)), (2, .int (nI f))]) hx hb d_OP_endOfStretch_9 rfl hl (by decide) rfl (fun ls hl => ?_)
  have loop10 : ∀ (r : Nat) (n : Nat) (C : Nat → va_E) (H : Heap) (locs : List Loc) (ls : Array Slot), 12 < f + n + r → f + n ≤ 12 → (∀ m, m < n → ¬ wh ≤ sm (fun j => S d (f + j)) (m + 1)) → va_P D classes (wl b 219 C) H → va_S (xr b 219) s.heap H locs → XS ca b C wt ab be nd fr tt le mo nf tr nt nm fy fb od pa rp se im qd hm (gvOf S I P pt ap fa wh (sm (fun j => S d (f + j)) n)) → lv_has ls 4 [(0, .ref (b + 0)), (1, .int (nI d)), (2, .int (nI f)), (3, .int (nI (f + n)))] → W p l e (headSpec (k_OP_endOfStretch :: gw) ({ frames := 2, cells := 0, slots := 0, locals := 54 })).room s m args below meth c H locs 0 0 (MQ below (xQ D b 219 (fun r C1 => ∃ (z : Option Nat) (s9 : Nat), r = some (.int (eo z)) ∧ ((∃ n, z = some (f + n) ∧ f + n < 12 ∧ wh ≤ sm (fun j => S d (f + j)) (n + 1) ∧ ∀ m, m < n → ¬ wh ≤ sm (fun j => S d (f + j)) (m + 1)) ∨ (z = none ∧ ∀ n, f + n < 12 → ¬ wh ≤ sm (fun j => S d (f + j)) (n + 1))) ∧ XS ca b C1 wt ab be nd fr tt le mo nf tr nt nm fy fb od pa rp se im qd hm (gvOf S I P pt ap fa wh s9))) args s 0 0 (xr b 219)) (F0 m 10 ls []) := by
    intro r
    induction r with
    | zero => intro n C H locs ls hms hn hI; exact absurd hms (by omega)
    | succ r ih10 =>
      intro n C H locs ls hms hn hI hP hS hX hl
      refine lv_iload_n hx hb d_OP_endOfStretch_10 rfl (lv_at hl 3 rfl) ?_
      refine lv_bipush (v := nI 12) hx hb d_OP_endOfStretch_11 (by decide) ?_
      refine xi_ge (tgt := 54) hx hb d_OP_endOfStretch_13 (by decide) (by omega) (by omega) (fun h13 => ?_) (fun h13 => ?_)
      · skip
        refine lv_iconst (v := (-1)) hx hb d_OP_endOfStretch_54 (by decide) ?_
        exact xw_iret hx hb hr hlocks hP hS ⟨none, _, rfl, Or.inr ⟨rfl, fun m hm => hI m (by omega)⟩, hX⟩ d_OP_endOfStretch_55
      · skip
        refine lv_aload_n hx hb d_OP_endOfStretch_16 rfl (lv_at hl 0 rfl) ?_
        refine xw_get (v := .ref (b + 217)) hx hb hts (fun w h => mw (uw_OP w h)) hown hK hP (XS_0 hX) (by decide) rfl 4 (by decide) (hts _ (mw tb_153)) (fun _ h => h) rfl d_OP_endOfStretch_17 ?_
        refine lv_aload_n hx hb d_OP_endOfStretch_20 rfl (lv_at hl 0 rfl) ?_
        refine xw_get (v := .ref (b + 18)) hx hb hts (fun w h => mw (uw_OP w h)) hown hK hP (XS_0 hX) (by decide) rfl 2 (by decide) (hts _ (mw tb_151)) (fun _ h => h) rfl d_OP_endOfStretch_21 ?_
        refine lv_iload_n hx hb d_OP_endOfStretch_24 rfl (lv_at hl 1 rfl) ?_
        refine lv_iload_n hx hb d_OP_endOfStretch_25 rfl (lv_at hl 3 rfl) ?_
        refine xc_V (n := 2) (As := [.int (nI d), .int (nI (f + n))]) (rest := [.ref (b + 217)]) (st0 := _) hx hb hml hown hts (c_PA_sumAt l D ca b _ d (f + n) hX (by omega) (by omega)) km_PA_sumAt tb_498 tb_195 tb_196 tb_4 (by decide +kernel) rfl rfl ⟨Nat.le_of_ble_eq_true rfl, Nat.le_of_ble_eq_true rfl⟩ hK hP (XS_18 hX) (by decide) rfl rfl rfl hl rfl (Nat.le_of_ble_eq_true rfl) d_OP_endOfStretch_26 ⟨Nat.zero_le _, Nat.zero_le _⟩ hS (fun _ h => h) (fun v C H locs hp hP _ _ hS => ?_)
        obtain ⟨rfl, hX⟩ := hp
        have hgi2 : gid 217 := (by unfold gid; decide)
        obtain ⟨ga2, gn2, hga2, hgb2, hgc2⟩ := XS_g hX 217 hgi2
        rw [gv_st] at hgc2
        have hoi2 : gid ((35 + 2 * (d * 12 + (f + n)))) := (by unfold gid; omega)
        obtain ⟨oa2, on2, hoa2, hob2, hoc2⟩ := XS_g hX ((35 + 2 * (d * 12 + (f + n)))) hoi2
        rw [gv_S (by omega) (by omega)] at hoc2
        have hne2 : 217 ≠ ((35 + 2 * (d * 12 + (f + n)))) := by omega
        refine xc_V (n := 1) (As := [.ref (b + (35 + 2 * (d * 12 + (f + n))))]) (rest := []) (st0 := _) hx hb hml hown hts (c_GR_add l D ca b 219 _ 217 ((35 + 2 * (d * 12 + (f + n)))) gn2 _ on2 _ ga2 oa2 hga2 hgb2 hoa2 hob2 (by unfold gid at hgi2; omega) (by unfold gid at hoi2; omega) ⟨hne2, by unfold gid at hgi2 hoi2; omega, by unfold gid at hgi2 hoi2; omega⟩ hgc2 hoc2) km_GR_add tb_555 tb_254 tb_255 tb_5 (by decide +kernel) rfl rfl ⟨Nat.le_of_ble_eq_true rfl, Nat.le_of_ble_eq_true rfl⟩ hK hP hga2 (by unfold gid at hgi2; omega) rfl rfl rfl hl rfl (Nat.le_of_ble_eq_true rfl) d_OP_endOfStretch_29 ⟨Nat.zero_le _, Nat.zero_le _⟩ hS (fun _ h => h) (fun v C H locs hp hP _ _ hS => ?_)
        obtain ⟨rfl, hG1, hG2⟩ := hp
        have hX := XS_set_gv hX hgi2 hG1 hG2
        have hX := gs_st hX
        refine lv_aload_n hx hb d_OP_endOfStretch_32 rfl (lv_at hl 0 rfl) ?_
        refine xw_get (v := .ref (b + 217)) hx hb hts (fun w h => mw (uw_OP w h)) hown hK hP (XS_0 hX) (by decide) rfl 4 (by decide) (hts _ (mw tb_153)) (fun _ h => h) rfl d_OP_endOfStretch_33 ?_
        refine lv_aload_n hx hb d_OP_endOfStretch_36 rfl (lv_at hl 0 rfl) ?_
        refine xw_get (v := .ref (b + 215)) hx hb hts (fun w h => mw (uw_OP w h)) hown hK hP (XS_0 hX) (by decide) rfl 3 (by decide) (hts _ (mw tb_152)) (fun _ h => h) rfl d_OP_endOfStretch_37 ?_
        have hgi3 : gid 217 := (by unfold gid; decide)
        obtain ⟨ga3, gn3, hga3, hgb3, hgc3⟩ := XS_g hX 217 hgi3
        rw [gv_st] at hgc3
        have hoi3 : gid 215 := (by unfold gid; decide)
        obtain ⟨oa3, on3, hoa3, hob3, hoc3⟩ := XS_g hX 215 hoi3
        rw [gv_wh] at hoc3
        have hne3 : 217 ≠ 215 := by omega
        refine xc_V (n := 1) (As := [.ref (b + 215)]) (rest := []) (st0 := _) hx hb hml hown hts (c_GR_isAtLeast l D ca b 219 _ 217 215 gn3 _ on3 _ ga3 oa3 hga3 hgb3 hoa3 hob3 (by unfold gid at hgi3; omega) (by unfold gid at hoi3; omega) ⟨hne3, by unfold gid at hgi3 hoi3; omega, by unfold gid at hgi3 hoi3; omega⟩ hgc3 hoc3 (by rw [← sm_s (fun j => S d (f + j)) n]; exact hB f (n + 1) (by omega)) hwh) km_GR_isAtLeast tb_556 tb_557 tb_558 tb_5 (by decide +kernel) rfl rfl ⟨Nat.le_of_ble_eq_true rfl, Nat.le_of_ble_eq_true rfl⟩ hK hP hga3 (by unfold gid at hgi3; omega) rfl rfl rfl hl rfl (Nat.le_of_ble_eq_true rfl) d_OP_endOfStretch_40 ⟨Nat.zero_le _, Nat.zero_le _⟩ hS (fun _ h => h) (fun v C H locs hp hP _ _ hS => ?_)
        obtain ⟨rfl, hG1, hG2⟩ := hp
        have hX := XS_same hX hgi3 (by rw [gv_st]; exact hG1) hG2
        refine xz_eq (tgt := 48) hx hb d_OP_endOfStretch_43 (by decide) (by split <;> decide) (fun h43 => ?_) (fun h43 => ?_)
        · skip
          refine lv_iinc (v := nI (f + n + 1)) (lv' := [(3, .int (nI (f + n + 1))), (0, .ref (b + 0)), (1, .int (nI d)), (2, .int (nI f))]) hx hb d_OP_endOfStretch_48 hl (k := 3) rfl (show nI (f + n) + Int32.ofInt 1 = nI (f + n + 1) from nI_add _ _) (by decide) rfl (fun ls hl => ?_)
          refine lv_goto (tgt := 10) hx hb d_OP_endOfStretch_51 (by decide) ?_
          exact ih10 (n + 1) _ _ _ _ (by omega) (by omega) (fun m hm => (Nat.lt_succ_iff_lt_or_eq.mp hm).elim (fun q => hI m q) (fun q => by rw [q, sm_s]; exact fun q2 => by rw [if_pos q2] at h43; exact absurd h43 (by decide))) hP hS hX (lv_sub hl [1, 2, 3, 0] rfl)
        · skip
          refine lv_iload_n hx hb d_OP_endOfStretch_46 rfl (lv_at hl 3 rfl) ?_
          exact xw_iret hx hb hr hlocks hP hS ⟨some (f + n), _, rfl, Or.inl ⟨n, rfl, by omega, by rw [sm_s]; exact Classical.byContradiction (fun q => h43 (if_neg q)), hI⟩, hX⟩ d_OP_endOfStretch_47
  exact loop10 13 0 _ _ _ _ (by omega) (by omega) (fun m hm => absurd hm (Nat.not_lt_zero _)) hP hS hX (lv_sub hl [1, 2, 3, 0] rfl)

/-- the shortest stretch among those that begin before a year -/
def srI (G : Nat → Nat → Prop) (f s1 : Nat) (z : Option Nat) : Prop := (z = none ∧ s1 = 13 ∧ ∀ e m, e < f → e + m < 12 → ¬ G e m) ∨ (∃ e n, e < f ∧ z = some (100 * e + e + n) ∧ s1 = n + 1 ∧ e + n < 12 ∧ G e n ∧ (∀ m e1, m < n → e1 < f → e1 + m < 12 → ¬ G e1 m) ∧ ∀ e1, e1 < e → ¬ G e1 n)
theorem srI.le {G : Nat → Nat → Prop} {f s1 : Nat} {z : Option Nat} (h : srI G f s1 z) : s1 ≤ 13 := by
  rcases h with ⟨-, a, -⟩ | ⟨e, n, -, -, a, b, -⟩ <;> omega
theorem srI.zle {G : Nat → Nat → Prop} {f s1 : Nat} {z : Option Nat} (h : srI G f s1 z) : ∀ d, z = some d → d < 2 ^ 31 := by
  intro d hd
  rcases h with ⟨a, -, -⟩ | ⟨e, n, -, a, -, b, -⟩
  · rw [a] at hd; cases hd
  · rw [a] at hd; cases hd; omega
theorem srI.keep {G : Nat → Nat → Prop} {f s1 : Nat} {z : Option Nat} (h : srI G f s1 z) (hf : ∀ m, f + m < 12 → m + 1 < s1 → ¬ G f m) : srI G (f + 1) s1 z := by
  rcases h with ⟨a1, a2, a3⟩ | ⟨e, n, a1, a2, a3, a4, a5, a6, a7⟩
  · refine Or.inl ⟨a1, a2, fun e m he hm => ?_⟩
    by_cases q : e = f
    · subst q; exact hf m hm (by omega)
    · exact a3 e m (by omega) hm
  · refine Or.inr ⟨e, n, by omega, a2, a3, a4, a5, fun m e1 hm he1 h1 => ?_, a7⟩
    by_cases q : e1 = f
    · subst q; exact hf m h1 (by omega)
    · exact a6 m e1 hm (by omega) h1
theorem srI.take {G : Nat → Nat → Prop} {f s1 n : Nat} {z : Option Nat} (h : srI G f s1 z) (h1 : f + n < 12) (h2 : n + 1 < s1) (h3 : G f n) (h4 : ∀ m, m < n → ¬ G f m) : srI G (f + 1) (n + 1) (some (100 * f + f + n)) := by
  refine Or.inr ⟨f, n, Nat.lt_succ_self _, rfl, rfl, h1, h3, fun m e1 hm he1 hx => ?_, fun e1 he1 => ?_⟩
  · by_cases q : e1 = f
    · subst q; exact h4 m hm
    · rcases h with ⟨a1, a2, a3⟩ | ⟨e, n1, a1, a2, a3, a4, a5, a6, a7⟩
      · exact a3 e1 m (by omega) hx
      · exact a6 m e1 (by omega) (by omega) hx
  · rcases h with ⟨a1, a2, a3⟩ | ⟨e, n1, a1, a2, a3, a4, a5, a6, a7⟩
    · exact a3 e1 n he1 (by omega)
    · exact a6 n e1 (by omega) he1 (by omega)
theorem srI.done {G : Nat → Nat → Prop} {s1 : Nat} {z : Option Nat} (h : srI G 12 s1 z) : nrwP G z := by
  rcases h with ⟨a1, a2, a3⟩ | ⟨e, n, a1, a2, a3, a4, a5, a6, a7⟩
  · exact Or.inr ⟨a1, fun e m h => a3 e m (by omega) h⟩
  · exact Or.inl ⟨e, n, a2, a4, a5, fun m e1 hm hx => a6 m e1 hm (by omega) hx, a7⟩
set_option maxHeartbeats 4000000 in
set_option maxRecDepth 100000 in
/-- the shortest stretch whose sums reach whole -/
theorem c_OP_shortestStretch (l : Launch) (D : va_G) (ca : Nat → ClassId) (b : Nat) (C0 : Nat → va_E) {wt : Nat → Nat → Nat} {ab : Nat → Nat} {be : Nat → Nat} {nd : Nat} {fr : Nat → Nat} {tt : Nat → Option Nat} {le : Nat → Nat} {mo : Nat → Nat} {nf : Nat → Bool} {tr : Nat → Nat} {nt : Nat} {nm : Nat} {fy : Nat → Option Nat} {fb : Nat → Option Nat} {od : Nat → Nat} {pa : Nat → Option Nat} {rp : Nat → Option Nat} {se : Nat → Bool} {im : Nat → Bool} {qd : Nat} {hm : Nat} {S : Nat → Nat → Nat} {I : Nat → Nat} {P : Nat → Nat} {pt : Nat} {ap : Nat} {fa : Nat} {wh : Nat} {st : Nat} (d : Nat) (hX : XS ca b C0 wt ab be nd fr tt le mo nf tr nt nm fy fb od pa rp se im qd hm (gvOf S I P pt ap fa wh st)) (hd : d < 6) (hwh : wh < gB ^ 6) (hB : ∀ f n, f + n ≤ 12 → sm (fun j => S d (f + j)) n < gB ^ 6) : Met l y_OP_shortestStretch (k_OP_shortestStretch :: gw) ({ frames := 3, cells := 0, slots := 0, locals := 77 }) (xPc D ca b 219 C0 [.ref (b + 0), .int (nI d)]) (xQ D b 219 (fun r C1 => ∃ (z : Option Nat) (s9 : Nat), r = some (.int (eo z)) ∧ nrwP (fun f n => wh ≤ sm (fun j => S d (f + j)) (n + 1)) z ∧ XS ca b C1 wt ab be nd fr tt le mo nf tr nt nm fy fb od pa rp se im qd hm (gvOf S I P pt ap fa wh s9))) 0 0 (xr b 219) := by
  refine Met.ofW (cc := b_OP_shortestStretch) (maxL := 7) (ret := (some FieldType.int)) (by decide) rfl ?_
  intro p e s m args below meth c s₁ B hml hv
  obtain ⟨hav, hP, hK⟩ := hv
  have hx := B.exec
  have hb := B.bytes
  have hr := B.returns
  have hts := atoms_spec (ws := k_OP_shortestStretch :: gw) B.pre
  have hown : s.vm.findClass R_OP = some m.cls := findClass_of_methodNamed B.named
  have hlocks := B.notSynchronized
  have hA : ∀ k, k < 219 → xr b 219 (b + k) := xr_in
  have hS : va_S (xr b 219) s.heap s.heap [] := va_S.rf
  have hl := lv_entry ([.ref (b + 0), .int (nI d)]) (n := 7) (Nat.le_of_ble_eq_true rfl)
  rw [hav, lg_entry_eq]
  generalize (lg_sl ([.ref (b + 0), .int (nI d)]) ++ List.replicate (7 - (lg_sl ([.ref (b + 0), .int (nI d)])).length) Slot.unset).toArray = ls at hl ⊢
  have hl : lv_has ls 7 [(0, .ref (b + 0)), (1, .int (nI d))] := hl
  rw [← hav]
  refine lv_bipush (v := nI 13) hx hb d_OP_shortestStretch_0 (by decide) ?_
  refine lv_istore_n (lv' := [(2, .int (nI 13)), (0, .ref (b + 0)), (1, .int (nI d))]) hx hb d_OP_shortestStretch_2 rfl hl (by decide) rfl (fun ls hl => ?_)
  refine lv_iconst (v := (-1)) hx hb d_OP_shortestStretch_3 (by decide) ?_
  refine lv_istore_n (lv' := [(3, .int ((-1))), (2, .int (nI 13)), (0, .ref (b + 0)), (1, .int (nI d))]) hx hb d_OP_shortestStretch_4 rfl hl (by decide) rfl (fun ls hl => ?_)
  refine lv_iconst (v := nI 0) hx hb d_OP_shortestStretch_5 (by decide) ?_
  refine lv_istore (lv' := [(4, .int (nI 0)), (3, .int ((-1))), (2, .int (nI 13)), (0, .ref (b + 0)), (1, .int (nI d))]) hx hb d_OP_shortestStretch_6 hl (by decide) rfl (fun ls hl => ?_)
  have loop8 : ∀ (r : Nat) (f : Nat) (s1 : Nat) (an : Option Nat) (s9 : Nat) (C : Nat → va_E) (H : Heap) (locs : List Loc) (ls : Array Slot), 12 < f + r → f ≤ 12 → srI (fun f n => wh ≤ sm (fun j => S d (f + j)) (n + 1)) f s1 an → va_P D classes (wl b 219 C) H → va_S (xr b 219) s.heap H locs → XS ca b C wt ab be nd fr tt le mo nf tr nt nm fy fb od pa rp se im qd hm (gvOf S I P pt ap fa wh s9) → lv_has ls 7 [(0, .ref (b + 0)), (1, .int (nI d)), (2, .int (nI s1)), (3, .int (eo an)), (4, .int (nI f))] → W p l e (headSpec (k_OP_shortestStretch :: gw) ({ frames := 3, cells := 0, slots := 0, locals := 77 })).room s m args below meth c H locs 0 0 (MQ below (xQ D b 219 (fun r C1 => ∃ (z : Option Nat) (s9 : Nat), r = some (.int (eo z)) ∧ nrwP (fun f n => wh ≤ sm (fun j => S d (f + j)) (n + 1)) z ∧ XS ca b C1 wt ab be nd fr tt le mo nf tr nt nm fy fb od pa rp se im qd hm (gvOf S I P pt ap fa wh s9))) args s 0 0 (xr b 219)) (F0 m 8 ls []) := by
    intro r
    induction r with
    | zero => intro f s1 an s9 C H locs ls hms hf hI; exact absurd hms (by omega)
    | succ r ih8 =>
      intro f s1 an s9 C H locs ls hms hf hI hP hS hX hl
      refine lv_iload hx hb d_OP_shortestStretch_8 (lv_at hl 4 rfl) ?_
      refine lv_bipush (v := nI 12) hx hb d_OP_shortestStretch_10 (by decide) ?_
      refine xi_ge (tgt := 63) hx hb d_OP_shortestStretch_12 (by decide) (by omega) (by omega) (fun h12 => ?_) (fun h12 => ?_)
      · skip
        refine lv_iload_n hx hb d_OP_shortestStretch_63 rfl (lv_at hl 3 rfl) ?_
        exact xw_iret hx hb hr hlocks hP hS ⟨an, _, rfl, srI.done (by rw [show (12 : Nat) = f by omega]; exact hI), hX⟩ d_OP_shortestStretch_64
      · skip
        refine lv_aload_n hx hb d_OP_shortestStretch_15 rfl (lv_at hl 0 rfl) ?_
        refine lv_iload_n hx hb d_OP_shortestStretch_16 rfl (lv_at hl 1 rfl) ?_
        refine lv_iload hx hb d_OP_shortestStretch_17 (lv_at hl 4 rfl) ?_
        refine xc_V (n := 2) (As := [.int (nI d), .int (nI f)]) (rest := []) (st0 := _) hx hb hml hown hts (c_OP_endOfStretch l D ca b _ d f hX hd (by omega) hwh hB) km_OP_endOfStretch tb_551 tb_553 tps_18 tb_1 (by decide +kernel) rfl rfl ⟨Nat.le_of_ble_eq_true rfl, Nat.le_of_ble_eq_true rfl⟩ hK hP (XS_0 hX) (by decide) rfl rfl rfl hl rfl (Nat.le_of_ble_eq_true rfl) d_OP_shortestStretch_19 ⟨Nat.zero_le _, Nat.zero_le _⟩ hS (fun _ h => h) (fun v C H locs hp hP _ _ hS => ?_)
        obtain ⟨z, s9, rfl, hz, hX⟩ := hp
        refine lv_istore (lv' := [(5, .int (eo z)), (0, .ref (b + 0)), (1, .int (nI d)), (2, .int (nI s1)), (3, .int (eo an)), (4, .int (nI f))]) hx hb d_OP_shortestStretch_22 hl (by decide) rfl (fun ls hl => ?_)
        refine lv_iload hx hb d_OP_shortestStretch_24 (lv_at hl 0 rfl) ?_
        refine lv_iload hx hb d_OP_shortestStretch_26 (lv_at hl 5 rfl) ?_
        refine lv_isub hx hb d_OP_shortestStretch_28 ?_
        refine lv_iconst (v := nI 1) hx hb d_OP_shortestStretch_29 (by decide) ?_
        refine lv_iadd hx hb d_OP_shortestStretch_30 ?_
        refine lv_istore (lv' := [(6, .int (((((eo z) - (nI f))) + (nI 1)))), (5, .int (eo z)), (0, .ref (b + 0)), (1, .int (nI d)), (2, .int (nI s1)), (3, .int (eo an)), (4, .int (nI f))]) hx hb d_OP_shortestStretch_31 hl (by decide) rfl (fun ls hl => ?_)
        refine lv_iload hx hb d_OP_shortestStretch_33 (lv_at hl 1 rfl) ?_
        refine lv_iconst (v := (-1)) hx hb d_OP_shortestStretch_35 (by decide) ?_
        refine xo_eq (tgt := 57) hx hb d_OP_shortestStretch_36 (by decide) (fun q9 h9 => by rcases hz with ⟨n9, a1, a2, -⟩ | ⟨a1, -⟩ <;> rw [a1] at h9 <;> cases h9; omega) (fun h36 => ?_) (fun d36 h36 => ?_)
        · skip
          have hzn : ∀ n, f + n < 12 → ¬ (fun f n => wh ≤ sm (fun j => S d (f + j)) (n + 1)) f n := by
            rcases hz with ⟨n9, a1, -, -⟩ | ⟨-, a2⟩
            · rw [a1] at h36; cases h36
            · exact a2
          refine lv_iinc (v := nI (f + 1)) (lv' := [(4, .int (nI (f + 1))), (6, .int (((((eo z) - (nI f))) + (nI 1)))), (5, .int (eo z)), (0, .ref (b + 0)), (1, .int (nI d)), (2, .int (nI s1)), (3, .int (eo an))]) hx hb d_OP_shortestStretch_57 hl (k := 6) rfl (show nI f + Int32.ofInt 1 = nI (f + 1) from nI_add _ _) (by decide) rfl (fun ls hl => ?_)
          refine lv_goto (tgt := 8) hx hb d_OP_shortestStretch_60 (by decide) ?_
          exact ih8 (f + 1) s1 an _ _ _ _ _ (by omega) (by omega) (hI.keep (fun m hm _ => hzn m hm)) hP hS hX (lv_sub hl [3, 4, 5, 6, 0] rfl)
        · skip
          obtain ⟨n9, hn1, hn2, hn3, hn4⟩ : ∃ n, d36 = f + n ∧ f + n < 12 ∧ wh ≤ sm (fun j => S d (f + j)) (n + 1) ∧ ∀ m, m < n → ¬ wh ≤ sm (fun j => S d (f + j)) (m + 1) := by
            rcases hz with ⟨n9, a1, a2, a3, a4⟩ | ⟨a1, -⟩
            · rw [a1] at h36; cases h36; exact ⟨n9, rfl, a2, a3, a4⟩
            · rw [a1] at h36; cases h36
          have hle := hI.le
          rw [h36, show eo (some d36) - nI f + nI 1 = nI (n9 + 1) from by rw [show eo (some d36) = nI d36 from rfl, hn1, pk_sub (by omega), nI_add]; congr 1; omega, show eo (some d36) = nI (f + n9) from by rw [hn1]; rfl] at hl
          refine lv_iload hx hb d_OP_shortestStretch_39 (lv_at hl 0 rfl) ?_
          refine lv_iload_n hx hb d_OP_shortestStretch_41 rfl (lv_at hl 4 rfl) ?_
          refine xi_ge (tgt := 57) hx hb d_OP_shortestStretch_42 (by decide) (by omega) (by omega) (fun h42 => ?_) (fun h42 => ?_)
          · skip
            refine lv_iinc (v := nI (f + 1)) (lv' := [(4, .int (nI (f + 1))), (6, .int (nI (n9 + 1))), (5, .int (nI (f + n9))), (0, .ref (b + 0)), (1, .int (nI d)), (2, .int (nI s1)), (3, .int (eo an))]) hx hb d_OP_shortestStretch_57 hl (k := 6) rfl (show nI f + Int32.ofInt 1 = nI (f + 1) from nI_add _ _) (by decide) rfl (fun ls hl => ?_)
            refine lv_goto (tgt := 8) hx hb d_OP_shortestStretch_60 (by decide) ?_
            exact ih8 (f + 1) s1 an _ _ _ _ _ (by omega) (by omega) (hI.keep (fun m hm hs => hn4 m (by omega))) hP hS hX (lv_sub hl [3, 4, 5, 6, 0] rfl)
          · skip
            refine lv_iload hx hb d_OP_shortestStretch_45 (lv_at hl 0 rfl) ?_
            refine lv_istore_n (lv' := [(2, .int (nI (n9 + 1))), (6, .int (nI (n9 + 1))), (5, .int (nI (f + n9))), (0, .ref (b + 0)), (1, .int (nI d)), (3, .int (eo an)), (4, .int (nI f))]) hx hb d_OP_shortestStretch_47 rfl hl (by decide) rfl (fun ls hl => ?_)
            refine lv_bipush (v := nI 100) hx hb d_OP_shortestStretch_48 (by decide) ?_
            refine lv_iload hx hb d_OP_shortestStretch_50 (lv_at hl 6 rfl) ?_
            refine lv_imul hx hb d_OP_shortestStretch_52 ?_
            refine ti (nI (100 * f)) (pk_mul _ _) ?_
            refine lv_iload hx hb d_OP_shortestStretch_53 (lv_at hl 2 rfl) ?_
            refine lv_iadd hx hb d_OP_shortestStretch_55 ?_
            refine ti (nI ((100 * f) + (f + n9))) (nI_add _ _) ?_
            refine lv_istore_n (lv' := [(3, .int (nI ((100 * f) + (f + n9)))), (2, .int (nI (n9 + 1))), (6, .int (nI (n9 + 1))), (5, .int (nI (f + n9))), (0, .ref (b + 0)), (1, .int (nI d)), (4, .int (nI f))]) hx hb d_OP_shortestStretch_56 rfl hl (by decide) rfl (fun ls hl => ?_)
            rw [show nI (100 * f + (f + n9)) = eo (some (100 * f + f + n9)) from by show _ = nI _; congr 1; omega] at hl
            refine lv_iinc (v := nI (f + 1)) (lv' := [(4, .int (nI (f + 1))), (3, .int (eo (some (100 * f + f + n9)))), (2, .int (nI (n9 + 1))), (6, .int (nI (n9 + 1))), (5, .int (nI (f + n9))), (0, .ref (b + 0)), (1, .int (nI d))]) hx hb d_OP_shortestStretch_57 hl (k := 6) rfl (show nI f + Int32.ofInt 1 = nI (f + 1) from nI_add _ _) (by decide) rfl (fun ls hl => ?_)
            refine lv_goto (tgt := 8) hx hb d_OP_shortestStretch_60 (by decide) ?_
            exact ih8 (f + 1) (n9 + 1) (some (100 * f + f + n9)) _ _ _ _ _ (by omega) (by omega) (hI.take hn2 (by omega) hn3 hn4) hP hS hX (lv_sub hl [5, 6, 2, 1, 0] rfl)
  rw [show (-1 : Int32) = eo none from rfl] at hl
  exact loop8 13 0 13 none st _ _ _ _ (by omega) (by omega) (Or.inl ⟨rfl, rfl, fun e m he => absurd he (Nat.not_lt_zero _)⟩) hP hS hX (lv_sub hl [3, 4, 2, 1, 0] rfl)

