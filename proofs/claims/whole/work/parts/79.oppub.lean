/-! OrderPassing: date, weight, outlier, row, member -/
theorem isN_le {x : Int32} {n : Nat} (hn : n + 1 < 2 ^ 31) (h0 : ¬ x < 0) (h : x ≤ nI n) : isN x (n + 1) := by
  obtain ⟨j, q1, q2⟩ := nI_of h0
  rw [q2] at h
  exact ⟨j, Nat.lt_succ_of_le ((nI_leI q1 (by omega)).mp h), q2⟩
theorem isN_gt {x : Int32} {n : Nat} (hn : n + 1 < 2 ^ 31) (h : ¬ x ≤ nI n) : ¬ isN x (n + 1) := fun ⟨j, q1, q2⟩ => h (by rw [q2]; exact (nI_leI (by omega) (by omega)).mpr (by omega))
theorem nat_of {x : Int32} (h : ¬ x < 0) : ∃ j : Nat, j < 2 ^ 31 ∧ x = nI j := nI_of h
theorem nneg {j : Nat} (h : j < 2 ^ 31) : ¬ nI j < 0 := nI_pos h
def outE (a x : Int32) : Prop := ∃ a9 b9, 1 ≤ b9 ∧ b9 ≤ 10 ∧ a9 ≤ b9 ∧ a = nI a9 ∧ x = nI b9
theorem out_ok {a x : Int32} (h1 : ¬ x < nI 1) (h2 : ¬ nI 10 < x) (h3 : ¬ a < 0) (h4 : a ≤ x) : outE a x := by
  have h0 : ¬ x < 0 := fun q => h1 (Int32.lt_trans q (by decide))
  obtain ⟨b9, q1, rfl⟩ := nI_of h0
  obtain ⟨a9, q2, rfl⟩ := nI_of h3
  have e1 : ¬ b9 < 1 := fun q => h1 ((nI_ltI q1 (by decide)).mpr q)
  have e2 : ¬ 10 < b9 := fun q => h2 ((nI_ltI (by decide) q1).mpr q)
  have e3 := (nI_leI q2 q1).mp h4
  exact ⟨a9, b9, by omega, by omega, e3, rfl, rfl⟩
theorem out_1 {a x : Int32} (h : x < nI 1) : ¬ outE a x := fun ⟨a9, b9, g1, g2, g3, g4, g5⟩ => by
  rw [g5] at h; have := (nI_ltI (by omega) (by decide)).mp h; omega
theorem out_2 {a x : Int32} (h : nI 10 < x) : ¬ outE a x := fun ⟨a9, b9, g1, g2, g3, g4, g5⟩ => by
  rw [g5] at h; have := (nI_ltI (by decide) (by omega)).mp h; omega
theorem out_3 {a x : Int32} (h : a < 0) : ¬ outE a x := fun ⟨a9, b9, g1, g2, g3, g4, g5⟩ => by
  rw [g4] at h; exact absurd h (nI_pos (by omega))
theorem out_4 {a x : Int32} (h : ¬ a ≤ x) : ¬ outE a x := fun ⟨a9, b9, g1, g2, g3, g4, g5⟩ => by
  rw [g4, g5] at h; exact h ((nI_leI (by omega) (by omega)).mpr g3)
def rowE (lo hi : Int32) : Prop := ∃ lo9 hi9, lo9 ≤ hi9 ∧ hi9 < 12 ∧ lo = nI lo9 ∧ hi = nI hi9
theorem row_ok {lo hi : Int32} (h1 : ¬ lo < 0) (h2 : ¬ hi < lo) (h3 : hi < nI 12) : rowE lo hi := by
  obtain ⟨a, q1, rfl⟩ := nI_of h1
  have h0 : ¬ hi < 0 := fun q => h2 (Int32.lt_of_lt_of_le q (Int32.not_lt.mp h1))
  obtain ⟨b9, q2, rfl⟩ := nI_of h0
  have e1 : ¬ b9 < a := fun q => h2 ((nI_ltI q2 q1).mpr q)
  have e2 := (nI_ltI q2 (by decide)).mp h3
  exact ⟨a, b9, by omega, e2, rfl, rfl⟩
theorem row_1 {lo hi : Int32} (h : lo < 0) : ¬ rowE lo hi := fun ⟨a, b9, g1, g2, g3, g4⟩ => by
  rw [g3] at h; exact absurd h (nI_pos (by omega))
theorem row_2 {lo hi : Int32} (h : hi < lo) : ¬ rowE lo hi := fun ⟨a, b9, g1, g2, g3, g4⟩ => by
  rw [g3, g4] at h; have := (nI_ltI (by omega) (by omega)).mp h; omega
theorem row_3 {lo hi : Int32} (h : ¬ hi < nI 12) : ¬ rowE lo hi := fun ⟨a, b9, g1, g2, g3, g4⟩ => by
  rw [g4] at h; exact h ((nI_ltI (by omega) (by decide)).mpr g2)
set_option maxHeartbeats 4000000 in
set_option maxRecDepth 100000 in
/-- a date is opened -/
theorem c_OP_date (l : Launch) (hst : l.stackTraces = false) (D : va_G) (ca : Nat → ClassId) (b : Nat) (C0 : Nat → va_E) {nd nt : Nat} {mwt mab mbe on1 ot2 lea mos : Nat → Nat}  (hM : XM ca b C0 nd nt mwt mab mbe on1 ot2 lea mos) (hH : MH on1 ot2 lea mos mwt mab mbe nt nd)  : TMet l y_OP_date (k_OP_date :: gw) ({ frames := 7, cells := 8, slots := 48, locals := 111 }) (tPc D ca b 219 C0 [.ref (b + 0)]) (tQ D b 219 (xr b 219) (fun r C1 => nd < 6 ∧ r = some (.int (nI nd)) ∧ XM ca b C1 (nd + 1) nt mwt mab (va_up mbe nd 1) on1 ot2 lea mos) (fun X => X = nISE ∧ 6 ≤ nd)) 8 48 (xr b 219) := by
  obtain ⟨wt, ab, be, fr, tt, le, mo, nf, tr, nm, fy, fb, k, im, hm, S, I, P, pt, ap, fa, wh, st, hX, hR, hnf, hfy0, hfb0⟩ := hM
  have hd6 := hH.D.1
  have hn6 := hH.M.1
  refine tm_ofW (cc := b_OP_date) (maxL := 1) (ret := (some FieldType.int)) (by decide) rfl ?_
  intro p e s m args below meth c s₁ B hml hv
  obtain ⟨hav, hP, hK, hE⟩ := hv
  have hx := B.exec
  have hb := B.bytes
  have hr := B.returns
  have hts := atoms_spec (ws := k_OP_date :: gw) B.pre
  have hown : s.vm.findClass R_OP = some m.cls := findClass_of_methodNamed B.named
  have hlocks := B.notSynchronized
  have hnoh := B.noHandlers (hts _ List.mem_cons_self)
  have htr : e.platform.stackTraces = false := by rw [(Stand.of_body B).admits.platform]; exact hst
  have hA : ∀ k, k < 219 → xr b 219 (b + k) := xr_in
  have hN : nCh s.heap s.heap := va_S.rf
  have hl := lv_entry ([.ref (b + 0)]) (n := 1) (Nat.le_of_ble_eq_true rfl)
  rw [hav, lg_entry_eq]
  generalize (lg_sl ([.ref (b + 0)]) ++ List.replicate (1 - (lg_sl ([.ref (b + 0)])).length) Slot.unset).toArray = ls at hl ⊢
  have hl : lv_has ls 1 [(0, .ref (b + 0))] := hl
  rw [← hav]
  refine lv_aload_n hx hb d_OP_date_0 rfl (lv_at hl 0 rfl) ?_
  refine xw_get (v := .ref (b + 1)) hx hb hts (fun w h => mw (uw_OP w h)) hown hK hP (XS_0 hX) (by decide) rfl 0 (by decide) (hts _ (mw tb_149)) (fun _ h => h) rfl d_OP_date_1 ?_
  refine xg_V (n := 0) (As := []) (rest := []) (st0 := _) hx hb hml hown hts (c0_DA_number l D ca b _ hX) km_DA_number tb_173 tb_174 tb_175 tb_2 (by decide +kernel) rfl rfl ⟨by decide, by decide⟩ hK hP (XS_1 hX) (by decide) rfl rfl rfl hl rfl (Nat.le_of_ble_eq_true rfl) d_OP_date_4 ⟨by decide, by decide⟩ hN (fun v H hp hP hN => ?_)
  subst hp
  refine lv_bipush (v := nI 6) hx hb d_OP_date_7 (by decide) ?_
  refine xi_lt (tgt := 22) hx hb d_OP_date_9 (by decide) (by omega) (by omega) (fun h9 => ?_) (fun h9 => ?_)
  · skip
    refine lv_aload_n hx hb d_OP_date_22 rfl (lv_at hl 0 rfl) ?_
    refine xw_get (v := .ref (b + 1)) hx hb hts (fun w h => mw (uw_OP w h)) hown hK hP (XS_0 hX) (by decide) rfl 0 (by decide) (hts _ (mw tb_149)) (fun _ h => h) rfl d_OP_date_23 ?_
    have hS : va_S (xr b 219) s.heap _ [] := hN.to
    refine xc_V (n := 0) (As := []) (rest := []) (st0 := _) hx hb hml hown hts (c_DA_open l D ca b _  hX h9) km_DA_open tb_367 tb_368 tb_369 tb_2 (by decide +kernel) rfl rfl ⟨Nat.le_of_ble_eq_true rfl, Nat.le_of_ble_eq_true rfl⟩ hK hP (XS_1 hX) (by decide) rfl rfl rfl hl rfl (Nat.le_of_ble_eq_true rfl) d_OP_date_26 ⟨by decide, by decide⟩ hS (fun _ h => h) (fun v C H locs hp hP _ _ hS => ?_)
    obtain ⟨rfl, hX⟩ := hp
    exact xt_iret hx hb hr hlocks hP hS (by decide) (by decide) (fun _ h => h) ⟨h9, rfl, ⟨_, _, _, _, _, _, _, _, _, _, _, _, k, im, hm, S, I, P, _, _, _, _, _, hX, RL_date hR nd 1, hnf, hfy0, hfb0⟩⟩ d_OP_date_29
  · skip
    exact xt_throw (istr := 46) (text := "there are six dates") (ix := 7) (bx := Bundle.six) hx hb hml hown htr hlocks hnoh (hts _ (mw tb_299)) (hts _ (mw tb_300)) (hts _ (mw tb_11)) (ex_str (State.WarmedH.refl _) (hE.2.2.2.1 (46, _) (by decide))) (own_ok hts hE ownI_in) (by decide +kernel) ⟨by decide +kernel, by decide +kernel, by decide +kernel, by decide +kernel⟩ d_OP_date_12 d_OP_date_15 d_OP_date_16 d_OP_date_18 d_OP_date_21 hN hl ⟨rfl, h9⟩ ⟨by decide, by decide⟩ ⟨by decide, by decide⟩ (by decide) (by decide)

set_option maxHeartbeats 4000000 in
set_option maxRecDepth 100000 in
/-- a weight is set -/
theorem c_OP_weight (l : Launch) (hst : l.stackTraces = false) (D : va_G) (ca : Nat → ClassId) (b : Nat) (C0 : Nat → va_E) {nd nt : Nat} {mwt mab mbe on1 ot2 lea mos : Nat → Nat} (d y x : Int32) (hM : XM ca b C0 nd nt mwt mab mbe on1 ot2 lea mos) (hH : MH on1 ot2 lea mos mwt mab mbe nt nd)  : TMet l y_OP_weight (k_OP_weight :: gw) ({ frames := 7, cells := 8, slots := 48, locals := 111 }) (tPc D ca b 219 C0 [.ref (b + 0), .int d, .int y, .int x]) (tQ D b 219 (xr b 219) (fun r C1 => ∃ d9 y9 x9, d9 < nd ∧ y9 < 12 ∧ x9 < 1000 ∧ d = nI d9 ∧ y = nI y9 ∧ x = nI x9 ∧ r = some (.int (nI (mwt (12 * d9 + y9)))) ∧ XM ca b C1 nd nt (va_up mwt (12 * d9 + y9) x9) mab mbe on1 ot2 lea mos) (fun X => (X = nNSE ∧ ¬ (isN d nd ∧ isN y 12)) ∨ (X = nIAE ∧ (isN d nd ∧ isN y 12) ∧ ¬ isN x 1000))) 8 48 (xr b 219) := by
  obtain ⟨wt, ab, be, fr, tt, le, mo, nf, tr, nm, fy, fb, k, im, hm, S, I, P, pt, ap, fa, wh, st, hX, hR, hnf, hfy0, hfb0⟩ := hM
  have hd6 := hH.D.1
  have hn6 := hH.M.1
  refine tm_ofW (cc := b_OP_weight) (maxL := 4) (ret := (some FieldType.int)) (by decide) rfl ?_
  intro p e s m args below meth c s₁ B hml hv
  obtain ⟨hav, hP, hK, hE⟩ := hv
  have hx := B.exec
  have hb := B.bytes
  have hr := B.returns
  have hts := atoms_spec (ws := k_OP_weight :: gw) B.pre
  have hown : s.vm.findClass R_OP = some m.cls := findClass_of_methodNamed B.named
  have hlocks := B.notSynchronized
  have hnoh := B.noHandlers (hts _ List.mem_cons_self)
  have htr : e.platform.stackTraces = false := by rw [(Stand.of_body B).admits.platform]; exact hst
  have hA : ∀ k, k < 219 → xr b 219 (b + k) := xr_in
  have hN : nCh s.heap s.heap := va_S.rf
  have hl := lv_entry ([.ref (b + 0), .int d, .int y, .int x]) (n := 4) (Nat.le_of_ble_eq_true rfl)
  rw [hav, lg_entry_eq]
  generalize (lg_sl ([.ref (b + 0), .int d, .int y, .int x]) ++ List.replicate (4 - (lg_sl ([.ref (b + 0), .int d, .int y, .int x])).length) Slot.unset).toArray = ls at hl ⊢
  have hl : lv_has ls 4 [(0, .ref (b + 0)), (1, .int d), (2, .int y), (3, .int x)] := hl
  rw [← hav]
  refine lv_aload_n hx hb d_OP_weight_0 rfl (lv_at hl 0 rfl) ?_
  refine lv_iload_n hx hb d_OP_weight_1 rfl (lv_at hl 1 rfl) ?_
  refine xt_go (tm_V (As := [.int d]) (rest := []) (g := F0 m 2 ls [.int d, .ref (b + 0)]) ⟨hx, hb, hml, hown, hts⟩ (c_OP_needDate l hst D ca b _ d hX hd6) (cwV 1 hts (gi_V km_OP_needDate tb_380 tb_382 tps_13 tb_1) rfl rfl rfl (by decide +kernel) ⟨by decide, by decide⟩) ⟨tPc_blind, va_recv hK hP rfl (wl_at (XS_0 hX) (by decide)), fun U hU hW => ⟨rfl, by rw [hU]; exact hP, va_K.moved hW.alike hK, hN.E hU hW hE⟩⟩ rfl rfl hl.1 rfl (Nat.le_of_ble_eq_true rfl) d_OP_weight_2 ⟨by decide, by decide⟩) hnoh hlocks hN (by decide) (by decide) (fun v C1 H hp hP hN => ?_) (fun X hX9 => (Or.inl ⟨hX9.1, fun q9 => hX9.2 q9.1⟩))
  obtain ⟨rfl, hCe, hi2⟩ := hp
  rw [hCe] at hP
  obtain ⟨d9, hd9, hde⟩ := id hi2
  rw [hde] at hl
  refine lv_iload_n hx hb d_OP_weight_5 rfl (lv_at hl 2 rfl) ?_
  refine xt_go (tm_S (As := [.int y]) (rest := []) (g := F0 m 6 ls [.int y]) ⟨hx, hb, hml, hown, hts⟩ (c_OP_needYear l hst D ca b _ y) (cwS 1 hts (gi_S km_OP_needYear tb_400 tb_401 tb_1) rfl rfl rfl (by decide +kernel) ⟨by decide, by decide⟩) ⟨tPc_blind, fun U hU hW => ⟨rfl, by rw [hU]; exact hP, va_K.moved hW.alike hK, hN.E hU hW hE⟩⟩ rfl rfl hl.1 rfl (Nat.le_of_ble_eq_true rfl) d_OP_weight_6 ⟨by decide, by decide⟩) hnoh hlocks hN (by decide) (by decide) (fun v C1 H hp hP hN => ?_) (fun X hX9 => (Or.inl ⟨hX9.1, fun q9 => hX9.2 q9.2⟩))
  obtain ⟨rfl, hCe, hi6⟩ := hp
  rw [hCe] at hP
  obtain ⟨y9, hy9, hye⟩ := id hi6
  rw [hye] at hl
  refine lv_iload_n hx hb d_OP_weight_9 rfl (lv_at hl 3 rfl) ?_
  refine lv_if_lt (tgt := 20) hx hb d_OP_weight_10 (by decide) (fun h10 => ?_) (fun h10 => ?_)
  · skip
    exact xt_throw (istr := 63) (text := "the weight is not 0 .. 999") (ix := 7) (bx := Bundle.six) hx hb hml hown htr hlocks hnoh (hts _ (mw tb_404)) (hts _ (mw tb_405)) (hts _ (mw tb_13)) (ex_str (State.WarmedH.refl _) (hE.2.2.2.1 (63, _) (by decide))) (own_ok hts hE ownA_in) (by decide +kernel) ⟨by decide +kernel, by decide +kernel, by decide +kernel, by decide +kernel⟩ d_OP_weight_20 d_OP_weight_23 d_OP_weight_24 d_OP_weight_26 d_OP_weight_29 hN hl (Or.inr ⟨rfl, ⟨hi2, hi6⟩, isN_neg h10 (by decide)⟩) ⟨by decide, by decide⟩ ⟨by decide, by decide⟩ (by decide) (by decide)
  · skip
    refine lv_iload_n hx hb d_OP_weight_13 rfl (lv_at hl 3 rfl) ?_
    refine lv_sipush (v := nI 999) hx hb d_OP_weight_14 (by decide) ?_
    refine lv_icmp_le (tgt := 30) hx hb d_OP_weight_17 (by decide) (fun h17 => ?_) (fun h17 => ?_)
    · skip
      obtain ⟨x9, hx9, hxe⟩ := isN_le (n := 999) (by decide) h10 h17
      rw [hxe] at hl
      refine lv_aload_n hx hb d_OP_weight_30 rfl (lv_at hl 0 rfl) ?_
      refine xw_get (v := .ref (b + 1)) hx hb hts (fun w h => mw (uw_OP w h)) hown hK hP (XS_0 hX) (by decide) rfl 0 (by decide) (hts _ (mw tb_149)) (fun _ h => h) rfl d_OP_weight_31 ?_
      refine lv_iload_n hx hb d_OP_weight_34 rfl (lv_at hl 1 rfl) ?_
      refine lv_iload_n hx hb d_OP_weight_35 rfl (lv_at hl 2 rfl) ?_
      refine lv_iload_n hx hb d_OP_weight_36 rfl (lv_at hl 3 rfl) ?_
      have hS : va_S (xr b 219) s.heap _ [] := hN.to
      refine xc_V (n := 3) (As := [.int (nI d9), .int (nI y9), .int (nI x9)]) (rest := []) (st0 := _) hx hb hml hown hts (c_DA_changeWeight l D ca b _ d9 y9 x9 hX (by omega) (by omega)) km_DA_changeWeight tb_420 tb_421 tb_422 tb_2 (by decide +kernel) rfl rfl ⟨Nat.le_of_ble_eq_true rfl, Nat.le_of_ble_eq_true rfl⟩ hK hP (XS_1 hX) (by decide) rfl rfl rfl hl rfl (Nat.le_of_ble_eq_true rfl) d_OP_weight_37 ⟨by decide, by decide⟩ hS (fun _ h => h) (fun v C H locs hp hP _ _ hS => ?_)
      obtain ⟨rfl, hX⟩ := hp
      exact xt_iret hx hb hr hlocks hP hS (by decide) (by decide) (fun _ h => h) ⟨d9, y9, x9, hd9, hy9, hx9, hde, hye, hxe, by rw [hR.1 d9 (by omega) y9 hy9], ⟨_, _, _, _, _, _, _, _, _, _, _, _, k, im, hm, S, I, P, _, _, _, _, _, hX, RL_weight hR x9 hy9, hnf, hfy0, hfb0⟩⟩ d_OP_weight_40
    · skip
      exact xt_throw (istr := 63) (text := "the weight is not 0 .. 999") (ix := 7) (bx := Bundle.six) hx hb hml hown htr hlocks hnoh (hts _ (mw tb_404)) (hts _ (mw tb_405)) (hts _ (mw tb_13)) (ex_str (State.WarmedH.refl _) (hE.2.2.2.1 (63, _) (by decide))) (own_ok hts hE ownA_in) (by decide +kernel) ⟨by decide +kernel, by decide +kernel, by decide +kernel, by decide +kernel⟩ d_OP_weight_20 d_OP_weight_23 d_OP_weight_24 d_OP_weight_26 d_OP_weight_29 hN hl (Or.inr ⟨rfl, ⟨hi2, hi6⟩, isN_gt (by decide) h17⟩) ⟨by decide, by decide⟩ ⟨by decide, by decide⟩ (by decide) (by decide)

set_option maxHeartbeats 4000000 in
set_option maxRecDepth 100000 in
/-- a share is set -/
theorem c_OP_outlier (l : Launch) (hst : l.stackTraces = false) (D : va_G) (ca : Nat → ClassId) (b : Nat) (C0 : Nat → va_E) {nd nt : Nat} {mwt mab mbe on1 ot2 lea mos : Nat → Nat} (d a x : Int32) (hM : XM ca b C0 nd nt mwt mab mbe on1 ot2 lea mos) (hH : MH on1 ot2 lea mos mwt mab mbe nt nd)  : TMet l y_OP_outlier (k_OP_outlier :: gw) ({ frames := 7, cells := 8, slots := 48, locals := 111 }) (tPc D ca b 219 C0 [.ref (b + 0), .int d, .int a, .int x]) (tQ D b 219 (xr b 219) (fun r C1 => r = none ∧ ∃ d9 a9 b9, d9 < nd ∧ 1 ≤ b9 ∧ b9 ≤ 10 ∧ a9 ≤ b9 ∧ d = nI d9 ∧ a = nI a9 ∧ x = nI b9 ∧ XM ca b C1 nd nt mwt (va_up mab d9 a9) (va_up mbe d9 b9) on1 ot2 lea mos) (fun X => (X = nNSE ∧ ¬ isN d nd) ∨ (X = nIAE ∧ isN d nd ∧ ¬ outE a x))) 8 48 (xr b 219) := by
  obtain ⟨wt, ab, be, fr, tt, le, mo, nf, tr, nm, fy, fb, k, im, hm, S, I, P, pt, ap, fa, wh, st, hX, hR, hnf, hfy0, hfb0⟩ := hM
  have hd6 := hH.D.1
  have hn6 := hH.M.1
  refine tm_ofW (cc := b_OP_outlier) (maxL := 4) (ret := none) (by decide) rfl ?_
  intro p e s m args below meth c s₁ B hml hv
  obtain ⟨hav, hP, hK, hE⟩ := hv
  have hx := B.exec
  have hb := B.bytes
  have hr := B.returns
  have hts := atoms_spec (ws := k_OP_outlier :: gw) B.pre
  have hown : s.vm.findClass R_OP = some m.cls := findClass_of_methodNamed B.named
  have hlocks := B.notSynchronized
  have hnoh := B.noHandlers (hts _ List.mem_cons_self)
  have htr : e.platform.stackTraces = false := by rw [(Stand.of_body B).admits.platform]; exact hst
  have hA : ∀ k, k < 219 → xr b 219 (b + k) := xr_in
  have hN : nCh s.heap s.heap := va_S.rf
  have hl := lv_entry ([.ref (b + 0), .int d, .int a, .int x]) (n := 4) (Nat.le_of_ble_eq_true rfl)
  rw [hav, lg_entry_eq]
  generalize (lg_sl ([.ref (b + 0), .int d, .int a, .int x]) ++ List.replicate (4 - (lg_sl ([.ref (b + 0), .int d, .int a, .int x])).length) Slot.unset).toArray = ls at hl ⊢
  have hl : lv_has ls 4 [(0, .ref (b + 0)), (1, .int d), (2, .int a), (3, .int x)] := hl
  rw [← hav]
  refine lv_aload_n hx hb d_OP_outlier_0 rfl (lv_at hl 0 rfl) ?_
  refine lv_iload_n hx hb d_OP_outlier_1 rfl (lv_at hl 1 rfl) ?_
  refine xt_go (tm_V (As := [.int d]) (rest := []) (g := F0 m 2 ls [.int d, .ref (b + 0)]) ⟨hx, hb, hml, hown, hts⟩ (c_OP_needDate l hst D ca b _ d hX hd6) (cwV 1 hts (gi_V km_OP_needDate tb_380 tb_382 tps_13 tb_1) rfl rfl rfl (by decide +kernel) ⟨by decide, by decide⟩) ⟨tPc_blind, va_recv hK hP rfl (wl_at (XS_0 hX) (by decide)), fun U hU hW => ⟨rfl, by rw [hU]; exact hP, va_K.moved hW.alike hK, hN.E hU hW hE⟩⟩ rfl rfl hl.1 rfl (Nat.le_of_ble_eq_true rfl) d_OP_outlier_2 ⟨by decide, by decide⟩) hnoh hlocks hN (by decide) (by decide) (fun v C1 H hp hP hN => ?_) (fun X hX9 => (Or.inl hX9))
  obtain ⟨rfl, hCe, hi2⟩ := hp
  rw [hCe] at hP
  obtain ⟨d9, hd9, hde⟩ := id hi2
  rw [hde] at hl
  refine lv_iload_n hx hb d_OP_outlier_5 rfl (lv_at hl 3 rfl) ?_
  refine lv_iconst (v := nI 1) hx hb d_OP_outlier_6 (by decide) ?_
  refine lv_icmp_lt (tgt := 25) hx hb d_OP_outlier_7 (by decide) (fun h7 => ?_) (fun h7 => ?_)
  · skip
    exact xt_throw (istr := 70) (text := "the share is not 0 .. below of 1 .. 10") (ix := 7) (bx := Bundle.six) hx hb hml hown htr hlocks hnoh (hts _ (mw tb_404)) (hts _ (mw tb_405)) (hts _ (mw tb_13)) (ex_str (State.WarmedH.refl _) (hE.2.2.2.1 (70, _) (by decide))) (own_ok hts hE ownA_in) (by decide +kernel) ⟨by decide +kernel, by decide +kernel, by decide +kernel, by decide +kernel⟩ d_OP_outlier_25 d_OP_outlier_28 d_OP_outlier_29 d_OP_outlier_31 d_OP_outlier_34 hN hl (Or.inr ⟨rfl, hi2, out_1 h7⟩) ⟨by decide, by decide⟩ ⟨by decide, by decide⟩ (by decide) (by decide)
  · skip
    refine lv_iload_n hx hb d_OP_outlier_10 rfl (lv_at hl 3 rfl) ?_
    refine lv_bipush (v := nI 10) hx hb d_OP_outlier_11 (by decide) ?_
    refine lv_icmp_gt (tgt := 25) hx hb d_OP_outlier_13 (by decide) (fun h13 => ?_) (fun h13 => ?_)
    · skip
      exact xt_throw (istr := 70) (text := "the share is not 0 .. below of 1 .. 10") (ix := 7) (bx := Bundle.six) hx hb hml hown htr hlocks hnoh (hts _ (mw tb_404)) (hts _ (mw tb_405)) (hts _ (mw tb_13)) (ex_str (State.WarmedH.refl _) (hE.2.2.2.1 (70, _) (by decide))) (own_ok hts hE ownA_in) (by decide +kernel) ⟨by decide +kernel, by decide +kernel, by decide +kernel, by decide +kernel⟩ d_OP_outlier_25 d_OP_outlier_28 d_OP_outlier_29 d_OP_outlier_31 d_OP_outlier_34 hN hl (Or.inr ⟨rfl, hi2, out_2 h13⟩) ⟨by decide, by decide⟩ ⟨by decide, by decide⟩ (by decide) (by decide)
    · skip
      refine lv_iload_n hx hb d_OP_outlier_16 rfl (lv_at hl 2 rfl) ?_
      refine lv_if_lt (tgt := 25) hx hb d_OP_outlier_17 (by decide) (fun h17 => ?_) (fun h17 => ?_)
      · skip
        exact xt_throw (istr := 70) (text := "the share is not 0 .. below of 1 .. 10") (ix := 7) (bx := Bundle.six) hx hb hml hown htr hlocks hnoh (hts _ (mw tb_404)) (hts _ (mw tb_405)) (hts _ (mw tb_13)) (ex_str (State.WarmedH.refl _) (hE.2.2.2.1 (70, _) (by decide))) (own_ok hts hE ownA_in) (by decide +kernel) ⟨by decide +kernel, by decide +kernel, by decide +kernel, by decide +kernel⟩ d_OP_outlier_25 d_OP_outlier_28 d_OP_outlier_29 d_OP_outlier_31 d_OP_outlier_34 hN hl (Or.inr ⟨rfl, hi2, out_3 h17⟩) ⟨by decide, by decide⟩ ⟨by decide, by decide⟩ (by decide) (by decide)
      · skip
        refine lv_iload_n hx hb d_OP_outlier_20 rfl (lv_at hl 2 rfl) ?_
        refine lv_iload_n hx hb d_OP_outlier_21 rfl (lv_at hl 3 rfl) ?_
        refine lv_icmp_le (tgt := 35) hx hb d_OP_outlier_22 (by decide) (fun h22 => ?_) (fun h22 => ?_)
        · skip
          obtain ⟨a9, b9, g1, g2, g3, g4, g5⟩ := out_ok h7 h13 h17 h22
          rw [g4, g5] at hl
          refine lv_aload_n hx hb d_OP_outlier_35 rfl (lv_at hl 0 rfl) ?_
          refine xw_get (v := .ref (b + 1)) hx hb hts (fun w h => mw (uw_OP w h)) hown hK hP (XS_0 hX) (by decide) rfl 0 (by decide) (hts _ (mw tb_149)) (fun _ h => h) rfl d_OP_outlier_36 ?_
          refine lv_iload_n hx hb d_OP_outlier_39 rfl (lv_at hl 1 rfl) ?_
          refine lv_iload_n hx hb d_OP_outlier_40 rfl (lv_at hl 2 rfl) ?_
          refine lv_iload_n hx hb d_OP_outlier_41 rfl (lv_at hl 3 rfl) ?_
          have hS : va_S (xr b 219) s.heap _ [] := hN.to
          refine xc_V (n := 3) (As := [.int (nI d9), .int (nI a9), .int (nI b9)]) (rest := []) (st0 := _) hx hb hml hown hts (c_DA_changeShare l D ca b _ d9 a9 b9 hX (by omega)) km_DA_changeShare tb_432 tb_433 tb_434 tb_2 (by decide +kernel) rfl rfl ⟨Nat.le_of_ble_eq_true rfl, Nat.le_of_ble_eq_true rfl⟩ hK hP (XS_1 hX) (by decide) rfl rfl rfl hl rfl (Nat.le_of_ble_eq_true rfl) d_OP_outlier_42 ⟨by decide, by decide⟩ hS (fun _ h => h) (fun v C H locs hp hP _ _ hS => ?_)
          obtain ⟨rfl, hX⟩ := hp
          exact xt_vret hx hb hr hlocks hP hS (by decide) (by decide) (fun _ h => h) ⟨rfl, d9, a9, b9, hd9, g1, g2, g3, hde, g4, g5, ⟨_, _, _, _, _, _, _, _, _, _, _, _, k, im, hm, S, I, P, _, _, _, _, _, hX, RL_share hR d9 a9 b9, hnf, hfy0, hfb0⟩⟩ d_OP_outlier_45
        · skip
          exact xt_throw (istr := 70) (text := "the share is not 0 .. below of 1 .. 10") (ix := 7) (bx := Bundle.six) hx hb hml hown htr hlocks hnoh (hts _ (mw tb_404)) (hts _ (mw tb_405)) (hts _ (mw tb_13)) (ex_str (State.WarmedH.refl _) (hE.2.2.2.1 (70, _) (by decide))) (own_ok hts hE ownA_in) (by decide +kernel) ⟨by decide +kernel, by decide +kernel, by decide +kernel, by decide +kernel⟩ d_OP_outlier_25 d_OP_outlier_28 d_OP_outlier_29 d_OP_outlier_31 d_OP_outlier_34 hN hl (Or.inr ⟨rfl, hi2, out_4 h22⟩) ⟨by decide, by decide⟩ ⟨by decide, by decide⟩ (by decide) (by decide)

set_option maxHeartbeats 4000000 in
set_option maxRecDepth 100000 in
/-- a row is told -/
theorem c_OP_row (l : Launch) (hst : l.stackTraces = false) (D : va_G) (ca : Nat → ClassId) (b : Nat) (C0 : Nat → va_E) {nd nt : Nat} {mwt mab mbe on1 ot2 lea mos : Nat → Nat} (d g lo hi : Int32) (hM : XM ca b C0 nd nt mwt mab mbe on1 ot2 lea mos) (hH : MH on1 ot2 lea mos mwt mab mbe nt nd)  : TMet l y_OP_row (k_OP_row :: gw) ({ frames := 7, cells := 8, slots := 48, locals := 120 }) (tPc D ca b 219 C0 [.ref (b + 0), .int d, .int g, .int lo, .int hi]) (tQ D b 219 (xr b 219) (fun r C1 => ∃ d9 g9 lo9 hi9, d9 < nd ∧ g9 < nd ∧ lo9 ≤ hi9 ∧ hi9 < 12 ∧ d = nI d9 ∧ g = nI g9 ∧ lo = nI lo9 ∧ hi = nI hi9 ∧ (((tOr on1 ot2 nt 6 (2 ^ d9) = tOr on1 ot2 nt 6 (2 ^ g9) ∨ (exM on1 ot2 nt d9 ∧ exM on1 ot2 nt g9)) ∧ r = some (.int (-1)) ∧ XM ca b C1 nd nt mwt mab mbe on1 ot2 lea mos) ∨ (¬ (tOr on1 ot2 nt 6 (2 ^ d9) = tOr on1 ot2 nt 6 (2 ^ g9) ∨ (exM on1 ot2 nt d9 ∧ exM on1 ot2 nt g9)) ∧ r = some (.int (nI nt)) ∧ XM ca b C1 nd (nt + 1) mwt mab mbe (va_up on1 nt d9) (va_up ot2 nt g9) (va_up lea nt lo9) (va_up mos nt hi9)))) (fun X => (X = nNSE ∧ ¬ (isN d nd ∧ isN g nd)) ∨ (X = nIAE ∧ (isN d nd ∧ isN g nd) ∧ ¬ rowE lo hi))) 8 48 (xr b 219) := by
  obtain ⟨wt, ab, be, fr, tt, le, mo, nf, tr, nm, fy, fb, k, im, hm, S, I, P, pt, ap, fa, wh, st, hX, hR, hnf, hfy0, hfb0⟩ := hM
  have hd6 := hH.D.1
  have hn6 := hH.M.1
  refine tm_ofW (cc := b_OP_row) (maxL := 5) (ret := (some FieldType.int)) (by decide) rfl ?_
  intro p e s m args below meth c s₁ B hml hv
  obtain ⟨hav, hP, hK, hE⟩ := hv
  have hx := B.exec
  have hb := B.bytes
  have hr := B.returns
  have hts := atoms_spec (ws := k_OP_row :: gw) B.pre
  have hown : s.vm.findClass R_OP = some m.cls := findClass_of_methodNamed B.named
  have hlocks := B.notSynchronized
  have hnoh := B.noHandlers (hts _ List.mem_cons_self)
  have htr : e.platform.stackTraces = false := by rw [(Stand.of_body B).admits.platform]; exact hst
  have hA : ∀ k, k < 219 → xr b 219 (b + k) := xr_in
  have hN : nCh s.heap s.heap := va_S.rf
  have hl := lv_entry ([.ref (b + 0), .int d, .int g, .int lo, .int hi]) (n := 5) (Nat.le_of_ble_eq_true rfl)
  rw [hav, lg_entry_eq]
  generalize (lg_sl ([.ref (b + 0), .int d, .int g, .int lo, .int hi]) ++ List.replicate (5 - (lg_sl ([.ref (b + 0), .int d, .int g, .int lo, .int hi])).length) Slot.unset).toArray = ls at hl ⊢
  have hl : lv_has ls 5 [(0, .ref (b + 0)), (1, .int d), (2, .int g), (3, .int lo), (4, .int hi)] := hl
  rw [← hav]
  refine lv_aload_n hx hb d_OP_row_0 rfl (lv_at hl 0 rfl) ?_
  refine lv_iload_n hx hb d_OP_row_1 rfl (lv_at hl 1 rfl) ?_
  refine xt_go (tm_V (As := [.int d]) (rest := []) (g := F0 m 2 ls [.int d, .ref (b + 0)]) ⟨hx, hb, hml, hown, hts⟩ (c_OP_needDate l hst D ca b _ d hX hd6) (cwV 1 hts (gi_V km_OP_needDate tb_380 tb_382 tps_13 tb_1) rfl rfl rfl (by decide +kernel) ⟨by decide, by decide⟩) ⟨tPc_blind, va_recv hK hP rfl (wl_at (XS_0 hX) (by decide)), fun U hU hW => ⟨rfl, by rw [hU]; exact hP, va_K.moved hW.alike hK, hN.E hU hW hE⟩⟩ rfl rfl hl.1 rfl (Nat.le_of_ble_eq_true rfl) d_OP_row_2 ⟨by decide, by decide⟩) hnoh hlocks hN (by decide) (by decide) (fun v C1 H hp hP hN => ?_) (fun X hX9 => (Or.inl ⟨hX9.1, fun q9 => hX9.2 q9.1⟩))
  obtain ⟨rfl, hCe, hi2⟩ := hp
  rw [hCe] at hP
  obtain ⟨d9, hd9, hde⟩ := id hi2
  rw [hde] at hl
  refine lv_aload_n hx hb d_OP_row_5 rfl (lv_at hl 0 rfl) ?_
  refine lv_iload_n hx hb d_OP_row_6 rfl (lv_at hl 2 rfl) ?_
  refine xt_go (tm_V (As := [.int g]) (rest := []) (g := F0 m 7 ls [.int g, .ref (b + 0)]) ⟨hx, hb, hml, hown, hts⟩ (c_OP_needDate l hst D ca b _ g hX hd6) (cwV 1 hts (gi_V km_OP_needDate tb_380 tb_382 tps_13 tb_1) rfl rfl rfl (by decide +kernel) ⟨by decide, by decide⟩) ⟨tPc_blind, va_recv hK hP rfl (wl_at (XS_0 hX) (by decide)), fun U hU hW => ⟨rfl, by rw [hU]; exact hP, va_K.moved hW.alike hK, hN.E hU hW hE⟩⟩ rfl rfl hl.1 rfl (Nat.le_of_ble_eq_true rfl) d_OP_row_7 ⟨by decide, by decide⟩) hnoh hlocks hN (by decide) (by decide) (fun v C1 H hp hP hN => ?_) (fun X hX9 => (Or.inl ⟨hX9.1, fun q9 => hX9.2 q9.2⟩))
  obtain ⟨rfl, hCe, hi7⟩ := hp
  rw [hCe] at hP
  obtain ⟨g9, hg9, hge⟩ := id hi7
  rw [hge] at hl
  refine lv_iload_n hx hb d_OP_row_10 rfl (lv_at hl 3 rfl) ?_
  refine lv_if_lt (tgt := 27) hx hb d_OP_row_11 (by decide) (fun h11 => ?_) (fun h11 => ?_)
  · skip
    exact xt_throw (istr := 76) (text := "not 0 <= least <= most <= 11") (ix := 7) (bx := Bundle.six) hx hb hml hown htr hlocks hnoh (hts _ (mw tb_404)) (hts _ (mw tb_405)) (hts _ (mw tb_13)) (ex_str (State.WarmedH.refl _) (hE.2.2.2.1 (76, _) (by decide))) (own_ok hts hE ownA_in) (by decide +kernel) ⟨by decide +kernel, by decide +kernel, by decide +kernel, by decide +kernel⟩ d_OP_row_27 d_OP_row_30 d_OP_row_31 d_OP_row_33 d_OP_row_36 hN hl (Or.inr ⟨rfl, ⟨hi2, hi7⟩, row_1 h11⟩) ⟨by decide, by decide⟩ ⟨by decide, by decide⟩ (by decide) (by decide)
  · skip
    refine lv_iload_n hx hb d_OP_row_14 rfl (lv_at hl 3 rfl) ?_
    refine lv_iload hx hb d_OP_row_15 (lv_at hl 4 rfl) ?_
    refine lv_icmp_gt (tgt := 27) hx hb d_OP_row_17 (by decide) (fun h17 => ?_) (fun h17 => ?_)
    · skip
      exact xt_throw (istr := 76) (text := "not 0 <= least <= most <= 11") (ix := 7) (bx := Bundle.six) hx hb hml hown htr hlocks hnoh (hts _ (mw tb_404)) (hts _ (mw tb_405)) (hts _ (mw tb_13)) (ex_str (State.WarmedH.refl _) (hE.2.2.2.1 (76, _) (by decide))) (own_ok hts hE ownA_in) (by decide +kernel) ⟨by decide +kernel, by decide +kernel, by decide +kernel, by decide +kernel⟩ d_OP_row_27 d_OP_row_30 d_OP_row_31 d_OP_row_33 d_OP_row_36 hN hl (Or.inr ⟨rfl, ⟨hi2, hi7⟩, row_2 h17⟩) ⟨by decide, by decide⟩ ⟨by decide, by decide⟩ (by decide) (by decide)
    · skip
      refine lv_iload hx hb d_OP_row_20 (lv_at hl 4 rfl) ?_
      refine lv_bipush (v := nI 12) hx hb d_OP_row_22 (by decide) ?_
      refine lv_icmp_lt (tgt := 37) hx hb d_OP_row_24 (by decide) (fun h24 => ?_) (fun h24 => ?_)
      · skip
        obtain ⟨lo9, hi9, q1, q2, q3, q4⟩ := row_ok h11 h17 h24
        rw [q3, q4] at hl
        refine lv_aload_n hx hb d_OP_row_37 rfl (lv_at hl 0 rfl) ?_
        refine xw_get (v := .ref (b + 11)) hx hb hts (fun w h => mw (uw_OP w h)) hown hK hP (XS_0 hX) (by decide) rfl 1 (by decide) (hts _ (mw tb_150)) (fun _ h => h) rfl d_OP_row_38 ?_
        refine lv_iload_n hx hb d_OP_row_41 rfl (lv_at hl 1 rfl) ?_
        refine lv_iload_n hx hb d_OP_row_42 rfl (lv_at hl 2 rfl) ?_
        have hS : va_S (xr b 219) s.heap _ [] := hN.to
        refine xc_V (n := 2) (As := [.int (nI d9), .int (nI g9)]) (rest := []) (st0 := _) hx hb hml hown hts (c_TE_mayJoin l D ca b _ d9 g9 hX (TN.tok hd6 hn6 (rl_TN hR hH.T)) (by omega) (by omega)) km_TE_mayJoin tb_444 tb_445 tb_446 tb_3 (by decide +kernel) rfl rfl ⟨Nat.le_of_ble_eq_true rfl, Nat.le_of_ble_eq_true rfl⟩ hK hP (XS_11 hX) (by decide) rfl rfl rfl hl rfl (Nat.le_of_ble_eq_true rfl) d_OP_row_43 ⟨by decide, by decide⟩ hS (fun _ h => h) (fun v C H locs hp hP _ _ hS => ?_)
        obtain ⟨z, rfl, hz, hX⟩ := hp
        refine xz_ne (tgt := 51) hx hb d_OP_row_46 (by decide) (tn31 _) (fun h46 => ?_) (fun h46 => ?_)
        · skip
          have hz1 : z = true := by cases z; exact absurd rfl h46; rfl
          have hj : ¬ (tOr on1 ot2 nt 6 (2 ^ d9) = tOr on1 ot2 nt 6 (2 ^ g9) ∨ (exM on1 ot2 nt d9 ∧ exM on1 ot2 nt g9)) := (rl_join hR hH tr (by omega) (by omega)).mp (hz.mp hz1)
          obtain ⟨hnt6, -⟩ := MH_row (lo := lo9) (hi := hi9) hH hd9 hg9 (by omega) q2 hj
          have hdg : d9 ≠ g9 := fun q => hj (Or.inl (by rw [q]))
          have hRL := RL_tell hR d9 g9 lo9 hi9
          rw [if_neg hdg, if_neg hdg] at hRL
          refine lv_aload_n hx hb d_OP_row_51 rfl (lv_at hl 0 rfl) ?_
          refine xw_get (v := .ref (b + 11)) hx hb hts (fun w h => mw (uw_OP w h)) hown hK hP (XS_0 hX) (by decide) rfl 1 (by decide) (hts _ (mw tb_150)) (fun _ h => h) rfl d_OP_row_52 ?_
          refine lv_iload_n hx hb d_OP_row_55 rfl (lv_at hl 1 rfl) ?_
          refine lv_iload_n hx hb d_OP_row_56 rfl (lv_at hl 2 rfl) ?_
          refine lv_iload_n hx hb d_OP_row_57 rfl (lv_at hl 3 rfl) ?_
          refine lv_iload hx hb d_OP_row_58 (lv_at hl 4 rfl) ?_
          refine xc_V (n := 4) (As := [.int (nI d9), .int (nI g9), .int (nI lo9), .int (nI hi9)]) (rest := []) (st0 := _) hx hb hml hown hts (c_TE_tell l D ca b _ d9 (some g9) lo9 hi9 hX hnt6 (fun q hq => by cases hq; omega)) km_TE_tell tb_460 tb_461 tb_462 tb_3 (by decide +kernel) rfl rfl ⟨Nat.le_of_ble_eq_true rfl, Nat.le_of_ble_eq_true rfl⟩ hK hP (XS_11 hX) (by decide) rfl rfl rfl hl rfl (Nat.le_of_ble_eq_true rfl) d_OP_row_60 ⟨by decide, by decide⟩ hS (fun _ h => h) (fun v C H locs hp hP _ _ hS => ?_)
          obtain ⟨rfl, hX⟩ := hp
          exact xt_iret hx hb hr hlocks hP hS (by decide) (by decide) (fun _ h => h) ⟨d9, g9, lo9, hi9, hd9, hg9, q1, q2, hde, hge, q3, q4, Or.inr ⟨hj, rfl, ⟨_, _, _, _, _, _, _, _, _, _, _, _, k, im, hm, S, I, P, _, _, _, _, _, hX, hRL, fun i hi => (if q : i = nt then by rw [q, va_up_self] else by rw [va_up_ne _ _ q]; exact hnf i (by omega)), hfy0, hfb0⟩⟩⟩ d_OP_row_63
        · skip
          have hz1 : z = false := by cases z; rfl; exact absurd h46 (by decide)
          have hj : (tOr on1 ot2 nt 6 (2 ^ d9) = tOr on1 ot2 nt 6 (2 ^ g9) ∨ (exM on1 ot2 nt d9 ∧ exM on1 ot2 nt g9)) := Classical.byContradiction (fun q => by have := hz.mpr ((rl_join hR hH tr (by omega) (by omega)).mpr q); rw [hz1] at this; cases this)
          refine lv_iconst (v := (-1)) hx hb d_OP_row_49 (by decide) ?_
          exact xt_iret hx hb hr hlocks hP hS (by decide) (by decide) (fun _ h => h) ⟨d9, g9, lo9, hi9, hd9, hg9, q1, q2, hde, hge, q3, q4, Or.inl ⟨hj, rfl, ⟨_, _, _, _, _, _, _, _, _, _, _, _, k, im, hm, S, I, P, _, _, _, _, _, hX, hR, hnf, hfy0, hfb0⟩⟩⟩ d_OP_row_50
      · skip
        exact xt_throw (istr := 76) (text := "not 0 <= least <= most <= 11") (ix := 7) (bx := Bundle.six) hx hb hml hown htr hlocks hnoh (hts _ (mw tb_404)) (hts _ (mw tb_405)) (hts _ (mw tb_13)) (ex_str (State.WarmedH.refl _) (hE.2.2.2.1 (76, _) (by decide))) (own_ok hts hE ownA_in) (by decide +kernel) ⟨by decide +kernel, by decide +kernel, by decide +kernel, by decide +kernel⟩ d_OP_row_27 d_OP_row_30 d_OP_row_31 d_OP_row_33 d_OP_row_36 hN hl (Or.inr ⟨rfl, ⟨hi2, hi7⟩, row_3 h24⟩) ⟨by decide, by decide⟩ ⟨by decide, by decide⟩ (by decide) (by decide)

set_option maxHeartbeats 4000000 in
set_option maxRecDepth 100000 in
/-- a date is told a member -/
theorem c_OP_member (l : Launch) (hst : l.stackTraces = false) (D : va_G) (ca : Nat → ClassId) (b : Nat) (C0 : Nat → va_E) {nd nt : Nat} {mwt mab mbe on1 ot2 lea mos : Nat → Nat} (d : Int32) (hM : XM ca b C0 nd nt mwt mab mbe on1 ot2 lea mos) (hH : MH on1 ot2 lea mos mwt mab mbe nt nd)  : TMet l y_OP_member (k_OP_member :: gw) ({ frames := 7, cells := 8, slots := 48, locals := 120 }) (tPc D ca b 219 C0 [.ref (b + 0), .int d]) (tQ D b 219 (xr b 219) (fun r C1 => ∃ d9, d9 < nd ∧ d = nI d9 ∧ ((exM on1 ot2 nt d9 ∧ r = some (.int (-1)) ∧ XM ca b C1 nd nt mwt mab mbe on1 ot2 lea mos) ∨ (¬ exM on1 ot2 nt d9 ∧ r = some (.int (nI nt)) ∧ XM ca b C1 nd (nt + 1) mwt mab mbe (va_up on1 nt d9) (va_up ot2 nt d9) (va_up lea nt 0) (va_up mos nt 0)))) (fun X => X = nNSE ∧ ¬ isN d nd)) 8 48 (xr b 219) := by
  obtain ⟨wt, ab, be, fr, tt, le, mo, nf, tr, nm, fy, fb, k, im, hm, S, I, P, pt, ap, fa, wh, st, hX, hR, hnf, hfy0, hfb0⟩ := hM
  have hd6 := hH.D.1
  have hn6 := hH.M.1
  refine tm_ofW (cc := b_OP_member) (maxL := 2) (ret := (some FieldType.int)) (by decide) rfl ?_
  intro p e s m args below meth c s₁ B hml hv
  obtain ⟨hav, hP, hK, hE⟩ := hv
  have hx := B.exec
  have hb := B.bytes
  have hr := B.returns
  have hts := atoms_spec (ws := k_OP_member :: gw) B.pre
  have hown : s.vm.findClass R_OP = some m.cls := findClass_of_methodNamed B.named
  have hlocks := B.notSynchronized
  have hnoh := B.noHandlers (hts _ List.mem_cons_self)
  have htr : e.platform.stackTraces = false := by rw [(Stand.of_body B).admits.platform]; exact hst
  have hA : ∀ k, k < 219 → xr b 219 (b + k) := xr_in
  have hN : nCh s.heap s.heap := va_S.rf
  have hl := lv_entry ([.ref (b + 0), .int d]) (n := 2) (Nat.le_of_ble_eq_true rfl)
  rw [hav, lg_entry_eq]
  generalize (lg_sl ([.ref (b + 0), .int d]) ++ List.replicate (2 - (lg_sl ([.ref (b + 0), .int d])).length) Slot.unset).toArray = ls at hl ⊢
  have hl : lv_has ls 2 [(0, .ref (b + 0)), (1, .int d)] := hl
  rw [← hav]
  refine lv_aload_n hx hb d_OP_member_0 rfl (lv_at hl 0 rfl) ?_
  refine lv_iload_n hx hb d_OP_member_1 rfl (lv_at hl 1 rfl) ?_
  refine xt_go (tm_V (As := [.int d]) (rest := []) (g := F0 m 2 ls [.int d, .ref (b + 0)]) ⟨hx, hb, hml, hown, hts⟩ (c_OP_needDate l hst D ca b _ d hX hd6) (cwV 1 hts (gi_V km_OP_needDate tb_380 tb_382 tps_13 tb_1) rfl rfl rfl (by decide +kernel) ⟨by decide, by decide⟩) ⟨tPc_blind, va_recv hK hP rfl (wl_at (XS_0 hX) (by decide)), fun U hU hW => ⟨rfl, by rw [hU]; exact hP, va_K.moved hW.alike hK, hN.E hU hW hE⟩⟩ rfl rfl hl.1 rfl (Nat.le_of_ble_eq_true rfl) d_OP_member_2 ⟨by decide, by decide⟩) hnoh hlocks hN (by decide) (by decide) (fun v C1 H hp hP hN => ?_) (fun X hX9 => hX9)
  obtain ⟨rfl, hCe, hi2⟩ := hp
  rw [hCe] at hP
  obtain ⟨d9, hd9, hde⟩ := id hi2
  rw [hde] at hl
  refine lv_aload_n hx hb d_OP_member_5 rfl (lv_at hl 0 rfl) ?_
  refine xw_get (v := .ref (b + 11)) hx hb hts (fun w h => mw (uw_OP w h)) hown hK hP (XS_0 hX) (by decide) rfl 1 (by decide) (hts _ (mw tb_150)) (fun _ h => h) rfl d_OP_member_6 ?_
  refine lv_iload_n hx hb d_OP_member_9 rfl (lv_at hl 1 rfl) ?_
  have hS : va_S (xr b 219) s.heap _ [] := hN.to
  refine xc_V (n := 1) (As := [.int (nI d9)]) (rest := []) (st0 := _) hx hb hml hown hts (c_TE_treeHasMember l D ca b _ d9 hX (TN.tok hd6 hn6 (rl_TN hR hH.T)) (by omega)) km_TE_treeHasMember tb_471 tb_472 tb_473 tb_3 (by decide +kernel) rfl rfl ⟨Nat.le_of_ble_eq_true rfl, Nat.le_of_ble_eq_true rfl⟩ hK hP (XS_11 hX) (by decide) rfl rfl rfl hl rfl (Nat.le_of_ble_eq_true rfl) d_OP_member_10 ⟨by decide, by decide⟩ hS (fun _ h => h) (fun v C H locs hp hP _ _ hS => ?_)
  obtain ⟨z, rfl, hz, hX⟩ := hp
  refine xz_eq (tgt := 18) hx hb d_OP_member_13 (by decide) (tn31 _) (fun h13 => ?_) (fun h13 => ?_)
  · skip
    have hz1 : z = false := by cases z; rfl; exact absurd h13 (by decide)
    have hj : ¬ exM on1 ot2 nt d9 := fun q => by have := hz.mpr ((rl_exM hR hH tr (by omega)).mpr q); rw [hz1] at this; cases this
    obtain ⟨hnt6, -⟩ := MH_mem hH hd9 hj
    have hRL := RL_tell hR d9 d9 0 0
    rw [if_pos rfl, if_pos rfl] at hRL
    refine lv_aload_n hx hb d_OP_member_18 rfl (lv_at hl 0 rfl) ?_
    refine xw_get (v := .ref (b + 11)) hx hb hts (fun w h => mw (uw_OP w h)) hown hK hP (XS_0 hX) (by decide) rfl 1 (by decide) (hts _ (mw tb_150)) (fun _ h => h) rfl d_OP_member_19 ?_
    refine lv_iload_n hx hb d_OP_member_22 rfl (lv_at hl 1 rfl) ?_
    refine lv_iconst (v := (-1)) hx hb d_OP_member_23 (by decide) ?_
    refine lv_iconst (v := nI 0) hx hb d_OP_member_24 (by decide) ?_
    refine lv_iconst (v := nI 0) hx hb d_OP_member_25 (by decide) ?_
    refine xc_V (n := 4) (As := [.int (nI d9), .int ((-1)), .int (nI 0), .int (nI 0)]) (rest := []) (st0 := _) hx hb hml hown hts (c_TE_tell l D ca b _ d9 none 0 0 hX hnt6 (fun q hq => by cases hq)) km_TE_tell tb_460 tb_461 tb_462 tb_3 (by decide +kernel) rfl rfl ⟨Nat.le_of_ble_eq_true rfl, Nat.le_of_ble_eq_true rfl⟩ hK hP (XS_11 hX) (by decide) rfl rfl rfl hl rfl (Nat.le_of_ble_eq_true rfl) d_OP_member_26 ⟨by decide, by decide⟩ hS (fun _ h => h) (fun v C H locs hp hP _ _ hS => ?_)
    obtain ⟨rfl, hX⟩ := hp
    exact xt_iret hx hb hr hlocks hP hS (by decide) (by decide) (fun _ h => h) ⟨d9, hd9, hde, Or.inr ⟨hj, rfl, ⟨_, _, _, _, _, _, _, _, _, _, _, _, k, im, hm, S, I, P, _, _, _, _, _, hX, hRL, fun i hi => (if q : i = nt then by rw [q, va_up_self] else by rw [va_up_ne _ _ q]; exact hnf i (by omega)), hfy0, hfb0⟩⟩⟩ d_OP_member_29
  · skip
    have hz1 : z = true := by cases z; exact absurd rfl h13; rfl
    refine lv_iconst (v := (-1)) hx hb d_OP_member_16 (by decide) ?_
    exact xt_iret hx hb hr hlocks hP hS (by decide) (by decide) (fun _ h => h) ⟨d9, hd9, hde, Or.inl ⟨(rl_exM hR hH tr (by omega)).mp (hz.mp hz1), rfl, ⟨_, _, _, _, _, _, _, _, _, _, _, _, k, im, hm, S, I, P, _, _, _, _, _, hX, hR, hnf, hfy0, hfb0⟩⟩⟩ d_OP_member_17

