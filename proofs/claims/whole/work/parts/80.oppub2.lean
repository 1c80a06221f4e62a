/-! OrderPassing: total, answered, bound, both, span, narrow, fitless, count -/
theorem mct_pos {on1 ot2 : Nat → Nat} {n : Nat} (h : mct on1 ot2 n ≠ 0) : ∃ i, i < n ∧ (2 ^ n - 1).testBit i = true ∧ on1 i = ot2 i := by
  have key : ∀ m, m ≤ n → mct on1 ot2 m ≠ 0 → ∃ i, i < m ∧ on1 i = ot2 i := by
    intro m
    induction m with
    | zero => intro _ h; exact absurd rfl h
    | succ m ih =>
      intro hm h
      by_cases q : on1 m = ot2 m
      · exact ⟨m, Nat.lt_succ_self _, q⟩
      · obtain ⟨i, h1, h2⟩ := ih (by omega) (fun q2 => h (by unfold mct at q2 ⊢; rw [sm_s, q2, if_neg q]))
        exact ⟨i, by omega, h2⟩
  obtain ⟨i, h1, h2⟩ := key n (Nat.le_refl _) h
  exact ⟨i, h1, bits_lt.mpr h1, h2⟩
theorem mct_zero {on1 ot2 : Nat → Nat} {n : Nat} (h : mct on1 ot2 n = 0) : ¬ ∃ i, i < n ∧ (2 ^ n - 1).testBit i = true ∧ on1 i = ot2 i := by
  rintro ⟨i, h1, -, h2⟩
  have := sm_ge (F := fun k => if on1 k = ot2 k then 1 else 0) (n := n) h1
  rw [if_pos h2] at this
  unfold mct at h
  omega
theorem oB_fix {fb : Nat → Option Nat} (h : ∀ w, w < 2 → fb w = none) {x9 y9 w : Nat} (hw : w < 2) : ∀ y, y < 12 → oB (va_up fb x9 (some y9)) w y = (if x9 = w then 2 ^ y9 else 4095).testBit y := by
  intro y hy
  by_cases q : x9 = w
  · subst q
    rw [if_pos rfl, Nat.testBit_two_pow]
    unfold oB
    rw [va_up_self]
    simp
  · rw [if_neg q, b4095.mpr hy]
    exact oB_iff.mpr (Or.inl (by rw [va_up_ne _ _ (fun e => q e.symm)]; exact h w hw))
theorem up_31 {f : Nat → Option Nat} {n x9 y9 : Nat} (h : ∀ d, d < n → f d = none) (hy : y9 < 12) : ∀ d, d < n → ∀ y, va_up f x9 (some y9) d = some y → y < 2 ^ 31 := by
  intro d hd y hq
  by_cases q : d = x9
  · rw [q, va_up_self] at hq; cases hq; omega
  · rw [va_up_ne _ _ q, h d hd] at hq; cases hq
theorem both_W {wt : Nat → Nat → Nat} {ab be fr : Nat → Nat} {tt : Nat → Option Nat} {le mo : Nat → Nat} {nt nm nd : Nat} {mwt mab mbe on1 ot2 lea mos : Nat → Nat} {fy : Nat → Option Nat} (hR : RL wt ab be fr tt le mo nt nm mwt mab mbe on1 ot2 lea mos) (hd6 : nd ≤ 6) (hfy : ∀ d, d < 6 → fy d = none) (a x g : Nat) : ∀ y, y < 12 → ∀ d z, d < nd → z < 12 → fixW (s0 wt ab be (va_up fy a (some x))) g y d z = lyF mwt mab mbe (va_up (va_up (fun _ => 4095) a (2 ^ x)) g ((if g = a then 2 ^ x else 4095) &&& 2 ^ y)) (12 * d + z) := by
  intro y _ d z hd hz
  rw [lyF_at hz]
  unfold fixW s0
  rw [rl_cnt hR (show d < 6 by omega) hz]
  have hfa : ∀ e, e < 6 → ((va_up fy a (some x) e = none ∨ va_up fy a (some x) e = some z) ↔ (va_up (fun _ => 4095) a (2 ^ x) e).testBit z = true) := by
    intro e he
    by_cases q : e = a
    · subst q
      rw [va_up_self, va_up_self, Nat.testBit_two_pow]
      simp
    · rw [va_up_ne _ _ q, va_up_ne _ _ q, hfy e he]
      exact ⟨fun _ => b4095.mpr hz, fun _ => Or.inl rfl⟩
  by_cases q : d = g
  · subst q
    rw [va_up_self, Nat.testBit_and, Nat.testBit_two_pow]
    have e1 : (if d = a then 2 ^ x else 4095) = va_up (fun _ => 4095) a (2 ^ x) d := by
      by_cases q2 : d = a
      · rw [if_pos q2, q2, va_up_self]
      · rw [if_neg q2, va_up_ne _ _ q2]
    rw [e1]
    by_cases q2 : z = y
    · subst q2
      rw [if_neg (fun q3 => q3.2 rfl)]
      simp only [decide_true, Bool.and_true]
      by_cases q3 : (va_up (fun _ => 4095) a (2 ^ x) d).testBit z = true
      · rw [if_pos q3, if_pos ((hfa d (by omega)).mpr q3)]
      · rw [if_neg q3, if_neg (fun q4 => q3 ((hfa d (by omega)).mp q4))]
    · rw [if_pos ⟨rfl, q2⟩, if_neg]
      simp only [Bool.and_eq_true, decide_eq_true_eq]
      exact fun q3 => q2 q3.2.symm
  · rw [if_neg (fun q3 => q q3.1), va_up_ne _ _ q]
    by_cases q3 : (va_up (fun _ => 4095) a (2 ^ x) d).testBit z = true
    · rw [if_pos q3, if_pos ((hfa d (by omega)).mpr q3)]
    · rw [if_neg q3, if_neg (fun q4 => q3 ((hfa d (by omega)).mp q4))]
def narE (a x : Int32) : Prop := ∃ a9 b9, 1 ≤ a9 ∧ a9 ≤ b9 ∧ b9 ≤ 1000 ∧ a = nI a9 ∧ x = nI b9
theorem nar_ok {a x : Int32} (h1 : ¬ a < nI 1) (h2 : ¬ x < a) (h3 : x ≤ nI 1000) : narE a x := by
  have h0 : ¬ a < 0 := fun q => h1 (Int32.lt_trans q (by decide))
  obtain ⟨a9, q1, rfl⟩ := nI_of h0
  have h4 : ¬ x < 0 := fun q => h2 (Int32.lt_of_lt_of_le q (Int32.not_lt.mp h0))
  obtain ⟨b9, q2, rfl⟩ := nI_of h4
  have e1 : ¬ a9 < 1 := fun q => h1 ((nI_ltI q1 (by decide)).mpr q)
  have e2 : ¬ b9 < a9 := fun q => h2 ((nI_ltI q2 q1).mpr q)
  have e3 := (nI_leI q2 (by decide)).mp h3
  exact ⟨a9, b9, by omega, by omega, e3, rfl, rfl⟩
theorem nar_1 {a x : Int32} (h : a < nI 1) : ¬ narE a x := fun ⟨a9, b9, g1, g2, g3, g4, g5⟩ => by
  rw [g4] at h; have := (nI_ltI (by omega) (by decide)).mp h; omega
theorem nar_2 {a x : Int32} (h : x < a) : ¬ narE a x := fun ⟨a9, b9, g1, g2, g3, g4, g5⟩ => by
  rw [g4, g5] at h; have := (nI_ltI (by omega) (by omega)).mp h; omega
theorem nar_3 {a x : Int32} (h : ¬ x ≤ nI 1000) : ¬ narE a x := fun ⟨a9, b9, g1, g2, g3, g4, g5⟩ => by
  rw [g5] at h; exact h ((nI_leI (by omega) (by decide)).mpr g3)
theorem nrw_cg {G G1 : Nat → Nat → Prop} {z : Option Nat} (h : ∀ e m, e + m < 12 → (G e m ↔ G1 e m)) (hz : nrwP G z) : nrwP G1 z := by
  rcases hz with ⟨f, n, a1, a2, a3, a4, a5⟩ | ⟨a1, a2⟩
  · exact Or.inl ⟨f, n, a1, a2, (h f n a2).mp a3, fun m e hm he q => a4 m e hm he ((h e m he).mpr q), fun e he q => a5 e he ((h e n (by omega)).mpr q)⟩
  · exact Or.inr ⟨a1, fun e m he q => a2 e m he ((h e m he).mpr q)⟩
theorem ftR_on {Z : Nat → Nat} {t : Nat} : ∀ n j, n ≤ j → j < t → (ftR Z t n).testBit j = true := by
  intro n
  induction n with
  | zero => intro j _ hj; exact bits_lt.mpr hj
  | succ n ih =>
    intro j h1 h2
    by_cases q : Z (clb (ftR Z t n) (2 ^ n)) = 0
    · rw [ftR_z q, clb_bit, ih j (by omega) h2]; simp; omega
    · rw [ftR_n q]; exact ih j (by omega) h2
theorem tsw_out {x : Int32} {n : Nat} (hn : n < 2 ^ 31) (h : ¬ isN x (n + 1)) : x.toInt < 0 ∨ (n : Int) < x.toInt := by
  by_cases h0 : x < 0
  · exact Or.inl (Int32.lt_iff_toInt_lt.mp h0)
  · refine Or.inr ?_
    obtain ⟨j, q1, q2⟩ := nI_of h0
    have e1 : ¬ j < n + 1 := fun q => h ⟨j, q, q2⟩
    have e2 : nI n < x := by rw [q2]; exact (nI_ltI hn q1).mpr (by omega)
    have e3 := Int32.lt_iff_toInt_lt.mp e2
    have e4 : (nI n).toInt = (n : Int) := nI_toInt hn
    rw [e4] at e3
    exact e3
set_option maxHeartbeats 4000000 in
set_option maxRecDepth 100000 in
/-- a digit of the sum of all ways -/
theorem c_OP_total (l : Launch) (hst : l.stackTraces = false) (D : va_G) (ca : Nat → ClassId) (b : Nat) (C0 : Nat → va_E) {nd nt : Nat} {mwt mab mbe on1 ot2 lea mos : Nat → Nat} (dg : Int32) (hM : XM ca b C0 nd nt mwt mab mbe on1 ot2 lea mos) (hH : MH on1 ot2 lea mos mwt mab mbe nt nd)  : TMet l y_OP_total (k_OP_total :: gw) ({ frames := 7, cells := 8, slots := 48, locals := 172 }) (tPc D ca b 219 C0 [.ref (b + 0), .int dg]) (tQ D b 219 (xr b 219) (fun r C1 => ∃ k9, k9 < 48 ∧ dg = nI k9 ∧ r = some (.int (nI (mSum on1 ot2 lea mos mwt mab mbe nt nd (2 ^ nt - 1) 4095 4095 (fun _ => 4095) / 10 ^ k9 % 10))) ∧ XM ca b C1 nd nt mwt mab mbe on1 ot2 lea mos) (fun X => X = nNSE ∧ ¬ isN dg 48)) 8 48 (xr b 219) := by
  obtain ⟨wt, ab, be, fr, tt, le, mo, nf, tr, nm, fy, fb, k, im, hm, S, I, P, pt, ap, fa, wh, st, hX, hR, hnf, hfy0, hfb0⟩ := hM
  have hd6 := hH.D.1
  have hn6 := hH.M.1
  refine tm_ofW (cc := b_OP_total) (maxL := 2) (ret := (some FieldType.int)) (by decide) rfl ?_
  intro p e s m args below meth c s₁ B hml hv
  obtain ⟨hav, hP, hK, hE⟩ := hv
  have hx := B.exec
  have hb := B.bytes
  have hr := B.returns
  have hts := atoms_spec (ws := k_OP_total :: gw) B.pre
  have hown : s.vm.findClass R_OP = some m.cls := findClass_of_methodNamed B.named
  have hlocks := B.notSynchronized
  have hnoh := B.noHandlers (hts _ List.mem_cons_self)
  have htr : e.platform.stackTraces = false := by rw [(Stand.of_body B).admits.platform]; exact hst
  have hA : ∀ k, k < 219 → xr b 219 (b + k) := xr_in
  have hN : nCh s.heap s.heap := va_S.rf
  have hl := lv_entry ([.ref (b + 0), .int dg]) (n := 2) (Nat.le_of_ble_eq_true rfl)
  rw [hav, lg_entry_eq]
  generalize (lg_sl ([.ref (b + 0), .int dg]) ++ List.replicate (2 - (lg_sl ([.ref (b + 0), .int dg])).length) Slot.unset).toArray = ls at hl ⊢
  have hl : lv_has ls 2 [(0, .ref (b + 0)), (1, .int dg)] := hl
  rw [← hav]
  refine lv_iload_n hx hb d_OP_total_0 rfl (lv_at hl 1 rfl) ?_
  refine xt_go (tm_S (As := [.int dg]) (rest := []) (g := F0 m 1 ls [.int dg]) ⟨hx, hb, hml, hown, hts⟩ (c_OP_needDigit l hst D ca b _ dg) (cwS 1 hts (gi_S km_OP_needDigit tb_482 tb_483 tb_1) rfl rfl rfl (by decide +kernel) ⟨by decide, by decide⟩) ⟨tPc_blind, fun U hU hW => ⟨rfl, by rw [hU]; exact hP, va_K.moved hW.alike hK, hN.E hU hW hE⟩⟩ rfl rfl hl.1 rfl (Nat.le_of_ble_eq_true rfl) d_OP_total_1 ⟨by decide, by decide⟩) hnoh hlocks hN (by decide) (by decide) (fun v C1 H hp hP hN => ?_) (fun X hX9 => hX9)
  obtain ⟨rfl, hCe, hi1⟩ := hp
  rw [hCe] at hP
  obtain ⟨dg9, hdg9, hdge⟩ := id hi1
  rw [hdge] at hl
  refine lv_aload_n hx hb d_OP_total_4 rfl (lv_at hl 0 rfl) ?_
  have hS : va_S (xr b 219) s.heap _ [] := hN.to
  refine xc_V (n := 0) (As := []) (rest := []) (st0 := _) hx hb hml hown hts (c_OP_sumAll l D ca b _ (2 ^ nt - 1) 4095 4095 hX hH hR (fun i hi => by rw [hnf i hi]; exact (bits_lt.mpr hi).symm) hfy0 (fun w hw y hy => by rw [hfb0 w hw] at hy; cases hy) (oB_none hfb0 (by decide)) (oB_none hfb0 (by decide)) (fun _ => hfb0)) km_OP_sumAll tb_169 tb_171 tps_0 tb_1 (by decide +kernel) rfl rfl ⟨Nat.le_of_ble_eq_true rfl, Nat.le_of_ble_eq_true rfl⟩ hK hP (XS_0 hX) (by decide) rfl rfl rfl hl rfl (Nat.le_of_ble_eq_true rfl) d_OP_total_5 ⟨by decide, by decide⟩ hS (fun _ h => h) (fun v C H locs hp hP _ _ hS => ?_)
  obtain ⟨rfl, k1, im1, hm1, S1, f1, I1, P1, p1, a1, fy1, fb1, hX, hfy1, hfb1⟩ := hp
  refine lv_aload_n hx hb d_OP_total_8 rfl (lv_at hl 0 rfl) ?_
  refine xw_get (v := .ref (b + 215)) hx hb hts (fun w h => mw (uw_OP w h)) hown hK hP (XS_0 hX) (by decide) rfl 3 (by decide) (hts _ (mw tb_152)) (fun _ h => h) rfl d_OP_total_9 ?_
  refine lv_iload_n hx hb d_OP_total_12 rfl (lv_at hl 1 rfl) ?_
  have hgi1 : gid 215 := (by unfold gid; decide)
  obtain ⟨ga1, gn1, hga1, hgb1, hgc1⟩ := XS_g hX 215 hgi1
  rw [gv_wh] at hgc1
  refine xc_V (n := 1) (As := [.int (nI dg9)]) (rest := []) (st0 := _) hx hb hml hown hts (c_GR_digitAt l D ca b 219 _ 215 gn1 _ ga1 dg9 hga1 hgb1 (by unfold gid at hgi1; omega) hgc1 (by rw [← p48g]; exact Nat.lt_trans (mSum_lt hH) (by decide)) (by omega)) km_GR_digitAt tb_486 tb_487 tb_488 tb_5 (by decide +kernel) rfl rfl ⟨Nat.le_of_ble_eq_true rfl, Nat.le_of_ble_eq_true rfl⟩ hK hP hga1 (by unfold gid at hgi1; omega) rfl rfl rfl hl rfl (Nat.le_of_ble_eq_true rfl) d_OP_total_13 ⟨by decide, by decide⟩ hS (fun _ h => h) (fun v C H locs hp hP _ _ hS => ?_)
  obtain ⟨rfl, hG1, hG2⟩ := hp
  have hX := XS_same hX hgi1 (by rw [gv_wh]; exact hG1) hG2
  exact xt_iret hx hb hr hlocks hP hS (by decide) (by decide) (fun _ h => h) ⟨dg9, hdg9, hdge, rfl, ⟨_, _, _, _, _, _, _, _, _, _, _, _, k1, im1, hm1, S1, I1, P1, _, _, _, _, _, hX, hR, hnf, hfy1, hfb1⟩⟩ d_OP_total_16

set_option maxHeartbeats 4000000 in
set_option maxRecDepth 100000 in
/-- a digit of the sum for a year of a date -/
theorem c_OP_answered (l : Launch) (hst : l.stackTraces = false) (D : va_G) (ca : Nat → ClassId) (b : Nat) (C0 : Nat → va_E) {nd nt : Nat} {mwt mab mbe on1 ot2 lea mos : Nat → Nat} (d y dg : Int32) (hM : XM ca b C0 nd nt mwt mab mbe on1 ot2 lea mos) (hH : MH on1 ot2 lea mos mwt mab mbe nt nd)  : TMet l y_OP_answered (k_OP_answered :: gw) ({ frames := 7, cells := 8, slots := 48, locals := 152 }) (tPc D ca b 219 C0 [.ref (b + 0), .int d, .int y, .int dg]) (tQ D b 219 (xr b 219) (fun r C1 => ∃ d9 y9 k9, d9 < nd ∧ y9 < 12 ∧ k9 < 48 ∧ d = nI d9 ∧ y = nI y9 ∧ dg = nI k9 ∧ r = some (.int (nI (mSum on1 ot2 lea mos mwt mab mbe nt nd (2 ^ nt - 1) 4095 4095 (va_up (fun _ => 4095) d9 (2 ^ y9)) / 10 ^ k9 % 10))) ∧ XM ca b C1 nd nt mwt mab mbe on1 ot2 lea mos) (fun X => X = nNSE ∧ ¬ (isN d nd ∧ isN y 12 ∧ isN dg 48))) 8 48 (xr b 219) := by
  obtain ⟨wt, ab, be, fr, tt, le, mo, nf, tr, nm, fy, fb, k, im, hm, S, I, P, pt, ap, fa, wh, st, hX, hR, hnf, hfy0, hfb0⟩ := hM
  have hd6 := hH.D.1
  have hn6 := hH.M.1
  refine tm_ofW (cc := b_OP_answered) (maxL := 4) (ret := (some FieldType.int)) (by decide) rfl ?_
  intro p e s m args below meth c s₁ B hml hv
  obtain ⟨hav, hP, hK, hE⟩ := hv
  have hx := B.exec
  have hb := B.bytes
  have hr := B.returns
  have hts := atoms_spec (ws := k_OP_answered :: gw) B.pre
  have hown : s.vm.findClass R_OP = some m.cls := findClass_of_methodNamed B.named
  have hlocks := B.notSynchronized
  have hnoh := B.noHandlers (hts _ List.mem_cons_self)
  have htr : e.platform.stackTraces = false := by rw [(Stand.of_body B).admits.platform]; exact hst
  have hA : ∀ k, k < 219 → xr b 219 (b + k) := xr_in
  have hN : nCh s.heap s.heap := va_S.rf
  have hl := lv_entry ([.ref (b + 0), .int d, .int y, .int dg]) (n := 4) (Nat.le_of_ble_eq_true rfl)
  rw [hav, lg_entry_eq]
  generalize (lg_sl ([.ref (b + 0), .int d, .int y, .int dg]) ++ List.replicate (4 - (lg_sl ([.ref (b + 0), .int d, .int y, .int dg])).length) Slot.unset).toArray = ls at hl ⊢
  have hl : lv_has ls 4 [(0, .ref (b + 0)), (1, .int d), (2, .int y), (3, .int dg)] := hl
  rw [← hav]
  refine lv_aload_n hx hb d_OP_answered_0 rfl (lv_at hl 0 rfl) ?_
  refine lv_iload_n hx hb d_OP_answered_1 rfl (lv_at hl 1 rfl) ?_
  refine xt_go (tm_V (As := [.int d]) (rest := []) (g := F0 m 2 ls [.int d, .ref (b + 0)]) ⟨hx, hb, hml, hown, hts⟩ (c_OP_needDate l hst D ca b _ d hX hd6) (cwV 1 hts (gi_V km_OP_needDate tb_380 tb_382 tps_13 tb_1) rfl rfl rfl (by decide +kernel) ⟨by decide, by decide⟩) ⟨tPc_blind, va_recv hK hP rfl (wl_at (XS_0 hX) (by decide)), fun U hU hW => ⟨rfl, by rw [hU]; exact hP, va_K.moved hW.alike hK, hN.E hU hW hE⟩⟩ rfl rfl hl.1 rfl (Nat.le_of_ble_eq_true rfl) d_OP_answered_2 ⟨by decide, by decide⟩) hnoh hlocks hN (by decide) (by decide) (fun v C1 H hp hP hN => ?_) (fun X hX9 => ⟨hX9.1, fun q9 => hX9.2 q9.1⟩)
  obtain ⟨rfl, hCe, hi2⟩ := hp
  rw [hCe] at hP
  obtain ⟨d9, hd9, hde⟩ := id hi2
  rw [hde] at hl
  refine lv_iload_n hx hb d_OP_answered_5 rfl (lv_at hl 2 rfl) ?_
  refine xt_go (tm_S (As := [.int y]) (rest := []) (g := F0 m 6 ls [.int y]) ⟨hx, hb, hml, hown, hts⟩ (c_OP_needYear l hst D ca b _ y) (cwS 1 hts (gi_S km_OP_needYear tb_400 tb_401 tb_1) rfl rfl rfl (by decide +kernel) ⟨by decide, by decide⟩) ⟨tPc_blind, fun U hU hW => ⟨rfl, by rw [hU]; exact hP, va_K.moved hW.alike hK, hN.E hU hW hE⟩⟩ rfl rfl hl.1 rfl (Nat.le_of_ble_eq_true rfl) d_OP_answered_6 ⟨by decide, by decide⟩) hnoh hlocks hN (by decide) (by decide) (fun v C1 H hp hP hN => ?_) (fun X hX9 => ⟨hX9.1, fun q9 => hX9.2 q9.2.1⟩)
  obtain ⟨rfl, hCe, hi6⟩ := hp
  rw [hCe] at hP
  obtain ⟨y9, hy9, hye⟩ := id hi6
  rw [hye] at hl
  refine lv_iload_n hx hb d_OP_answered_9 rfl (lv_at hl 3 rfl) ?_
  refine xt_go (tm_S (As := [.int dg]) (rest := []) (g := F0 m 10 ls [.int dg]) ⟨hx, hb, hml, hown, hts⟩ (c_OP_needDigit l hst D ca b _ dg) (cwS 1 hts (gi_S km_OP_needDigit tb_482 tb_483 tb_1) rfl rfl rfl (by decide +kernel) ⟨by decide, by decide⟩) ⟨tPc_blind, fun U hU hW => ⟨rfl, by rw [hU]; exact hP, va_K.moved hW.alike hK, hN.E hU hW hE⟩⟩ rfl rfl hl.1 rfl (Nat.le_of_ble_eq_true rfl) d_OP_answered_10 ⟨by decide, by decide⟩) hnoh hlocks hN (by decide) (by decide) (fun v C1 H hp hP hN => ?_) (fun X hX9 => ⟨hX9.1, fun q9 => hX9.2 q9.2.2⟩)
  obtain ⟨rfl, hCe, hi10⟩ := hp
  rw [hCe] at hP
  obtain ⟨dg9, hdg9, hdge⟩ := id hi10
  rw [hdge] at hl
  refine lv_aload_n hx hb d_OP_answered_13 rfl (lv_at hl 0 rfl) ?_
  refine xw_get (v := .ref (b + 18)) hx hb hts (fun w h => mw (uw_OP w h)) hown hK hP (XS_0 hX) (by decide) rfl 2 (by decide) (hts _ (mw tb_151)) (fun _ h => h) rfl d_OP_answered_14 ?_
  refine lv_iload_n hx hb d_OP_answered_17 rfl (lv_at hl 1 rfl) ?_
  refine lv_aload_n hx hb d_OP_answered_18 rfl (lv_at hl 0 rfl) ?_
  refine xw_get (v := .ref (b + 1)) hx hb hts (fun w h => mw (uw_OP w h)) hown hK hP (XS_0 hX) (by decide) rfl 0 (by decide) (hts _ (mw tb_149)) (fun _ h => h) rfl d_OP_answered_19 ?_
  refine lv_aload_n hx hb d_OP_answered_22 rfl (lv_at hl 0 rfl) ?_
  refine xw_get (v := .ref (b + 11)) hx hb hts (fun w h => mw (uw_OP w h)) hown hK hP (XS_0 hX) (by decide) rfl 1 (by decide) (hts _ (mw tb_150)) (fun _ h => h) rfl d_OP_answered_23 ?_
  have hS : va_S (xr b 219) s.heap _ [] := hN.to
  refine xc_V (n := 3) (As := [.int (nI d9), .ref (b + 1), .ref (b + 11)]) (rest := []) (st0 := _) hx hb hml hown hts (c_PA_passR l D ca b _ d9 (2 ^ nt - 1) 4095 4095 (fun y => fixW (cnt (mw2 mwt) mab mbe) d9 y) hX hH hR (by omega) (fun i hi => by rw [hnf i hi]; exact (bits_lt.mpr hi).symm) (fun d hd y hy => by rw [hfy0 d (by omega)] at hy; cases hy) (fun w hw y hy => by rw [hfb0 w hw] at hy; cases hy) (fix_s0 hR hd6 hfy0 d9) (oB_none hfb0 (by decide)) (oB_none hfb0 (by decide))) km_PA_passTo tb_181 tb_182 tb_183 tb_4 (by decide +kernel) rfl rfl ⟨Nat.le_of_ble_eq_true rfl, Nat.le_of_ble_eq_true rfl⟩ hK hP (XS_18 hX) (by decide) rfl rfl rfl hl rfl (Nat.le_of_ble_eq_true rfl) d_OP_answered_26 ⟨by decide, by decide⟩ hS (fun _ h => h) (fun v C H locs hp hP _ _ hS => ?_)
  obtain ⟨rfl, k1, im1, hm1, S1, f1, I1, P1, p1, a1, hX, hS1⟩ := hp
  refine lv_aload_n hx hb d_OP_answered_29 rfl (lv_at hl 0 rfl) ?_
  refine xw_get (v := .ref (b + 18)) hx hb hts (fun w h => mw (uw_OP w h)) hown hK hP (XS_0 hX) (by decide) rfl 2 (by decide) (hts _ (mw tb_151)) (fun _ h => h) rfl d_OP_answered_30 ?_
  refine lv_iload_n hx hb d_OP_answered_33 rfl (lv_at hl 1 rfl) ?_
  refine lv_iload_n hx hb d_OP_answered_34 rfl (lv_at hl 2 rfl) ?_
  refine xc_V (n := 2) (As := [.int (nI d9), .int (nI y9)]) (rest := []) (st0 := _) hx hb hml hown hts (c_PA_sumAt l D ca b _ d9 y9 hX (by omega) (by omega)) km_PA_sumAt tb_498 tb_195 tb_196 tb_4 (by decide +kernel) rfl rfl ⟨Nat.le_of_ble_eq_true rfl, Nat.le_of_ble_eq_true rfl⟩ hK hP (XS_18 hX) (by decide) rfl rfl rfl hl rfl (Nat.le_of_ble_eq_true rfl) d_OP_answered_35 ⟨by decide, by decide⟩ hS (fun _ h => h) (fun v C H locs hp hP _ _ hS => ?_)
  obtain ⟨rfl, hX⟩ := hp
  refine lv_iload_n hx hb d_OP_answered_38 rfl (lv_at hl 3 rfl) ?_
  have hgi1 : gid ((35 + 2 * (d9 * 12 + y9))) := (by unfold gid; omega)
  obtain ⟨ga1, gn1, hga1, hgb1, hgc1⟩ := XS_g hX ((35 + 2 * (d9 * 12 + y9))) hgi1
  rw [gv_S (by omega) (by omega)] at hgc1
  refine xc_V (n := 1) (As := [.int (nI dg9)]) (rest := []) (st0 := _) hx hb hml hown hts (c_GR_digitAt l D ca b 219 _ ((35 + 2 * (d9 * 12 + y9))) gn1 _ ga1 dg9 hga1 hgb1 (by unfold gid at hgi1; omega) hgc1 (by rw [hS1 y9 hy9, ← mSum_Ay, ← p48g]; exact Nat.lt_trans (mSum_lt hH) (by decide)) (by omega)) km_GR_digitAt tb_486 tb_487 tb_488 tb_5 (by decide +kernel) rfl rfl ⟨Nat.le_of_ble_eq_true rfl, Nat.le_of_ble_eq_true rfl⟩ hK hP hga1 (by unfold gid at hgi1; omega) rfl rfl rfl hl rfl (Nat.le_of_ble_eq_true rfl) d_OP_answered_39 ⟨by decide, by decide⟩ hS (fun _ h => h) (fun v C H locs hp hP _ _ hS => ?_)
  obtain ⟨rfl, hG1, hG2⟩ := hp
  have hX := XS_same hX hgi1 (by rw [gv_S (by omega) (by omega)]; exact hG1) hG2
  exact xt_iret hx hb hr hlocks hP hS (by decide) (by decide) (fun _ h => h) ⟨d9, y9, dg9, hd9, hy9, hdg9, hde, hye, hdge, by rw [hS1 y9 hy9, ← mSum_Ay], ⟨_, _, _, _, _, _, _, _, _, _, _, _, k1, im1, hm1, S1, I1, P1, _, _, _, _, _, hX, hR, hnf, clr_none, clr_none⟩⟩ d_OP_answered_42

set_option maxHeartbeats 4000000 in
set_option maxRecDepth 100000 in
/-- a digit of the sum with a bound -/
theorem c_OP_bound (l : Launch) (hst : l.stackTraces = false) (D : va_G) (ca : Nat → ClassId) (b : Nat) (C0 : Nat → va_E) {nd nt : Nat} {mwt mab mbe on1 ot2 lea mos : Nat → Nat} (x y dg : Int32) (hM : XM ca b C0 nd nt mwt mab mbe on1 ot2 lea mos) (hH : MH on1 ot2 lea mos mwt mab mbe nt nd)  : TMet l y_OP_bound (k_OP_bound :: gw) ({ frames := 7, cells := 8, slots := 48, locals := 172 }) (tPc D ca b 219 C0 [.ref (b + 0), .int x, .int y, .int dg]) (tQ D b 219 (xr b 219) (fun r C1 => ∃ x9 y9 k9, x9 < 2 ∧ y9 < 12 ∧ k9 < 48 ∧ x = nI x9 ∧ y = nI y9 ∧ dg = nI k9 ∧ (∃ i, i < nt ∧ (2 ^ nt - 1).testBit i = true ∧ on1 i = ot2 i) ∧ r = some (.int (nI (mSum on1 ot2 lea mos mwt mab mbe nt nd (2 ^ nt - 1) (if x9 = 0 then 2 ^ y9 else 4095) (if x9 = 1 then 2 ^ y9 else 4095) (fun _ => 4095) / 10 ^ k9 % 10))) ∧ XM ca b C1 nd nt mwt mab mbe on1 ot2 lea mos) (fun X => (X = nNSE ∧ ¬ (isN x 2 ∧ isN y 12 ∧ isN dg 48)) ∨ (X = nISE ∧ (isN x 2 ∧ isN y 12 ∧ isN dg 48) ∧ ¬ (∃ i, i < nt ∧ (2 ^ nt - 1).testBit i = true ∧ on1 i = ot2 i)))) 8 48 (xr b 219) := by
  obtain ⟨wt, ab, be, fr, tt, le, mo, nf, tr, nm, fy, fb, k, im, hm, S, I, P, pt, ap, fa, wh, st, hX, hR, hnf, hfy0, hfb0⟩ := hM
  have hd6 := hH.D.1
  have hn6 := hH.M.1
  refine tm_ofW (cc := b_OP_bound) (maxL := 4) (ret := (some FieldType.int)) (by decide) rfl ?_
  intro p e s m args below meth c s₁ B hml hv
  obtain ⟨hav, hP, hK, hE⟩ := hv
  have hx := B.exec
  have hb := B.bytes
  have hr := B.returns
  have hts := atoms_spec (ws := k_OP_bound :: gw) B.pre
  have hown : s.vm.findClass R_OP = some m.cls := findClass_of_methodNamed B.named
  have hlocks := B.notSynchronized
  have hnoh := B.noHandlers (hts _ List.mem_cons_self)
  have htr : e.platform.stackTraces = false := by rw [(Stand.of_body B).admits.platform]; exact hst
  have hA : ∀ k, k < 219 → xr b 219 (b + k) := xr_in
  have hN : nCh s.heap s.heap := va_S.rf
  have hl := lv_entry ([.ref (b + 0), .int x, .int y, .int dg]) (n := 4) (Nat.le_of_ble_eq_true rfl)
  rw [hav, lg_entry_eq]
  generalize (lg_sl ([.ref (b + 0), .int x, .int y, .int dg]) ++ List.replicate (4 - (lg_sl ([.ref (b + 0), .int x, .int y, .int dg])).length) Slot.unset).toArray = ls at hl ⊢
  have hl : lv_has ls 4 [(0, .ref (b + 0)), (1, .int x), (2, .int y), (3, .int dg)] := hl
  rw [← hav]
  have hnm6 : nm ≤ 6 := by rw [hR.2.2.2]; exact Nat.le_trans (mct_le on1 ot2 nt) hn6
  refine lv_iload_n hx hb d_OP_bound_0 rfl (lv_at hl 1 rfl) ?_
  refine xt_go (tm_S (As := [.int x]) (rest := []) (g := F0 m 1 ls [.int x]) ⟨hx, hb, hml, hown, hts⟩ (c_OP_needBound l hst D ca b _ x) (cwS 1 hts (gi_S km_OP_needBound tb_506 tb_507 tb_1) rfl rfl rfl (by decide +kernel) ⟨by decide, by decide⟩) ⟨tPc_blind, fun U hU hW => ⟨rfl, by rw [hU]; exact hP, va_K.moved hW.alike hK, hN.E hU hW hE⟩⟩ rfl rfl hl.1 rfl (Nat.le_of_ble_eq_true rfl) d_OP_bound_1 ⟨by decide, by decide⟩) hnoh hlocks hN (by decide) (by decide) (fun v C1 H hp hP hN => ?_) (fun X hX9 => Or.inl ⟨hX9.1, fun q9 => hX9.2 q9.1⟩)
  obtain ⟨rfl, hCe, hi1⟩ := hp
  rw [hCe] at hP
  obtain ⟨x9, hx9, hxe⟩ := id hi1
  rw [hxe] at hl
  refine lv_iload_n hx hb d_OP_bound_4 rfl (lv_at hl 2 rfl) ?_
  refine xt_go (tm_S (As := [.int y]) (rest := []) (g := F0 m 5 ls [.int y]) ⟨hx, hb, hml, hown, hts⟩ (c_OP_needYear l hst D ca b _ y) (cwS 1 hts (gi_S km_OP_needYear tb_400 tb_401 tb_1) rfl rfl rfl (by decide +kernel) ⟨by decide, by decide⟩) ⟨tPc_blind, fun U hU hW => ⟨rfl, by rw [hU]; exact hP, va_K.moved hW.alike hK, hN.E hU hW hE⟩⟩ rfl rfl hl.1 rfl (Nat.le_of_ble_eq_true rfl) d_OP_bound_5 ⟨by decide, by decide⟩) hnoh hlocks hN (by decide) (by decide) (fun v C1 H hp hP hN => ?_) (fun X hX9 => Or.inl ⟨hX9.1, fun q9 => hX9.2 q9.2.1⟩)
  obtain ⟨rfl, hCe, hi5⟩ := hp
  rw [hCe] at hP
  obtain ⟨y9, hy9, hye⟩ := id hi5
  rw [hye] at hl
  refine lv_iload_n hx hb d_OP_bound_8 rfl (lv_at hl 3 rfl) ?_
  refine xt_go (tm_S (As := [.int dg]) (rest := []) (g := F0 m 9 ls [.int dg]) ⟨hx, hb, hml, hown, hts⟩ (c_OP_needDigit l hst D ca b _ dg) (cwS 1 hts (gi_S km_OP_needDigit tb_482 tb_483 tb_1) rfl rfl rfl (by decide +kernel) ⟨by decide, by decide⟩) ⟨tPc_blind, fun U hU hW => ⟨rfl, by rw [hU]; exact hP, va_K.moved hW.alike hK, hN.E hU hW hE⟩⟩ rfl rfl hl.1 rfl (Nat.le_of_ble_eq_true rfl) d_OP_bound_9 ⟨by decide, by decide⟩) hnoh hlocks hN (by decide) (by decide) (fun v C1 H hp hP hN => ?_) (fun X hX9 => Or.inl ⟨hX9.1, fun q9 => hX9.2 q9.2.2⟩)
  obtain ⟨rfl, hCe, hi9⟩ := hp
  rw [hCe] at hP
  obtain ⟨dg9, hdg9, hdge⟩ := id hi9
  rw [hdge] at hl
  refine lv_aload_n hx hb d_OP_bound_12 rfl (lv_at hl 0 rfl) ?_
  refine xw_get (v := .ref (b + 11)) hx hb hts (fun w h => mw (uw_OP w h)) hown hK hP (XS_0 hX) (by decide) rfl 1 (by decide) (hts _ (mw tb_150)) (fun _ h => h) rfl d_OP_bound_13 ?_
  refine xg_V (n := 0) (As := []) (rest := []) (st0 := _) hx hb hml hown hts (c0_TE_members l D ca b _ hX) km_TE_members tb_510 tb_511 tb_512 tb_3 (by decide +kernel) rfl rfl ⟨by decide, by decide⟩ hK hP (XS_11 hX) (by decide) rfl rfl rfl hl rfl (Nat.le_of_ble_eq_true rfl) d_OP_bound_16 ⟨by decide, by decide⟩ hN (fun v H hp hP hN => ?_)
  subst hp
  refine xz_ne (tgt := 32) hx hb d_OP_bound_19 (by decide) (by omega) (fun h19 => ?_) (fun h19 => ?_)
  · skip
    have hme : (∃ i, i < nt ∧ (2 ^ nt - 1).testBit i = true ∧ on1 i = ot2 i) := mct_pos (by rw [← hR.2.2.2]; exact h19)
    refine lv_aload_n hx hb d_OP_bound_32 rfl (lv_at hl 0 rfl) ?_
    refine xw_get (v := .ref (b + 18)) hx hb hts (fun w h => mw (uw_OP w h)) hown hK hP (XS_0 hX) (by decide) rfl 2 (by decide) (hts _ (mw tb_151)) (fun _ h => h) rfl d_OP_bound_33 ?_
    refine lv_iload_n hx hb d_OP_bound_36 rfl (lv_at hl 1 rfl) ?_
    refine lv_iload_n hx hb d_OP_bound_37 rfl (lv_at hl 2 rfl) ?_
    have hS : va_S (xr b 219) s.heap _ [] := hN.to
    refine xc_V (n := 2) (As := [.int (nI x9), .int (nI y9)]) (rest := []) (st0 := _) hx hb hml hown hts (c_PA_fixBound l D ca b _ x9 y9 hX (by omega)) km_PA_fixBound tb_515 tb_516 tb_517 tb_4 (by decide +kernel) rfl rfl ⟨Nat.le_of_ble_eq_true rfl, Nat.le_of_ble_eq_true rfl⟩ hK hP (XS_18 hX) (by decide) rfl rfl rfl hl rfl (Nat.le_of_ble_eq_true rfl) d_OP_bound_38 ⟨by decide, by decide⟩ hS (fun _ h => h) (fun v C H locs hp hP _ _ hS => ?_)
    obtain ⟨rfl, hX⟩ := hp
    refine lv_aload_n hx hb d_OP_bound_41 rfl (lv_at hl 0 rfl) ?_
    refine xc_V (n := 0) (As := []) (rest := []) (st0 := _) hx hb hml hown hts (c_OP_sumAll l D ca b _ (2 ^ nt - 1) (if x9 = 0 then 2 ^ y9 else 4095) (if x9 = 1 then 2 ^ y9 else 4095) hX hH hR (fun i hi => by rw [hnf i hi]; exact (bits_lt.mpr hi).symm) hfy0 (up_31 hfb0 hy9) (oB_fix hfb0 (by decide)) (oB_fix hfb0 (by decide)) (fun q => by obtain ⟨i, h1, -, -⟩ := hme; have := (hH.T i h1).1; omega)) km_OP_sumAll tb_169 tb_171 tps_0 tb_1 (by decide +kernel) rfl rfl ⟨Nat.le_of_ble_eq_true rfl, Nat.le_of_ble_eq_true rfl⟩ hK hP (XS_0 hX) (by decide) rfl rfl rfl hl rfl (Nat.le_of_ble_eq_true rfl) d_OP_bound_42 ⟨by decide, by decide⟩ hS (fun _ h => h) (fun v C H locs hp hP _ _ hS => ?_)
    obtain ⟨rfl, k1, im1, hm1, S1, f1, I1, P1, p1, a1, fy1, fb1, hX, hfy1, hfb1⟩ := hp
    refine lv_aload_n hx hb d_OP_bound_45 rfl (lv_at hl 0 rfl) ?_
    refine xw_get (v := .ref (b + 215)) hx hb hts (fun w h => mw (uw_OP w h)) hown hK hP (XS_0 hX) (by decide) rfl 3 (by decide) (hts _ (mw tb_152)) (fun _ h => h) rfl d_OP_bound_46 ?_
    refine lv_iload_n hx hb d_OP_bound_49 rfl (lv_at hl 3 rfl) ?_
    have hgi1 : gid 215 := (by unfold gid; decide)
    obtain ⟨ga1, gn1, hga1, hgb1, hgc1⟩ := XS_g hX 215 hgi1
    rw [gv_wh] at hgc1
    refine xc_V (n := 1) (As := [.int (nI dg9)]) (rest := []) (st0 := _) hx hb hml hown hts (c_GR_digitAt l D ca b 219 _ 215 gn1 _ ga1 dg9 hga1 hgb1 (by unfold gid at hgi1; omega) hgc1 (by rw [← p48g]; exact Nat.lt_trans (mSum_lt hH) (by decide)) (by omega)) km_GR_digitAt tb_486 tb_487 tb_488 tb_5 (by decide +kernel) rfl rfl ⟨Nat.le_of_ble_eq_true rfl, Nat.le_of_ble_eq_true rfl⟩ hK hP hga1 (by unfold gid at hgi1; omega) rfl rfl rfl hl rfl (Nat.le_of_ble_eq_true rfl) d_OP_bound_50 ⟨by decide, by decide⟩ hS (fun _ h => h) (fun v C H locs hp hP _ _ hS => ?_)
    obtain ⟨rfl, hG1, hG2⟩ := hp
    have hX := XS_same hX hgi1 (by rw [gv_wh]; exact hG1) hG2
    exact xt_iret hx hb hr hlocks hP hS (by decide) (by decide) (fun _ h => h) ⟨x9, y9, dg9, hx9, hy9, hdg9, hxe, hye, hdge, hme, rfl, ⟨_, _, _, _, _, _, _, _, _, _, _, _, k1, im1, hm1, S1, I1, P1, _, _, _, _, _, hX, hR, hnf, hfy1, hfb1⟩⟩ d_OP_bound_53
  · skip
    exact xt_throw (istr := 114) (text := "there are no members") (ix := 7) (bx := Bundle.six) hx hb hml hown htr hlocks hnoh (hts _ (mw tb_299)) (hts _ (mw tb_300)) (hts _ (mw tb_11)) (ex_str (State.WarmedH.refl _) (hE.2.2.2.1 (114, _) (by decide))) (own_ok hts hE ownI_in) (by decide +kernel) ⟨by decide +kernel, by decide +kernel, by decide +kernel, by decide +kernel⟩ d_OP_bound_22 d_OP_bound_25 d_OP_bound_26 d_OP_bound_28 d_OP_bound_31 hN hl (Or.inr ⟨rfl, ⟨hi1, hi5, hi9⟩, mct_zero (by rw [← hR.2.2.2]; exact h19)⟩) ⟨by decide, by decide⟩ ⟨by decide, by decide⟩ (by decide) (by decide)

set_option maxHeartbeats 4000000 in
set_option maxRecDepth 100000 in
/-- a digit of the sum for years of two dates -/
theorem c_OP_both (l : Launch) (hst : l.stackTraces = false) (D : va_G) (ca : Nat → ClassId) (b : Nat) (C0 : Nat → va_E) {nd nt : Nat} {mwt mab mbe on1 ot2 lea mos : Nat → Nat} (a x g y dg : Int32) (hM : XM ca b C0 nd nt mwt mab mbe on1 ot2 lea mos) (hH : MH on1 ot2 lea mos mwt mab mbe nt nd)  : TMet l y_OP_both (k_OP_both :: gw) ({ frames := 7, cells := 8, slots := 48, locals := 152 }) (tPc D ca b 219 C0 [.ref (b + 0), .int a, .int x, .int g, .int y, .int dg]) (tQ D b 219 (xr b 219) (fun r C1 => ∃ a9 x9 g9 y9 k9, a9 < nd ∧ x9 < 12 ∧ g9 < nd ∧ y9 < 12 ∧ k9 < 48 ∧ a = nI a9 ∧ x = nI x9 ∧ g = nI g9 ∧ y = nI y9 ∧ dg = nI k9 ∧ r = some (.int (nI (mSum on1 ot2 lea mos mwt mab mbe nt nd (2 ^ nt - 1) 4095 4095 (va_up (va_up (fun _ => 4095) a9 (2 ^ x9)) g9 ((if g9 = a9 then 2 ^ x9 else 4095) &&& 2 ^ y9)) / 10 ^ k9 % 10))) ∧ XM ca b C1 nd nt mwt mab mbe on1 ot2 lea mos) (fun X => X = nNSE ∧ ¬ (isN a nd ∧ isN x 12 ∧ isN g nd ∧ isN y 12 ∧ isN dg 48))) 8 48 (xr b 219) := by
  obtain ⟨wt, ab, be, fr, tt, le, mo, nf, tr, nm, fy, fb, k, im, hm, S, I, P, pt, ap, fa, wh, st, hX, hR, hnf, hfy0, hfb0⟩ := hM
  have hd6 := hH.D.1
  have hn6 := hH.M.1
  refine tm_ofW (cc := b_OP_both) (maxL := 6) (ret := (some FieldType.int)) (by decide) rfl ?_
  intro p e s m args below meth c s₁ B hml hv
  obtain ⟨hav, hP, hK, hE⟩ := hv
  have hx := B.exec
  have hb := B.bytes
  have hr := B.returns
  have hts := atoms_spec (ws := k_OP_both :: gw) B.pre
  have hown : s.vm.findClass R_OP = some m.cls := findClass_of_methodNamed B.named
  have hlocks := B.notSynchronized
  have hnoh := B.noHandlers (hts _ List.mem_cons_self)
  have htr : e.platform.stackTraces = false := by rw [(Stand.of_body B).admits.platform]; exact hst
  have hA : ∀ k, k < 219 → xr b 219 (b + k) := xr_in
  have hN : nCh s.heap s.heap := va_S.rf
  have hl := lv_entry ([.ref (b + 0), .int a, .int x, .int g, .int y, .int dg]) (n := 6) (Nat.le_of_ble_eq_true rfl)
  rw [hav, lg_entry_eq]
  generalize (lg_sl ([.ref (b + 0), .int a, .int x, .int g, .int y, .int dg]) ++ List.replicate (6 - (lg_sl ([.ref (b + 0), .int a, .int x, .int g, .int y, .int dg])).length) Slot.unset).toArray = ls at hl ⊢
  have hl : lv_has ls 6 [(0, .ref (b + 0)), (1, .int a), (2, .int x), (3, .int g), (4, .int y), (5, .int dg)] := hl
  rw [← hav]
  refine lv_aload_n hx hb d_OP_both_0 rfl (lv_at hl 0 rfl) ?_
  refine lv_iload_n hx hb d_OP_both_1 rfl (lv_at hl 1 rfl) ?_
  refine xt_go (tm_V (As := [.int a]) (rest := []) (g := F0 m 2 ls [.int a, .ref (b + 0)]) ⟨hx, hb, hml, hown, hts⟩ (c_OP_needDate l hst D ca b _ a hX hd6) (cwV 1 hts (gi_V km_OP_needDate tb_380 tb_382 tps_13 tb_1) rfl rfl rfl (by decide +kernel) ⟨by decide, by decide⟩) ⟨tPc_blind, va_recv hK hP rfl (wl_at (XS_0 hX) (by decide)), fun U hU hW => ⟨rfl, by rw [hU]; exact hP, va_K.moved hW.alike hK, hN.E hU hW hE⟩⟩ rfl rfl hl.1 rfl (Nat.le_of_ble_eq_true rfl) d_OP_both_2 ⟨by decide, by decide⟩) hnoh hlocks hN (by decide) (by decide) (fun v C1 H hp hP hN => ?_) (fun X hX9 => ⟨hX9.1, fun q9 => hX9.2 q9.1⟩)
  obtain ⟨rfl, hCe, hi2⟩ := hp
  rw [hCe] at hP
  obtain ⟨a9, ha9, hae⟩ := id hi2
  rw [hae] at hl
  refine lv_iload_n hx hb d_OP_both_5 rfl (lv_at hl 2 rfl) ?_
  refine xt_go (tm_S (As := [.int x]) (rest := []) (g := F0 m 6 ls [.int x]) ⟨hx, hb, hml, hown, hts⟩ (c_OP_needYear l hst D ca b _ x) (cwS 1 hts (gi_S km_OP_needYear tb_400 tb_401 tb_1) rfl rfl rfl (by decide +kernel) ⟨by decide, by decide⟩) ⟨tPc_blind, fun U hU hW => ⟨rfl, by rw [hU]; exact hP, va_K.moved hW.alike hK, hN.E hU hW hE⟩⟩ rfl rfl hl.1 rfl (Nat.le_of_ble_eq_true rfl) d_OP_both_6 ⟨by decide, by decide⟩) hnoh hlocks hN (by decide) (by decide) (fun v C1 H hp hP hN => ?_) (fun X hX9 => ⟨hX9.1, fun q9 => hX9.2 q9.2.1⟩)
  obtain ⟨rfl, hCe, hi6⟩ := hp
  rw [hCe] at hP
  obtain ⟨x9, hx9, hxe⟩ := id hi6
  rw [hxe] at hl
  refine lv_aload_n hx hb d_OP_both_9 rfl (lv_at hl 0 rfl) ?_
  refine lv_iload_n hx hb d_OP_both_10 rfl (lv_at hl 3 rfl) ?_
  refine xt_go (tm_V (As := [.int g]) (rest := []) (g := F0 m 11 ls [.int g, .ref (b + 0)]) ⟨hx, hb, hml, hown, hts⟩ (c_OP_needDate l hst D ca b _ g hX hd6) (cwV 1 hts (gi_V km_OP_needDate tb_380 tb_382 tps_13 tb_1) rfl rfl rfl (by decide +kernel) ⟨by decide, by decide⟩) ⟨tPc_blind, va_recv hK hP rfl (wl_at (XS_0 hX) (by decide)), fun U hU hW => ⟨rfl, by rw [hU]; exact hP, va_K.moved hW.alike hK, hN.E hU hW hE⟩⟩ rfl rfl hl.1 rfl (Nat.le_of_ble_eq_true rfl) d_OP_both_11 ⟨by decide, by decide⟩) hnoh hlocks hN (by decide) (by decide) (fun v C1 H hp hP hN => ?_) (fun X hX9 => ⟨hX9.1, fun q9 => hX9.2 q9.2.2.1⟩)
  obtain ⟨rfl, hCe, hi11⟩ := hp
  rw [hCe] at hP
  obtain ⟨g9, hg9, hge⟩ := id hi11
  rw [hge] at hl
  refine lv_iload hx hb d_OP_both_14 (lv_at hl 4 rfl) ?_
  refine xt_go (tm_S (As := [.int y]) (rest := []) (g := F0 m 16 ls [.int y]) ⟨hx, hb, hml, hown, hts⟩ (c_OP_needYear l hst D ca b _ y) (cwS 1 hts (gi_S km_OP_needYear tb_400 tb_401 tb_1) rfl rfl rfl (by decide +kernel) ⟨by decide, by decide⟩) ⟨tPc_blind, fun U hU hW => ⟨rfl, by rw [hU]; exact hP, va_K.moved hW.alike hK, hN.E hU hW hE⟩⟩ rfl rfl hl.1 rfl (Nat.le_of_ble_eq_true rfl) d_OP_both_16 ⟨by decide, by decide⟩) hnoh hlocks hN (by decide) (by decide) (fun v C1 H hp hP hN => ?_) (fun X hX9 => ⟨hX9.1, fun q9 => hX9.2 q9.2.2.2.1⟩)
  obtain ⟨rfl, hCe, hi16⟩ := hp
  rw [hCe] at hP
  obtain ⟨y9, hy9, hye⟩ := id hi16
  rw [hye] at hl
  refine lv_iload hx hb d_OP_both_19 (lv_at hl 5 rfl) ?_
  refine xt_go (tm_S (As := [.int dg]) (rest := []) (g := F0 m 21 ls [.int dg]) ⟨hx, hb, hml, hown, hts⟩ (c_OP_needDigit l hst D ca b _ dg) (cwS 1 hts (gi_S km_OP_needDigit tb_482 tb_483 tb_1) rfl rfl rfl (by decide +kernel) ⟨by decide, by decide⟩) ⟨tPc_blind, fun U hU hW => ⟨rfl, by rw [hU]; exact hP, va_K.moved hW.alike hK, hN.E hU hW hE⟩⟩ rfl rfl hl.1 rfl (Nat.le_of_ble_eq_true rfl) d_OP_both_21 ⟨by decide, by decide⟩) hnoh hlocks hN (by decide) (by decide) (fun v C1 H hp hP hN => ?_) (fun X hX9 => ⟨hX9.1, fun q9 => hX9.2 q9.2.2.2.2⟩)
  obtain ⟨rfl, hCe, hi21⟩ := hp
  rw [hCe] at hP
  obtain ⟨dg9, hdg9, hdge⟩ := id hi21
  rw [hdge] at hl
  refine lv_aload_n hx hb d_OP_both_24 rfl (lv_at hl 0 rfl) ?_
  refine xw_get (v := .ref (b + 18)) hx hb hts (fun w h => mw (uw_OP w h)) hown hK hP (XS_0 hX) (by decide) rfl 2 (by decide) (hts _ (mw tb_151)) (fun _ h => h) rfl d_OP_both_25 ?_
  refine lv_iload_n hx hb d_OP_both_28 rfl (lv_at hl 1 rfl) ?_
  refine lv_iload_n hx hb d_OP_both_29 rfl (lv_at hl 2 rfl) ?_
  have hS : va_S (xr b 219) s.heap _ [] := hN.to
  refine xc_V (n := 2) (As := [.int (nI a9), .int (nI x9)]) (rest := []) (st0 := _) hx hb hml hown hts (c_PA_fixDate l D ca b _ a9 x9 hX (by omega)) km_PA_fixDate tb_526 tb_527 tb_528 tb_4 (by decide +kernel) rfl rfl ⟨Nat.le_of_ble_eq_true rfl, Nat.le_of_ble_eq_true rfl⟩ hK hP (XS_18 hX) (by decide) rfl rfl rfl hl rfl (Nat.le_of_ble_eq_true rfl) d_OP_both_30 ⟨by decide, by decide⟩ hS (fun _ h => h) (fun v C H locs hp hP _ _ hS => ?_)
  obtain ⟨rfl, hX⟩ := hp
  refine lv_aload_n hx hb d_OP_both_33 rfl (lv_at hl 0 rfl) ?_
  refine xw_get (v := .ref (b + 18)) hx hb hts (fun w h => mw (uw_OP w h)) hown hK hP (XS_0 hX) (by decide) rfl 2 (by decide) (hts _ (mw tb_151)) (fun _ h => h) rfl d_OP_both_34 ?_
  refine lv_iload_n hx hb d_OP_both_37 rfl (lv_at hl 3 rfl) ?_
  refine lv_aload_n hx hb d_OP_both_38 rfl (lv_at hl 0 rfl) ?_
  refine xw_get (v := .ref (b + 1)) hx hb hts (fun w h => mw (uw_OP w h)) hown hK hP (XS_0 hX) (by decide) rfl 0 (by decide) (hts _ (mw tb_149)) (fun _ h => h) rfl d_OP_both_39 ?_
  refine lv_aload_n hx hb d_OP_both_42 rfl (lv_at hl 0 rfl) ?_
  refine xw_get (v := .ref (b + 11)) hx hb hts (fun w h => mw (uw_OP w h)) hown hK hP (XS_0 hX) (by decide) rfl 1 (by decide) (hts _ (mw tb_150)) (fun _ h => h) rfl d_OP_both_43 ?_
  refine xc_V (n := 3) (As := [.int (nI g9), .ref (b + 1), .ref (b + 11)]) (rest := []) (st0 := _) hx hb hml hown hts (c_PA_passR l D ca b _ g9 (2 ^ nt - 1) 4095 4095 (fun y => fun d z => lyF mwt mab mbe (va_up (va_up (fun _ => 4095) a9 (2 ^ x9)) g9 ((if g9 = a9 then 2 ^ x9 else 4095) &&& 2 ^ y)) (12 * d + z)) hX hH hR (by omega) (fun i hi => by rw [hnf i hi]; exact (bits_lt.mpr hi).symm) (fun d hd => up_31 hfy0 hx9 d (by omega)) (fun w hw y hy => by rw [hfb0 w hw] at hy; cases hy) (both_W hR hd6 hfy0 a9 x9 g9) (oB_none hfb0 (by decide)) (oB_none hfb0 (by decide))) km_PA_passTo tb_181 tb_182 tb_183 tb_4 (by decide +kernel) rfl rfl ⟨Nat.le_of_ble_eq_true rfl, Nat.le_of_ble_eq_true rfl⟩ hK hP (XS_18 hX) (by decide) rfl rfl rfl hl rfl (Nat.le_of_ble_eq_true rfl) d_OP_both_46 ⟨by decide, by decide⟩ hS (fun _ h => h) (fun v C H locs hp hP _ _ hS => ?_)
  obtain ⟨rfl, k1, im1, hm1, S1, f1, I1, P1, p1, a1, hX, hS1⟩ := hp
  refine lv_aload_n hx hb d_OP_both_49 rfl (lv_at hl 0 rfl) ?_
  refine xw_get (v := .ref (b + 18)) hx hb hts (fun w h => mw (uw_OP w h)) hown hK hP (XS_0 hX) (by decide) rfl 2 (by decide) (hts _ (mw tb_151)) (fun _ h => h) rfl d_OP_both_50 ?_
  refine lv_iload_n hx hb d_OP_both_53 rfl (lv_at hl 3 rfl) ?_
  refine lv_iload hx hb d_OP_both_54 (lv_at hl 4 rfl) ?_
  refine xc_V (n := 2) (As := [.int (nI g9), .int (nI y9)]) (rest := []) (st0 := _) hx hb hml hown hts (c_PA_sumAt l D ca b _ g9 y9 hX (by omega) (by omega)) km_PA_sumAt tb_498 tb_195 tb_196 tb_4 (by decide +kernel) rfl rfl ⟨Nat.le_of_ble_eq_true rfl, Nat.le_of_ble_eq_true rfl⟩ hK hP (XS_18 hX) (by decide) rfl rfl rfl hl rfl (Nat.le_of_ble_eq_true rfl) d_OP_both_56 ⟨by decide, by decide⟩ hS (fun _ h => h) (fun v C H locs hp hP _ _ hS => ?_)
  obtain ⟨rfl, hX⟩ := hp
  refine lv_iload hx hb d_OP_both_59 (lv_at hl 5 rfl) ?_
  have hgi1 : gid ((35 + 2 * (g9 * 12 + y9))) := (by unfold gid; omega)
  obtain ⟨ga1, gn1, hga1, hgb1, hgc1⟩ := XS_g hX ((35 + 2 * (g9 * 12 + y9))) hgi1
  rw [gv_S (by omega) (by omega)] at hgc1
  refine xc_V (n := 1) (As := [.int (nI dg9)]) (rest := []) (st0 := _) hx hb hml hown hts (c_GR_digitAt l D ca b 219 _ ((35 + 2 * (g9 * 12 + y9))) gn1 _ ga1 dg9 hga1 hgb1 (by unfold gid at hgi1; omega) hgc1 (by rw [hS1 y9 hy9, ← p48g]; exact Nat.lt_trans (mSum_lt hH) (by decide)) (by omega)) km_GR_digitAt tb_486 tb_487 tb_488 tb_5 (by decide +kernel) rfl rfl ⟨Nat.le_of_ble_eq_true rfl, Nat.le_of_ble_eq_true rfl⟩ hK hP hga1 (by unfold gid at hgi1; omega) rfl rfl rfl hl rfl (Nat.le_of_ble_eq_true rfl) d_OP_both_61 ⟨by decide, by decide⟩ hS (fun _ h => h) (fun v C H locs hp hP _ _ hS => ?_)
  obtain ⟨rfl, hG1, hG2⟩ := hp
  have hX := XS_same hX hgi1 (by rw [gv_S (by omega) (by omega)]; exact hG1) hG2
  exact xt_iret hx hb hr hlocks hP hS (by decide) (by decide) (fun _ h => h) ⟨a9, x9, g9, y9, dg9, ha9, hx9, hg9, hy9, hdg9, hae, hxe, hge, hye, hdge, by rw [hS1 y9 hy9], ⟨_, _, _, _, _, _, _, _, _, _, _, _, k1, im1, hm1, S1, I1, P1, _, _, _, _, _, hX, hR, hnf, clr_none, clr_none⟩⟩ d_OP_both_64

set_option maxHeartbeats 4000000 in
set_option maxRecDepth 100000 in
/-- the first or last year of a date -/
theorem c_OP_span (l : Launch) (hst : l.stackTraces = false) (D : va_G) (ca : Nat → ClassId) (b : Nat) (C0 : Nat → va_E) {nd nt : Nat} {mwt mab mbe on1 ot2 lea mos : Nat → Nat} (d x : Int32) (hM : XM ca b C0 nd nt mwt mab mbe on1 ot2 lea mos) (hH : MH on1 ot2 lea mos mwt mab mbe nt nd)  : TMet l y_OP_span (k_OP_span :: gw) ({ frames := 7, cells := 8, slots := 48, locals := 152 }) (tPc D ca b 219 C0 [.ref (b + 0), .int d, .int x]) (tQ D b 219 (xr b 219) (fun r C1 => ∃ d9 x9, d9 < nd ∧ x9 < 2 ∧ d = nI d9 ∧ x = nI x9 ∧ r = some (.int (eo (spR (fun y => mSum on1 ot2 lea mos mwt mab mbe nt nd (2 ^ nt - 1) 4095 4095 (va_up (fun _ => 4095) d9 (2 ^ y))) x9 12))) ∧ XM ca b C1 nd nt mwt mab mbe on1 ot2 lea mos) (fun X => X = nNSE ∧ ¬ (isN d nd ∧ isN x 2))) 8 48 (xr b 219) := by
  obtain ⟨wt, ab, be, fr, tt, le, mo, nf, tr, nm, fy, fb, k, im, hm, S, I, P, pt, ap, fa, wh, st, hX, hR, hnf, hfy0, hfb0⟩ := hM
  have hd6 := hH.D.1
  have hn6 := hH.M.1
  refine tm_ofW (cc := b_OP_span) (maxL := 5) (ret := (some FieldType.int)) (by decide) rfl ?_
  intro p e s m args below meth c s₁ B hml hv
  obtain ⟨hav, hP, hK, hE⟩ := hv
  have hx := B.exec
  have hb := B.bytes
  have hr := B.returns
  have hts := atoms_spec (ws := k_OP_span :: gw) B.pre
  have hown : s.vm.findClass R_OP = some m.cls := findClass_of_methodNamed B.named
  have hlocks := B.notSynchronized
  have hnoh := B.noHandlers (hts _ List.mem_cons_self)
  have htr : e.platform.stackTraces = false := by rw [(Stand.of_body B).admits.platform]; exact hst
  have hA : ∀ k, k < 219 → xr b 219 (b + k) := xr_in
  have hN : nCh s.heap s.heap := va_S.rf
  have hl := lv_entry ([.ref (b + 0), .int d, .int x]) (n := 5) (Nat.le_of_ble_eq_true rfl)
  rw [hav, lg_entry_eq]
  generalize (lg_sl ([.ref (b + 0), .int d, .int x]) ++ List.replicate (5 - (lg_sl ([.ref (b + 0), .int d, .int x])).length) Slot.unset).toArray = ls at hl ⊢
  have hl : lv_has ls 5 [(0, .ref (b + 0)), (1, .int d), (2, .int x)] := hl
  rw [← hav]
  refine lv_aload_n hx hb d_OP_span_0 rfl (lv_at hl 0 rfl) ?_
  refine lv_iload_n hx hb d_OP_span_1 rfl (lv_at hl 1 rfl) ?_
  refine xt_go (tm_V (As := [.int d]) (rest := []) (g := F0 m 2 ls [.int d, .ref (b + 0)]) ⟨hx, hb, hml, hown, hts⟩ (c_OP_needDate l hst D ca b _ d hX hd6) (cwV 1 hts (gi_V km_OP_needDate tb_380 tb_382 tps_13 tb_1) rfl rfl rfl (by decide +kernel) ⟨by decide, by decide⟩) ⟨tPc_blind, va_recv hK hP rfl (wl_at (XS_0 hX) (by decide)), fun U hU hW => ⟨rfl, by rw [hU]; exact hP, va_K.moved hW.alike hK, hN.E hU hW hE⟩⟩ rfl rfl hl.1 rfl (Nat.le_of_ble_eq_true rfl) d_OP_span_2 ⟨by decide, by decide⟩) hnoh hlocks hN (by decide) (by decide) (fun v C1 H hp hP hN => ?_) (fun X hX9 => ⟨hX9.1, fun q9 => hX9.2 q9.1⟩)
  obtain ⟨rfl, hCe, hi2⟩ := hp
  rw [hCe] at hP
  obtain ⟨d9, hd9, hde⟩ := id hi2
  rw [hde] at hl
  refine lv_iload_n hx hb d_OP_span_5 rfl (lv_at hl 2 rfl) ?_
  refine xt_go (tm_S (As := [.int x]) (rest := []) (g := F0 m 6 ls [.int x]) ⟨hx, hb, hml, hown, hts⟩ (c_OP_needBound l hst D ca b _ x) (cwS 1 hts (gi_S km_OP_needBound tb_506 tb_507 tb_1) rfl rfl rfl (by decide +kernel) ⟨by decide, by decide⟩) ⟨tPc_blind, fun U hU hW => ⟨rfl, by rw [hU]; exact hP, va_K.moved hW.alike hK, hN.E hU hW hE⟩⟩ rfl rfl hl.1 rfl (Nat.le_of_ble_eq_true rfl) d_OP_span_6 ⟨by decide, by decide⟩) hnoh hlocks hN (by decide) (by decide) (fun v C1 H hp hP hN => ?_) (fun X hX9 => ⟨hX9.1, fun q9 => hX9.2 q9.2⟩)
  obtain ⟨rfl, hCe, hi6⟩ := hp
  rw [hCe] at hP
  obtain ⟨x9, hx9, hxe⟩ := id hi6
  rw [hxe] at hl
  refine lv_aload_n hx hb d_OP_span_9 rfl (lv_at hl 0 rfl) ?_
  refine xw_get (v := .ref (b + 18)) hx hb hts (fun w h => mw (uw_OP w h)) hown hK hP (XS_0 hX) (by decide) rfl 2 (by decide) (hts _ (mw tb_151)) (fun _ h => h) rfl d_OP_span_10 ?_
  refine lv_iload_n hx hb d_OP_span_13 rfl (lv_at hl 1 rfl) ?_
  refine lv_aload_n hx hb d_OP_span_14 rfl (lv_at hl 0 rfl) ?_
  refine xw_get (v := .ref (b + 1)) hx hb hts (fun w h => mw (uw_OP w h)) hown hK hP (XS_0 hX) (by decide) rfl 0 (by decide) (hts _ (mw tb_149)) (fun _ h => h) rfl d_OP_span_15 ?_
  refine lv_aload_n hx hb d_OP_span_18 rfl (lv_at hl 0 rfl) ?_
  refine xw_get (v := .ref (b + 11)) hx hb hts (fun w h => mw (uw_OP w h)) hown hK hP (XS_0 hX) (by decide) rfl 1 (by decide) (hts _ (mw tb_150)) (fun _ h => h) rfl d_OP_span_19 ?_
  have hS : va_S (xr b 219) s.heap _ [] := hN.to
  refine xc_V (n := 3) (As := [.int (nI d9), .ref (b + 1), .ref (b + 11)]) (rest := []) (st0 := _) hx hb hml hown hts (c_PA_passR l D ca b _ d9 (2 ^ nt - 1) 4095 4095 (fun y => fixW (cnt (mw2 mwt) mab mbe) d9 y) hX hH hR (by omega) (fun i hi => by rw [hnf i hi]; exact (bits_lt.mpr hi).symm) (fun d hd y hy => by rw [hfy0 d (by omega)] at hy; cases hy) (fun w hw y hy => by rw [hfb0 w hw] at hy; cases hy) (fix_s0 hR hd6 hfy0 d9) (oB_none hfb0 (by decide)) (oB_none hfb0 (by decide))) km_PA_passTo tb_181 tb_182 tb_183 tb_4 (by decide +kernel) rfl rfl ⟨Nat.le_of_ble_eq_true rfl, Nat.le_of_ble_eq_true rfl⟩ hK hP (XS_18 hX) (by decide) rfl rfl rfl hl rfl (Nat.le_of_ble_eq_true rfl) d_OP_span_22 ⟨by decide, by decide⟩ hS (fun _ h => h) (fun v C H locs hp hP _ _ hS => ?_)
  obtain ⟨rfl, k1, im1, hm1, S1, f1, I1, P1, p1, a1, hX, hS1⟩ := hp
  refine lv_iconst (v := nI 0) hx hb d_OP_span_25 (by decide) ?_
  refine lv_istore_n (lv' := [(3, .int (nI 0)), (0, .ref (b + 0)), (1, .int (nI d9)), (2, .int (nI x9))]) hx hb d_OP_span_26 rfl hl (by decide) rfl (fun ls hl => ?_)
  have loop27 : ∀ (r : Nat) (i : Nat) (C : Nat → va_E) (H : Heap) (locs : List Loc) (ls : Array Slot), 12 < i + r → i ≤ 12 → spR (fun y => mSum on1 ot2 lea mos mwt mab mbe nt nd (2 ^ nt - 1) 4095 4095 (va_up (fun _ => 4095) d9 (2 ^ y))) x9 i = none → va_P D classes (wl b 219 C) H → va_S (xr b 219) s.heap H locs → XS ca b C wt ab be nd fr tt le mo nf tr nt nm (clrO 6 fy) (clrO 2 fb) k1.2.2.2.1 k1.2.1 k1.2.2.1 k1.1 im1 k1.2.2.2.2 hm1 (gvOf S1 I1 P1 p1 a1 f1 wh st) → lv_has ls 5 [(0, .ref (b + 0)), (1, .int (nI d9)), (2, .int (nI x9)), (3, .int (nI i))] → W p l e (headSpec (k_OP_span :: gw) ({ frames := 7, cells := 8, slots := 48, locals := 152 })).room s m args below meth c H locs (0 + 1 + 1) (0 + 6 + 6) (TQ below (tQ D b 219 (xr b 219) (fun r C1 => ∃ d9 x9, d9 < nd ∧ x9 < 2 ∧ d = nI d9 ∧ x = nI x9 ∧ r = some (.int (eo (spR (fun y => mSum on1 ot2 lea mos mwt mab mbe nt nd (2 ^ nt - 1) 4095 4095 (va_up (fun _ => 4095) d9 (2 ^ y))) x9 12))) ∧ XM ca b C1 nd nt mwt mab mbe on1 ot2 lea mos) (fun X => X = nNSE ∧ ¬ (isN d nd ∧ isN x 2))) args s 8 48 (xr b 219)) (F0 m 27 ls []) := by
    intro r
    induction r with
    | zero => intro i C H locs ls hms hi hI; exact absurd hms (by omega)
    | succ r ih27 =>
      intro i C H locs ls hms hi hI hP hS hX hl
      refine lv_iload_n hx hb d_OP_span_27 rfl (lv_at hl 3 rfl) ?_
      refine lv_bipush (v := nI 12) hx hb d_OP_span_28 (by decide) ?_
      refine xi_ge (tgt := 72) hx hb d_OP_span_30 (by decide) (by omega) (by omega) (fun h30 => ?_) (fun h30 => ?_)
      · skip
        have hi12 : i = 12 := by omega
        subst hi12
        refine lv_iconst (v := (-1)) hx hb d_OP_span_72 (by decide) ?_
        exact xt_iret hx hb hr hlocks hP hS (by decide) (by decide) (fun _ h => h) ⟨d9, x9, hd9, hx9, hde, hxe, by rw [hI]; rfl, ⟨_, _, _, _, _, _, _, _, _, _, _, _, k1, im1, hm1, S1, I1, P1, _, _, _, _, _, hX, hR, hnf, clr_none, clr_none⟩⟩ d_OP_span_73
      · skip
        have j45 : ∀ (yy : Nat), yy = (if x9 = 0 then i else 11 - i) → W p l e (headSpec (k_OP_span :: gw) ({ frames := 7, cells := 8, slots := 48, locals := 152 })).room s m args below meth c H locs (0 + 1 + 1) (0 + 6 + 6) (TQ below (tQ D b 219 (xr b 219) (fun r C1 => ∃ d9 x9, d9 < nd ∧ x9 < 2 ∧ d = nI d9 ∧ x = nI x9 ∧ r = some (.int (eo (spR (fun y => mSum on1 ot2 lea mos mwt mab mbe nt nd (2 ^ nt - 1) 4095 4095 (va_up (fun _ => 4095) d9 (2 ^ y))) x9 12))) ∧ XM ca b C1 nd nt mwt mab mbe on1 ot2 lea mos) (fun X => X = nNSE ∧ ¬ (isN d nd ∧ isN x 2))) args s 8 48 (xr b 219)) (F0 m 45 ls [.int (nI yy)]) := by
          intro yy hyy
          refine lv_istore (lv' := [(4, .int (nI yy)), (0, .ref (b + 0)), (1, .int (nI d9)), (2, .int (nI x9)), (3, .int (nI i))]) hx hb d_OP_span_45 hl (by decide) rfl (fun ls hl => ?_)
          have hy12 : yy < 12 := by rw [hyy]; split <;> omega
          refine lv_aload_n hx hb d_OP_span_47 rfl (lv_at hl 1 rfl) ?_
          refine xw_get (v := .ref (b + 18)) hx hb hts (fun w h => mw (uw_OP w h)) hown hK hP (XS_0 hX) (by decide) rfl 2 (by decide) (hts _ (mw tb_151)) (fun _ h => h) rfl d_OP_span_48 ?_
          refine lv_iload_n hx hb d_OP_span_51 rfl (lv_at hl 2 rfl) ?_
          refine lv_iload hx hb d_OP_span_52 (lv_at hl 0 rfl) ?_
          refine xc_V (n := 2) (As := [.int (nI d9), .int (nI yy)]) (rest := []) (st0 := _) hx hb hml hown hts (c_PA_sumAt l D ca b _ d9 yy hX (by omega) (by omega)) km_PA_sumAt tb_498 tb_195 tb_196 tb_4 (by decide +kernel) rfl rfl ⟨Nat.le_of_ble_eq_true rfl, Nat.le_of_ble_eq_true rfl⟩ hK hP (XS_18 hX) (by decide) rfl rfl rfl hl rfl (Nat.le_of_ble_eq_true rfl) d_OP_span_54 ⟨by decide, by decide⟩ hS (fun _ h => h) (fun v C H locs hp hP _ _ hS => ?_)
          obtain ⟨rfl, hX⟩ := hp
          have hgi1 : gid ((35 + 2 * (d9 * 12 + yy))) := (by unfold gid; omega)
          obtain ⟨ga1, gn1, hga1, hgb1, hgc1⟩ := XS_g hX ((35 + 2 * (d9 * 12 + yy))) hgi1
          rw [gv_S (by omega) (by omega)] at hgc1
          refine xc_V (n := 0) (As := []) (rest := []) (st0 := _) hx hb hml hown hts (c_GR_isZero l D ca b 219 _ ((35 + 2 * (d9 * 12 + yy))) gn1 _ ga1 hga1 hgb1 (by unfold gid at hgi1; omega) hgc1) km_GR_isZero tb_287 tb_288 tb_289 tb_5 (by decide +kernel) rfl rfl ⟨Nat.le_of_ble_eq_true rfl, Nat.le_of_ble_eq_true rfl⟩ hK hP hga1 (by unfold gid at hgi1; omega) rfl rfl rfl hl rfl (Nat.le_of_ble_eq_true rfl) d_OP_span_57 ⟨by decide, by decide⟩ hS (fun _ h => h) (fun v C H locs hp hP _ _ hS => ?_)
          obtain ⟨rfl, hCe⟩ := hp
          rw [hCe] at hP
          refine xz_ne (tgt := 66) hx hb d_OP_span_60 (by decide) (by split <;> decide) (fun h60 => ?_) (fun h60 => ?_)
          · skip
            refine lv_iinc (v := nI (i + 1)) (lv' := [(3, .int (nI (i + 1))), (4, .int (nI yy)), (0, .ref (b + 0)), (1, .int (nI d9)), (2, .int (nI x9))]) hx hb d_OP_span_66 hl (k := 4) rfl (show nI i + Int32.ofInt 1 = nI (i + 1) from nI_add _ _) (by decide) rfl (fun ls hl => ?_)
            refine lv_goto (tgt := 27) hx hb d_OP_span_69 (by decide) ?_
            exact ih27 (i + 1) _ _ _ _ (by omega) (by omega) (by rw [spR_n hI, ← hyy, if_pos]; have := (gRep_zero hgc1 (by rw [hS1 yy hy12, ← mSum_Ay, ← p48g]; exact Nat.lt_trans (mSum_lt hH) (by decide))).mp (gz_n h60); rw [hS1 yy hy12, ← mSum_Ay] at this; exact this) hP hS hX (lv_sub hl [2, 3, 4, 0] rfl)
          · skip
            have hs : spR (fun y => mSum on1 ot2 lea mos mwt mab mbe nt nd (2 ^ nt - 1) 4095 4095 (va_up (fun _ => 4095) d9 (2 ^ y))) x9 (i + 1) = some yy := by
              rw [spR_n hI, ← hyy, if_neg]
              intro q9
              exact gz_z h60 ((gRep_zero hgc1 (by rw [hS1 yy hy12, ← mSum_Ay, ← p48g]; exact Nat.lt_trans (mSum_lt hH) (by decide))).mpr (by rw [hS1 yy hy12, ← mSum_Ay]; exact q9))
            refine lv_iload hx hb d_OP_span_63 (lv_at hl 0 rfl) ?_
            exact xt_iret hx hb hr hlocks hP hS (by decide) (by decide) (fun _ h => h) ⟨d9, x9, hd9, hx9, hde, hxe, by rw [spR_st hs (by omega)]; rfl, ⟨_, _, _, _, _, _, _, _, _, _, _, _, k1, im1, hm1, S1, I1, P1, _, _, _, _, _, hX, hR, hnf, clr_none, clr_none⟩⟩ d_OP_span_65
        refine lv_iload_n hx hb d_OP_span_33 rfl (lv_at hl 2 rfl) ?_
        refine xz_ne (tgt := 41) hx hb d_OP_span_34 (by decide) (by omega) (fun h34 => ?_) (fun h34 => ?_)
        · skip
          refine lv_bipush (v := nI 11) hx hb d_OP_span_41 (by decide) ?_
          refine lv_iload_n hx hb d_OP_span_43 rfl (lv_at hl 3 rfl) ?_
          refine lv_isub hx hb d_OP_span_44 ?_
          refine ti (nI (11 - i)) (pk_sub (by omega)) ?_
          exact j45 (11 - i) (by rw [if_neg h34])
        · skip
          refine lv_iload_n hx hb d_OP_span_37 rfl (lv_at hl 3 rfl) ?_
          refine lv_goto (tgt := 45) hx hb d_OP_span_38 (by decide) ?_
          exact j45 i (by rw [if_pos h34])
  exact loop27 13 0 _ _ _ _ (by omega) (by omega) rfl hP hS hX (lv_sub hl [1, 2, 3, 0] rfl)

set_option maxHeartbeats 4000000 in
set_option maxRecDepth 100000 in
/-- the shortest stretch of a share -/
theorem c_OP_narrow (l : Launch) (hst : l.stackTraces = false) (D : va_G) (ca : Nat → ClassId) (b : Nat) (C0 : Nat → va_E) {nd nt : Nat} {mwt mab mbe on1 ot2 lea mos : Nat → Nat} (d a x : Int32) (hM : XM ca b C0 nd nt mwt mab mbe on1 ot2 lea mos) (hH : MH on1 ot2 lea mos mwt mab mbe nt nd)  : TMet l y_OP_narrow (k_OP_narrow :: gw) ({ frames := 7, cells := 8, slots := 48, locals := 152 }) (tPc D ca b 219 C0 [.ref (b + 0), .int d, .int a, .int x]) (tQ D b 219 (xr b 219) (fun r C1 => ∃ d9 a9 b9, d9 < nd ∧ 1 ≤ a9 ∧ a9 ≤ b9 ∧ b9 ≤ 1000 ∧ d = nI d9 ∧ a = nI a9 ∧ x = nI b9 ∧ ((mSum on1 ot2 lea mos mwt mab mbe nt nd (2 ^ nt - 1) 4095 4095 (fun _ => 4095) = 0 ∧ r = some (.int (-1))) ∨ (mSum on1 ot2 lea mos mwt mab mbe nt nd (2 ^ nt - 1) 4095 4095 (fun _ => 4095) ≠ 0 ∧ ∃ z, r = some (.int (eo z)) ∧ nrwP (fun f n => mSum on1 ot2 lea mos mwt mab mbe nt nd (2 ^ nt - 1) 4095 4095 (fun _ => 4095) * a9 ≤ sm (fun j => mSum on1 ot2 lea mos mwt mab mbe nt nd (2 ^ nt - 1) 4095 4095 (va_up (fun _ => 4095) d9 (2 ^ (f + j))) * b9) (n + 1)) z)) ∧ XM ca b C1 nd nt mwt mab mbe on1 ot2 lea mos) (fun X => (X = nNSE ∧ ¬ isN d nd) ∨ (X = nIAE ∧ isN d nd ∧ ¬ narE a x))) 8 48 (xr b 219) := by
  obtain ⟨wt, ab, be, fr, tt, le, mo, nf, tr, nm, fy, fb, k, im, hm, S, I, P, pt, ap, fa, wh, st, hX, hR, hnf, hfy0, hfb0⟩ := hM
  have hd6 := hH.D.1
  have hn6 := hH.M.1
  refine tm_ofW (cc := b_OP_narrow) (maxL := 4) (ret := (some FieldType.int)) (by decide) rfl ?_
  intro p e s m args below meth c s₁ B hml hv
  obtain ⟨hav, hP, hK, hE⟩ := hv
  have hx := B.exec
  have hb := B.bytes
  have hr := B.returns
  have hts := atoms_spec (ws := k_OP_narrow :: gw) B.pre
  have hown : s.vm.findClass R_OP = some m.cls := findClass_of_methodNamed B.named
  have hlocks := B.notSynchronized
  have hnoh := B.noHandlers (hts _ List.mem_cons_self)
  have htr : e.platform.stackTraces = false := by rw [(Stand.of_body B).admits.platform]; exact hst
  have hA : ∀ k, k < 219 → xr b 219 (b + k) := xr_in
  have hN : nCh s.heap s.heap := va_S.rf
  have hl := lv_entry ([.ref (b + 0), .int d, .int a, .int x]) (n := 4) (Nat.le_of_ble_eq_true rfl)
  rw [hav, lg_entry_eq]
  generalize (lg_sl ([.ref (b + 0), .int d, .int a, .int x]) ++ List.replicate (4 - (lg_sl ([.ref (b + 0), .int d, .int a, .int x])).length) Slot.unset).toArray = ls at hl ⊢
  have hl : lv_has ls 4 [(0, .ref (b + 0)), (1, .int d), (2, .int a), (3, .int x)] := hl
  rw [← hav]
  refine lv_aload_n hx hb d_OP_narrow_0 rfl (lv_at hl 0 rfl) ?_
  refine lv_iload_n hx hb d_OP_narrow_1 rfl (lv_at hl 1 rfl) ?_
  refine xt_go (tm_V (As := [.int d]) (rest := []) (g := F0 m 2 ls [.int d, .ref (b + 0)]) ⟨hx, hb, hml, hown, hts⟩ (c_OP_needDate l hst D ca b _ d hX hd6) (cwV 1 hts (gi_V km_OP_needDate tb_380 tb_382 tps_13 tb_1) rfl rfl rfl (by decide +kernel) ⟨by decide, by decide⟩) ⟨tPc_blind, va_recv hK hP rfl (wl_at (XS_0 hX) (by decide)), fun U hU hW => ⟨rfl, by rw [hU]; exact hP, va_K.moved hW.alike hK, hN.E hU hW hE⟩⟩ rfl rfl hl.1 rfl (Nat.le_of_ble_eq_true rfl) d_OP_narrow_2 ⟨by decide, by decide⟩) hnoh hlocks hN (by decide) (by decide) (fun v C1 H hp hP hN => ?_) (fun X hX9 => Or.inl hX9)
  obtain ⟨rfl, hCe, hi2⟩ := hp
  rw [hCe] at hP
  obtain ⟨d9, hd9, hde⟩ := id hi2
  rw [hde] at hl
  refine lv_iload_n hx hb d_OP_narrow_5 rfl (lv_at hl 2 rfl) ?_
  refine lv_iconst (v := nI 1) hx hb d_OP_narrow_6 (by decide) ?_
  refine lv_icmp_lt (tgt := 22) hx hb d_OP_narrow_7 (by decide) (fun h7 => ?_) (fun h7 => ?_)
  · skip
    exact xt_throw (istr := 127) (text := "not 1 <= above <= below <= 1000") (ix := 7) (bx := Bundle.six) hx hb hml hown htr hlocks hnoh (hts _ (mw tb_404)) (hts _ (mw tb_405)) (hts _ (mw tb_13)) (ex_str (State.WarmedH.refl _) (hE.2.2.2.1 (127, _) (by decide))) (own_ok hts hE ownA_in) (by decide +kernel) ⟨by decide +kernel, by decide +kernel, by decide +kernel, by decide +kernel⟩ d_OP_narrow_22 d_OP_narrow_25 d_OP_narrow_26 d_OP_narrow_28 d_OP_narrow_31 hN hl (Or.inr ⟨rfl, hi2, nar_1 h7⟩) ⟨by decide, by decide⟩ ⟨by decide, by decide⟩ (by decide) (by decide)
  · skip
    refine lv_iload_n hx hb d_OP_narrow_10 rfl (lv_at hl 2 rfl) ?_
    refine lv_iload_n hx hb d_OP_narrow_11 rfl (lv_at hl 3 rfl) ?_
    refine lv_icmp_gt (tgt := 22) hx hb d_OP_narrow_12 (by decide) (fun h12 => ?_) (fun h12 => ?_)
    · skip
      exact xt_throw (istr := 127) (text := "not 1 <= above <= below <= 1000") (ix := 7) (bx := Bundle.six) hx hb hml hown htr hlocks hnoh (hts _ (mw tb_404)) (hts _ (mw tb_405)) (hts _ (mw tb_13)) (ex_str (State.WarmedH.refl _) (hE.2.2.2.1 (127, _) (by decide))) (own_ok hts hE ownA_in) (by decide +kernel) ⟨by decide +kernel, by decide +kernel, by decide +kernel, by decide +kernel⟩ d_OP_narrow_22 d_OP_narrow_25 d_OP_narrow_26 d_OP_narrow_28 d_OP_narrow_31 hN hl (Or.inr ⟨rfl, hi2, nar_2 h12⟩) ⟨by decide, by decide⟩ ⟨by decide, by decide⟩ (by decide) (by decide)
    · skip
      refine lv_iload_n hx hb d_OP_narrow_15 rfl (lv_at hl 3 rfl) ?_
      refine lv_sipush (v := nI 1000) hx hb d_OP_narrow_16 (by decide) ?_
      refine lv_icmp_le (tgt := 32) hx hb d_OP_narrow_19 (by decide) (fun h19 => ?_) (fun h19 => ?_)
      · skip
        obtain ⟨a9, b9, g1, g2, g3, g4, g5⟩ := nar_ok h7 h12 h19
        rw [g4, g5] at hl
        refine lv_aload_n hx hb d_OP_narrow_32 rfl (lv_at hl 0 rfl) ?_
        refine xw_get (v := .ref (b + 18)) hx hb hts (fun w h => mw (uw_OP w h)) hown hK hP (XS_0 hX) (by decide) rfl 2 (by decide) (hts _ (mw tb_151)) (fun _ h => h) rfl d_OP_narrow_33 ?_
        refine lv_iload_n hx hb d_OP_narrow_36 rfl (lv_at hl 1 rfl) ?_
        refine lv_aload_n hx hb d_OP_narrow_37 rfl (lv_at hl 0 rfl) ?_
        refine xw_get (v := .ref (b + 1)) hx hb hts (fun w h => mw (uw_OP w h)) hown hK hP (XS_0 hX) (by decide) rfl 0 (by decide) (hts _ (mw tb_149)) (fun _ h => h) rfl d_OP_narrow_38 ?_
        refine lv_aload_n hx hb d_OP_narrow_41 rfl (lv_at hl 0 rfl) ?_
        refine xw_get (v := .ref (b + 11)) hx hb hts (fun w h => mw (uw_OP w h)) hown hK hP (XS_0 hX) (by decide) rfl 1 (by decide) (hts _ (mw tb_150)) (fun _ h => h) rfl d_OP_narrow_42 ?_
        have hS : va_S (xr b 219) s.heap _ [] := hN.to
        refine xc_V (n := 3) (As := [.int (nI d9), .ref (b + 1), .ref (b + 11)]) (rest := []) (st0 := _) hx hb hml hown hts (c_PA_passR l D ca b _ d9 (2 ^ nt - 1) 4095 4095 (fun y => fixW (cnt (mw2 mwt) mab mbe) d9 y) hX hH hR (by omega) (fun i hi => by rw [hnf i hi]; exact (bits_lt.mpr hi).symm) (fun d hd y hy => by rw [hfy0 d (by omega)] at hy; cases hy) (fun w hw y hy => by rw [hfb0 w hw] at hy; cases hy) (fix_s0 hR hd6 hfy0 d9) (oB_none hfb0 (by decide)) (oB_none hfb0 (by decide))) km_PA_passTo tb_181 tb_182 tb_183 tb_4 (by decide +kernel) rfl rfl ⟨Nat.le_of_ble_eq_true rfl, Nat.le_of_ble_eq_true rfl⟩ hK hP (XS_18 hX) (by decide) rfl rfl rfl hl rfl (Nat.le_of_ble_eq_true rfl) d_OP_narrow_45 ⟨by decide, by decide⟩ hS (fun _ h => h) (fun v C H locs hp hP _ _ hS => ?_)
        obtain ⟨rfl, k1, im1, hm1, S1, f1, I1, P1, p1, a1, hX, hS1⟩ := hp
        refine lv_aload_n hx hb d_OP_narrow_48 rfl (lv_at hl 0 rfl) ?_
        refine xw_get (v := .ref (b + 18)) hx hb hts (fun w h => mw (uw_OP w h)) hown hK hP (XS_0 hX) (by decide) rfl 2 (by decide) (hts _ (mw tb_151)) (fun _ h => h) rfl d_OP_narrow_49 ?_
        refine lv_iload_n hx hb d_OP_narrow_52 rfl (lv_at hl 1 rfl) ?_
        refine lv_aload_n hx hb d_OP_narrow_53 rfl (lv_at hl 0 rfl) ?_
        refine xw_get (v := .ref (b + 215)) hx hb hts (fun w h => mw (uw_OP w h)) hown hK hP (XS_0 hX) (by decide) rfl 3 (by decide) (hts _ (mw tb_152)) (fun _ h => h) rfl d_OP_narrow_54 ?_
        refine xc_V (n := 2) (As := [.int (nI d9), .ref (b + 215)]) (rest := []) (st0 := _) hx hb hml hown hts (c_PA_addYears_wh l D ca b _ d9 hX (by omega)) km_PA_addYears tb_286 tb_263 tb_264 tb_4 (by decide +kernel) rfl rfl ⟨Nat.le_of_ble_eq_true rfl, Nat.le_of_ble_eq_true rfl⟩ hK hP (XS_18 hX) (by decide) rfl rfl rfl hl rfl (Nat.le_of_ble_eq_true rfl) d_OP_narrow_57 ⟨by decide, by decide⟩ hS (fun _ h => h) (fun v C H locs hp hP _ _ hS => ?_)
        obtain ⟨rfl, hX⟩ := hp
        have htot := tot_mSum hd9 hS1
        refine lv_aload_n hx hb d_OP_narrow_60 rfl (lv_at hl 0 rfl) ?_
        refine xw_get (v := .ref (b + 215)) hx hb hts (fun w h => mw (uw_OP w h)) hown hK hP (XS_0 hX) (by decide) rfl 3 (by decide) (hts _ (mw tb_152)) (fun _ h => h) rfl d_OP_narrow_61 ?_
        have hgi1 : gid 215 := (by unfold gid; decide)
        obtain ⟨ga1, gn1, hga1, hgb1, hgc1⟩ := XS_g hX 215 hgi1
        rw [gv_wh] at hgc1
        refine xc_V (n := 0) (As := []) (rest := []) (st0 := _) hx hb hml hown hts (c_GR_isZero l D ca b 219 _ 215 gn1 _ ga1 hga1 hgb1 (by unfold gid at hgi1; omega) hgc1) km_GR_isZero tb_287 tb_288 tb_289 tb_5 (by decide +kernel) rfl rfl ⟨Nat.le_of_ble_eq_true rfl, Nat.le_of_ble_eq_true rfl⟩ hK hP hga1 (by unfold gid at hgi1; omega) rfl rfl rfl hl rfl (Nat.le_of_ble_eq_true rfl) d_OP_narrow_64 ⟨by decide, by decide⟩ hS (fun _ h => h) (fun v C H locs hp hP _ _ hS => ?_)
        obtain ⟨rfl, hCe⟩ := hp
        rw [hCe] at hP
        refine xz_eq (tgt := 72) hx hb d_OP_narrow_67 (by decide) (by split <;> decide) (fun h67 => ?_) (fun h67 => ?_)
        · skip
          have hne : mSum on1 ot2 lea mos mwt mab mbe nt nd (2 ^ nt - 1) 4095 4095 (fun _ => 4095) ≠ 0 := fun q => gz_z h67 ((gRep_zero hgc1 (by rw [htot, ← p48g]; exact Nat.lt_trans (mSum_lt hH) (by decide))).mpr (by rw [htot]; exact q))
          have hrw : ∀ y, y < 12 → rowS S1 d9 12 (fun y => S1 d9 y * b9) d9 y = mSum on1 ot2 lea mos mwt mab mbe nt nd (2 ^ nt - 1) 4095 4095 (va_up (fun _ => 4095) d9 (2 ^ y)) * b9 := fun y hy => by
            unfold rowS
            rw [va_up_self]
            simp only [if_pos hy]
            rw [hS1 y hy, ← mSum_Ay]
          have hwb : tot S1 d9 * a9 < gB ^ 6 := by
            rw [htot, ← p48g]
            have h9 := mSum_lt hH (cn := (2 ^ nt - 1)) (fs := 4095) (ls := 4095) (yrs := (fun _ => 4095))
            exact Nat.lt_of_le_of_lt (Nat.mul_le_mul (Nat.le_of_lt h9) (show a9 ≤ 1000 by omega)) (by decide)
          have hB : ∀ f n, f + n ≤ 12 → sm (fun j => rowS S1 d9 12 (fun y => S1 d9 y * b9) d9 (f + j)) n < gB ^ 6 := fun f n hfn => by
            rw [← p48g]
            have h9 := sm_le (F := fun j => rowS S1 d9 12 (fun y => S1 d9 y * b9) d9 (f + j)) (G := fun _ => 10 ^ 40 * 1000) (n := n) (fun j hj => by
              rw [hrw (f + j) (by omega)]
              exact Nat.mul_le_mul (Nat.le_of_lt (mSum_lt hH)) g3)
            rw [sm_const] at h9
            refine Nat.lt_of_le_of_lt h9 ?_
            exact Nat.lt_of_le_of_lt (Nat.mul_le_mul_right _ (show n ≤ 12 by omega)) (by decide)
          refine lv_aload_n hx hb d_OP_narrow_72 rfl (lv_at hl 0 rfl) ?_
          refine xw_get (v := .ref (b + 217)) hx hb hts (fun w h => mw (uw_OP w h)) hown hK hP (XS_0 hX) (by decide) rfl 4 (by decide) (hts _ (mw tb_153)) (fun _ h => h) rfl d_OP_narrow_73 ?_
          refine lv_iload_n hx hb d_OP_narrow_76 rfl (lv_at hl 2 rfl) ?_
          have hgi2 : gid 217 := (by unfold gid; decide)
          obtain ⟨ga2, gn2, hga2, hgb2, hgc2⟩ := XS_g hX 217 hgi2
          rw [gv_st] at hgc2
          refine xc_V (n := 1) (As := [.int (nI a9)]) (rest := []) (st0 := _) hx hb hml hown hts (c_GR_set l D ca b 219 _ 217 gn2 _ ga2 a9 hga2 hgb2 (by unfold gid at hgi2; omega) hgc2 (Nat.lt_of_le_of_lt (show a9 ≤ 1000 by omega) (by decide))) km_GR_set tb_177 tb_178 tb_179 tb_5 (by decide +kernel) rfl rfl ⟨Nat.le_of_ble_eq_true rfl, Nat.le_of_ble_eq_true rfl⟩ hK hP hga2 (by unfold gid at hgi2; omega) rfl rfl rfl hl rfl (Nat.le_of_ble_eq_true rfl) d_OP_narrow_77 ⟨by decide, by decide⟩ hS (fun _ h => h) (fun v C H locs hp hP _ _ hS => ?_)
          obtain ⟨rfl, hG1, hG2⟩ := hp
          have hX := XS_set_gv hX hgi2 hG1 hG2
          have hX := gs_st hX
          refine lv_aload_n hx hb d_OP_narrow_80 rfl (lv_at hl 0 rfl) ?_
          refine xw_get (v := .ref (b + 215)) hx hb hts (fun w h => mw (uw_OP w h)) hown hK hP (XS_0 hX) (by decide) rfl 3 (by decide) (hts _ (mw tb_152)) (fun _ h => h) rfl d_OP_narrow_81 ?_
          refine lv_aload_n hx hb d_OP_narrow_84 rfl (lv_at hl 0 rfl) ?_
          refine xw_get (v := .ref (b + 217)) hx hb hts (fun w h => mw (uw_OP w h)) hown hK hP (XS_0 hX) (by decide) rfl 4 (by decide) (hts _ (mw tb_153)) (fun _ h => h) rfl d_OP_narrow_85 ?_
          have hgi3 : gid 215 := (by unfold gid; decide)
          obtain ⟨ga3, gn3, hga3, hgb3, hgc3⟩ := XS_g hX 215 hgi3
          rw [gv_wh] at hgc3
          have hoi3 : gid 217 := (by unfold gid; decide)
          obtain ⟨oa3, on3, hoa3, hob3, hoc3⟩ := XS_g hX 217 hoi3
          rw [gv_st] at hoc3
          have hne3 : 215 ≠ 217 := by omega
          refine xc_V (n := 1) (As := [.ref (b + 217)]) (rest := []) (st0 := _) hx hb hml hown hts (c_GR_multiply l D ca b 219 _ 215 217 gn3 _ on3 _ ga3 oa3 hga3 hgb3 hoa3 hob3 (by unfold gid at hgi3; omega) (by unfold gid at hoi3; omega) ⟨hne3, by unfold gid at hgi3 hoi3; omega, by unfold gid at hgi3 hoi3; omega⟩ hgc3 hoc3) km_GR_multiply tb_545 tb_259 tb_260 tb_5 (by decide +kernel) rfl rfl ⟨Nat.le_of_ble_eq_true rfl, Nat.le_of_ble_eq_true rfl⟩ hK hP hga3 (by unfold gid at hgi3; omega) rfl rfl rfl hl rfl (Nat.le_of_ble_eq_true rfl) d_OP_narrow_88 ⟨by decide, by decide⟩ hS (fun _ h => h) (fun v C H locs hp hP _ _ hS => ?_)
          obtain ⟨rfl, hG1, hG2⟩ := hp
          have hX := XS_set_gv hX hgi3 hG1 hG2
          have hX := gs_wh hX
          refine lv_aload_n hx hb d_OP_narrow_91 rfl (lv_at hl 0 rfl) ?_
          refine xw_get (v := .ref (b + 217)) hx hb hts (fun w h => mw (uw_OP w h)) hown hK hP (XS_0 hX) (by decide) rfl 4 (by decide) (hts _ (mw tb_153)) (fun _ h => h) rfl d_OP_narrow_92 ?_
          refine lv_iload_n hx hb d_OP_narrow_95 rfl (lv_at hl 3 rfl) ?_
          have hgi4 : gid 217 := (by unfold gid; decide)
          obtain ⟨ga4, gn4, hga4, hgb4, hgc4⟩ := XS_g hX 217 hgi4
          rw [gv_st] at hgc4
          refine xc_V (n := 1) (As := [.int (nI b9)]) (rest := []) (st0 := _) hx hb hml hown hts (c_GR_set l D ca b 219 _ 217 gn4 _ ga4 b9 hga4 hgb4 (by unfold gid at hgi4; omega) hgc4 (Nat.lt_of_le_of_lt g3 (by decide))) km_GR_set tb_177 tb_178 tb_179 tb_5 (by decide +kernel) rfl rfl ⟨Nat.le_of_ble_eq_true rfl, Nat.le_of_ble_eq_true rfl⟩ hK hP hga4 (by unfold gid at hgi4; omega) rfl rfl rfl hl rfl (Nat.le_of_ble_eq_true rfl) d_OP_narrow_96 ⟨by decide, by decide⟩ hS (fun _ h => h) (fun v C H locs hp hP _ _ hS => ?_)
          obtain ⟨rfl, hG1, hG2⟩ := hp
          have hX := XS_set_gv hX hgi4 hG1 hG2
          have hX := gs_st hX
          refine lv_aload_n hx hb d_OP_narrow_99 rfl (lv_at hl 0 rfl) ?_
          refine xw_get (v := .ref (b + 18)) hx hb hts (fun w h => mw (uw_OP w h)) hown hK hP (XS_0 hX) (by decide) rfl 2 (by decide) (hts _ (mw tb_151)) (fun _ h => h) rfl d_OP_narrow_100 ?_
          refine lv_iload_n hx hb d_OP_narrow_103 rfl (lv_at hl 1 rfl) ?_
          refine lv_aload_n hx hb d_OP_narrow_104 rfl (lv_at hl 0 rfl) ?_
          refine xw_get (v := .ref (b + 217)) hx hb hts (fun w h => mw (uw_OP w h)) hown hK hP (XS_0 hX) (by decide) rfl 4 (by decide) (hts _ (mw tb_153)) (fun _ h => h) rfl d_OP_narrow_105 ?_
          refine xc_V (n := 2) (As := [.int (nI d9), .ref (b + 217)]) (rest := []) (st0 := _) hx hb hml hown hts (c_PA_multiplyYears_st l D ca b _ d9 hX (by omega)) km_PA_multiplyYears tb_546 tb_283 tb_284 tb_4 (by decide +kernel) rfl rfl ⟨Nat.le_of_ble_eq_true rfl, Nat.le_of_ble_eq_true rfl⟩ hK hP (XS_18 hX) (by decide) rfl rfl rfl hl rfl (Nat.le_of_ble_eq_true rfl) d_OP_narrow_108 ⟨by decide, by decide⟩ hS (fun _ h => h) (fun v C H locs hp hP _ _ hS => ?_)
          obtain ⟨rfl, hX⟩ := hp
          refine lv_aload_n hx hb d_OP_narrow_111 rfl (lv_at hl 0 rfl) ?_
          refine lv_iload_n hx hb d_OP_narrow_112 rfl (lv_at hl 1 rfl) ?_
          refine xc_V (n := 1) (As := [.int (nI d9)]) (rest := []) (st0 := _) hx hb hml hown hts (c_OP_shortestStretch l D ca b _ d9 hX (by omega) hwb hB) km_OP_shortestStretch tb_547 tb_549 tps_17 tb_1 (by decide +kernel) rfl rfl ⟨Nat.le_of_ble_eq_true rfl, Nat.le_of_ble_eq_true rfl⟩ hK hP (XS_0 hX) (by decide) rfl rfl rfl hl rfl (Nat.le_of_ble_eq_true rfl) d_OP_narrow_113 ⟨by decide, by decide⟩ hS (fun _ h => h) (fun v C H locs hp hP _ _ hS => ?_)
          obtain ⟨z, s9, rfl, hz, hX⟩ := hp
          exact xt_iret hx hb hr hlocks hP hS (by decide) (by decide) (fun _ h => h) ⟨d9, a9, b9, hd9, g1, g2, g3, hde, g4, g5, Or.inr ⟨hne, z, rfl, nrw_cg (fun e m hem => by
                  show tot S1 d9 * a9 ≤ sm (fun j => rowS S1 d9 12 (fun y => S1 d9 y * b9) d9 (e + j)) (m + 1) ↔ _
                  rw [htot, sm_congr (fun j hj => hrw (e + j) (by omega))]) hz⟩, ⟨_, _, _, _, _, _, _, _, _, _, _, _, k1, im1, hm1, _, I1, P1, _, _, _, _, _, hX, hR, hnf, clr_none, clr_none⟩⟩ d_OP_narrow_116
        · skip
          refine lv_iconst (v := (-1)) hx hb d_OP_narrow_70 (by decide) ?_
          exact xt_iret hx hb hr hlocks hP hS (by decide) (by decide) (fun _ h => h) ⟨d9, a9, b9, hd9, g1, g2, g3, hde, g4, g5, Or.inl ⟨by rw [← htot]; exact (gRep_zero hgc1 (by rw [htot, ← p48g]; exact Nat.lt_trans (mSum_lt hH) (by decide))).mp (gz_n h67), rfl⟩, ⟨_, _, _, _, _, _, _, _, _, _, _, _, k1, im1, hm1, S1, I1, P1, _, _, _, _, _, hX, hR, hnf, clr_none, clr_none⟩⟩ d_OP_narrow_71
      · skip
        exact xt_throw (istr := 127) (text := "not 1 <= above <= below <= 1000") (ix := 7) (bx := Bundle.six) hx hb hml hown htr hlocks hnoh (hts _ (mw tb_404)) (hts _ (mw tb_405)) (hts _ (mw tb_13)) (ex_str (State.WarmedH.refl _) (hE.2.2.2.1 (127, _) (by decide))) (own_ok hts hE ownA_in) (by decide +kernel) ⟨by decide +kernel, by decide +kernel, by decide +kernel, by decide +kernel⟩ d_OP_narrow_22 d_OP_narrow_25 d_OP_narrow_26 d_OP_narrow_28 d_OP_narrow_31 hN hl (Or.inr ⟨rfl, hi2, nar_3 h19⟩) ⟨by decide, by decide⟩ ⟨by decide, by decide⟩ (by decide) (by decide)

theorem kth_cg {p q : Nat → Bool} {n k : Nat} {z : Option Nat} (h : ∀ j, j < n → p j = q j) (hz : (∃ i, z = some i ∧ i < n ∧ p i = true ∧ k = sm (fun j => (p j).toNat) i) ∨ (z = none ∧ sm (fun j => (p j).toNat) n ≤ k)) : kthP q n k z := by
  rcases hz with ⟨i, a1, a2, a3, a4⟩ | ⟨a1, a2⟩
  · exact Or.inl ⟨i, a1, a2, by rw [← h i a2]; exact a3, by rw [a4]; exact sm_congr (fun j hj => by rw [h j (by omega)])⟩
  · exact Or.inr ⟨a1, by rw [sm_congr (F := fun j => (q j).toNat) (G := fun j => (p j).toNat) (fun j hj => by rw [h j hj])]; exact a2⟩
set_option maxHeartbeats 4000000 in
set_option maxRecDepth 100000 in
/-- the k-th of a least set that fits nothing -/
theorem c_OP_fitless (l : Launch) (hst : l.stackTraces = false) (D : va_G) (ca : Nat → ClassId) (b : Nat) (C0 : Nat → va_E) {nd nt : Nat} {mwt mab mbe on1 ot2 lea mos : Nat → Nat} (kx : Int32) (hM : XM ca b C0 nd nt mwt mab mbe on1 ot2 lea mos) (hH : MH on1 ot2 lea mos mwt mab mbe nt nd)  : TMet l y_OP_fitless (k_OP_fitless :: gw) ({ frames := 7, cells := 8, slots := 48, locals := 172 }) (tPc D ca b 219 C0 [.ref (b + 0), .int kx]) (tQ D b 219 (xr b 219) (fun r C1 => ∃ k9, k9 < 2 ^ 31 ∧ kx = nI k9 ∧ ((mSum on1 ot2 lea mos mwt mab mbe nt nd (2 ^ nt - 1) 4095 4095 (fun _ => 4095) ≠ 0 ∧ r = some (.int (-1))) ∨ (mSum on1 ot2 lea mos mwt mab mbe nt nd (2 ^ nt - 1) 4095 4095 (fun _ => 4095) = 0 ∧ ∃ z, r = some (.int (eo z)) ∧ kthP (fun j => (ftR (fun c => mSum on1 ot2 lea mos mwt mab mbe nt nd c 4095 4095 (fun _ => 4095)) nt nt).testBit j) nt k9 z)) ∧ XM ca b C1 nd nt mwt mab mbe on1 ot2 lea mos) (fun X => X = nNSE ∧ kx < 0)) 8 48 (xr b 219) := by
  obtain ⟨wt, ab, be, fr, tt, le, mo, nf, tr, nm, fy, fb, k, im, hm, S, I, P, pt, ap, fa, wh, st, hX, hR, hnf, hfy0, hfb0⟩ := hM
  have hd6 := hH.D.1
  have hn6 := hH.M.1
  refine tm_ofW (cc := b_OP_fitless) (maxL := 3) (ret := (some FieldType.int)) (by decide) rfl ?_
  intro p e s m args below meth c s₁ B hml hv
  obtain ⟨hav, hP, hK, hE⟩ := hv
  have hx := B.exec
  have hb := B.bytes
  have hr := B.returns
  have hts := atoms_spec (ws := k_OP_fitless :: gw) B.pre
  have hown : s.vm.findClass R_OP = some m.cls := findClass_of_methodNamed B.named
  have hlocks := B.notSynchronized
  have hnoh := B.noHandlers (hts _ List.mem_cons_self)
  have htr : e.platform.stackTraces = false := by rw [(Stand.of_body B).admits.platform]; exact hst
  have hA : ∀ k, k < 219 → xr b 219 (b + k) := xr_in
  have hN : nCh s.heap s.heap := va_S.rf
  have hl := lv_entry ([.ref (b + 0), .int kx]) (n := 3) (Nat.le_of_ble_eq_true rfl)
  rw [hav, lg_entry_eq]
  generalize (lg_sl ([.ref (b + 0), .int kx]) ++ List.replicate (3 - (lg_sl ([.ref (b + 0), .int kx])).length) Slot.unset).toArray = ls at hl ⊢
  have hl : lv_has ls 3 [(0, .ref (b + 0)), (1, .int kx)] := hl
  rw [← hav]
  refine lv_iload_n hx hb d_OP_fitless_0 rfl (lv_at hl 1 rfl) ?_
  refine lv_if_ge (tgt := 14) hx hb d_OP_fitless_1 (by decide) (fun h1 => ?_) (fun h1 => ?_)
  · skip
    obtain ⟨kx9, hkx9, hkxe⟩ := nI_of (Int32.not_lt.mpr h1)
    rw [hkxe] at hl
    refine lv_aload_n hx hb d_OP_fitless_14 rfl (lv_at hl 0 rfl) ?_
    have hS : va_S (xr b 219) s.heap _ [] := hN.to
    refine xc_V (n := 0) (As := []) (rest := []) (st0 := _) hx hb hml hown hts (c_OP_sumAll l D ca b _ (2 ^ nt - 1) 4095 4095 hX hH hR (fun i hi => by rw [hnf i hi]; exact (bits_lt.mpr hi).symm) hfy0 (fun w hw y hy => by rw [hfb0 w hw] at hy; cases hy) (oB_none hfb0 (by decide)) (oB_none hfb0 (by decide)) (fun _ => hfb0)) km_OP_sumAll tb_169 tb_171 tps_0 tb_1 (by decide +kernel) rfl rfl ⟨Nat.le_of_ble_eq_true rfl, Nat.le_of_ble_eq_true rfl⟩ hK hP (XS_0 hX) (by decide) rfl rfl rfl hl rfl (Nat.le_of_ble_eq_true rfl) d_OP_fitless_15 ⟨by decide, by decide⟩ hS (fun _ h => h) (fun v C H locs hp hP _ _ hS => ?_)
    obtain ⟨rfl, k1, im1, hm1, S1, f1, I1, P1, p1, a1, fy1, fb1, hX, hfy1, hfb1⟩ := hp
    refine lv_aload_n hx hb d_OP_fitless_18 rfl (lv_at hl 0 rfl) ?_
    refine xw_get (v := .ref (b + 215)) hx hb hts (fun w h => mw (uw_OP w h)) hown hK hP (XS_0 hX) (by decide) rfl 3 (by decide) (hts _ (mw tb_152)) (fun _ h => h) rfl d_OP_fitless_19 ?_
    have hgi1 : gid 215 := (by unfold gid; decide)
    obtain ⟨ga1, gn1, hga1, hgb1, hgc1⟩ := XS_g hX 215 hgi1
    rw [gv_wh] at hgc1
    refine xc_V (n := 0) (As := []) (rest := []) (st0 := _) hx hb hml hown hts (c_GR_isZero l D ca b 219 _ 215 gn1 _ ga1 hga1 hgb1 (by unfold gid at hgi1; omega) hgc1) km_GR_isZero tb_287 tb_288 tb_289 tb_5 (by decide +kernel) rfl rfl ⟨Nat.le_of_ble_eq_true rfl, Nat.le_of_ble_eq_true rfl⟩ hK hP hga1 (by unfold gid at hgi1; omega) rfl rfl rfl hl rfl (Nat.le_of_ble_eq_true rfl) d_OP_fitless_22 ⟨by decide, by decide⟩ hS (fun _ h => h) (fun v C H locs hp hP _ _ hS => ?_)
    obtain ⟨rfl, hCe⟩ := hp
    rw [hCe] at hP
    refine xz_ne (tgt := 30) hx hb d_OP_fitless_25 (by decide) (by split <;> decide) (fun h25 => ?_) (fun h25 => ?_)
    · skip
      have hT0 : mSum on1 ot2 lea mos mwt mab mbe nt nd (2 ^ nt - 1) 4095 4095 (fun _ => 4095) = 0 := (gRep_zero hgc1 (by rw [← p48g]; exact Nat.lt_trans (mSum_lt hH) (by decide))).mp (gz_n h25)
      refine lv_iconst (v := nI 0) hx hb d_OP_fitless_30 (by decide) ?_
      refine lv_istore_n (lv' := [(2, .int (nI 0)), (0, .ref (b + 0)), (1, .int (nI kx9))]) hx hb d_OP_fitless_31 rfl hl (by decide) rfl (fun ls hl => ?_)
      have loop32 : ∀ (r : Nat) (i : Nat) (nf2 : Nat → Bool) (k2 : KQ) (im2 : Nat → Bool) (hm2 : Nat) (S2 : Nat → Nat → Nat) (f2 : Nat) (I2 : Nat → Nat) (P2 : Nat → Nat) (p2 : Nat) (a2 : Nat) (fy2 : Nat → Option Nat) (fb2 : Nat → Option Nat) (wh2 : Nat) (C : Nat → va_E) (H : Heap) (locs : List Loc) (ls : Array Slot), 6 < i + r → i ≤ nt → (∀ j, j < nt → nf2 j = (ftR (fun c => mSum on1 ot2 lea mos mwt mab mbe nt nd c 4095 4095 (fun _ => 4095)) nt i).testBit j) → (∀ d, d < 6 → fy2 d = none) → (∀ w, w < 2 → fb2 w = none) → va_P D classes (wl b 219 C) H → va_S (xr b 219) s.heap H locs → XS ca b C wt ab be nd fr tt le mo nf2 tr nt nm fy2 fb2 k2.2.2.2.1 k2.2.1 k2.2.2.1 k2.1 im2 k2.2.2.2.2 hm2 (gvOf S2 I2 P2 p2 a2 f2 wh2 st) → lv_has ls 3 [(0, .ref (b + 0)), (1, .int (nI kx9)), (2, .int (nI i))] → W p l e (headSpec (k_OP_fitless :: gw) ({ frames := 7, cells := 8, slots := 48, locals := 172 })).room s m args below meth c H locs (0) (0) (TQ below (tQ D b 219 (xr b 219) (fun r C1 => ∃ k9, k9 < 2 ^ 31 ∧ kx = nI k9 ∧ ((mSum on1 ot2 lea mos mwt mab mbe nt nd (2 ^ nt - 1) 4095 4095 (fun _ => 4095) ≠ 0 ∧ r = some (.int (-1))) ∨ (mSum on1 ot2 lea mos mwt mab mbe nt nd (2 ^ nt - 1) 4095 4095 (fun _ => 4095) = 0 ∧ ∃ z, r = some (.int (eo z)) ∧ kthP (fun j => (ftR (fun c => mSum on1 ot2 lea mos mwt mab mbe nt nd c 4095 4095 (fun _ => 4095)) nt nt).testBit j) nt k9 z)) ∧ XM ca b C1 nd nt mwt mab mbe on1 ot2 lea mos) (fun X => X = nNSE ∧ kx < 0)) args s 8 48 (xr b 219)) (F0 m 32 ls []) := by
        intro r
        induction r with
        | zero => intro i nf2 k2 im2 hm2 S2 f2 I2 P2 p2 a2 fy2 fb2 wh2 C H locs ls hms hi hnf2 hfy2 hfb2; exact absurd hms (by omega)
        | succ r ih32 =>
          intro i nf2 k2 im2 hm2 S2 f2 I2 P2 p2 a2 fy2 fb2 wh2 C H locs ls hms hi hnf2 hfy2 hfb2 hP hS hX hl
          refine lv_iload_n hx hb d_OP_fitless_32 rfl (lv_at hl 2 rfl) ?_
          refine lv_aload_n hx hb d_OP_fitless_33 rfl (lv_at hl 0 rfl) ?_
          refine xw_get (v := .ref (b + 11)) hx hb hts (fun w h => mw (uw_OP w h)) hown hK hP (XS_0 hX) (by decide) rfl 1 (by decide) (hts _ (mw tb_150)) (fun _ h => h) rfl d_OP_fitless_34 ?_
          refine xc_V (n := 0) (As := []) (rest := [.int (nI i)]) (st0 := _) hx hb hml hown hts (c_TE_number l D ca b _  hX ) km_TE_number tb_568 tb_220 tb_221 tb_3 (by decide +kernel) rfl rfl ⟨Nat.le_of_ble_eq_true rfl, Nat.le_of_ble_eq_true rfl⟩ hK hP (XS_11 hX) (by decide) rfl rfl rfl hl rfl (Nat.le_of_ble_eq_true rfl) d_OP_fitless_37 ⟨by decide, by decide⟩ hS (fun _ h => h) (fun v C H locs hp hP _ _ hS => ?_)
          obtain ⟨rfl, hX⟩ := hp
          refine xi_ge (tgt := 81) hx hb d_OP_fitless_40 (by decide) (by omega) (by omega) (fun h40 => ?_) (fun h40 => ?_)
          · skip
            have hin : i = nt := by omega
            rw [hin] at hnf2
            refine lv_aload_n hx hb d_OP_fitless_81 rfl (lv_at hl 0 rfl) ?_
            refine xw_get (v := .ref (b + 11)) hx hb hts (fun w h => mw (uw_OP w h)) hown hK hP (XS_0 hX) (by decide) rfl 1 (by decide) (hts _ (mw tb_150)) (fun _ h => h) rfl d_OP_fitless_82 ?_
            refine lv_iload_n hx hb d_OP_fitless_85 rfl (lv_at hl 1 rfl) ?_
            refine xc_V (n := 1) (As := [.int (nI kx9)]) (rest := []) (st0 := _) hx hb hml hown hts (c_TE_inForceAt l D ca b _ kx9 hX hn6 hkx9) km_TE_inForceAt tb_573 tb_574 tb_575 tb_3 (by decide +kernel) rfl rfl ⟨Nat.le_of_ble_eq_true rfl, Nat.le_of_ble_eq_true rfl⟩ hK hP (XS_11 hX) (by decide) rfl rfl rfl hl rfl (Nat.le_of_ble_eq_true rfl) d_OP_fitless_86 ⟨by decide, by decide⟩ hS (fun _ h => h) (fun v C H locs hp hP _ _ hS => ?_)
            obtain ⟨z, rfl, hz, hX⟩ := hp
            refine lv_istore_n (lv' := [(2, .int (eo z)), (0, .ref (b + 0)), (1, .int (nI kx9))]) hx hb d_OP_fitless_89 rfl hl (by decide) rfl (fun ls hl => ?_)
            refine lv_aload_n hx hb d_OP_fitless_90 rfl (lv_at hl 1 rfl) ?_
            refine xw_get (v := .ref (b + 11)) hx hb hts (fun w h => mw (uw_OP w h)) hown hK hP (XS_0 hX) (by decide) rfl 1 (by decide) (hts _ (mw tb_150)) (fun _ h => h) rfl d_OP_fitless_91 ?_
            refine xc_V (n := 0) (As := []) (rest := []) (st0 := _) hx hb hml hown hts (c_TE_putAllBack l D ca b _  hX hn6) km_TE_putAllBack tb_577 tb_578 tb_579 tb_3 (by decide +kernel) rfl rfl ⟨Nat.le_of_ble_eq_true rfl, Nat.le_of_ble_eq_true rfl⟩ hK hP (XS_11 hX) (by decide) rfl rfl rfl hl rfl (Nat.le_of_ble_eq_true rfl) d_OP_fitless_94 ⟨by decide, by decide⟩ hS (fun _ h => h) (fun v C H locs hp hP _ _ hS => ?_)
            obtain ⟨rfl, hX⟩ := hp
            refine lv_iload_n hx hb d_OP_fitless_97 rfl (lv_at hl 0 rfl) ?_
            exact xt_iret hx hb hr hlocks hP hS (by decide) (by decide) (fun _ h => h) ⟨kx9, hkx9, hkxe, Or.inr ⟨hT0, z, rfl, kth_cg hnf2 hz⟩, ⟨_, _, _, _, _, _, _, _, _, _, _, _, k2, im2, hm2, S2, I2, P2, _, _, _, _, _, hX, hR, fun j hj => if_pos hj, hfy2, hfb2⟩⟩ d_OP_fitless_98
          · skip
            have hnf3 : ∀ j, j < nt → va_up nf2 i false j = (clb (ftR (fun c => mSum on1 ot2 lea mos mwt mab mbe nt nd c 4095 4095 (fun _ => 4095)) nt i) (2 ^ i)).testBit j := fun j hj => by
              rw [clb_bit]
              by_cases q : j = i
              · rw [q, va_up_self]; simp
              · rw [va_up_ne _ _ q, hnf2 j hj]; simp [q]
            refine lv_aload_n hx hb d_OP_fitless_43 rfl (lv_at hl 0 rfl) ?_
            refine xw_get (v := .ref (b + 11)) hx hb hts (fun w h => mw (uw_OP w h)) hown hK hP (XS_0 hX) (by decide) rfl 1 (by decide) (hts _ (mw tb_150)) (fun _ h => h) rfl d_OP_fitless_44 ?_
            refine lv_iload_n hx hb d_OP_fitless_47 rfl (lv_at hl 2 rfl) ?_
            refine lv_iconst (v := nI 0) hx hb d_OP_fitless_48 (by decide) ?_
            refine xc_V (n := 2) (As := [.int (nI i), .int (nI 0)]) (rest := []) (st0 := _) hx hb hml hown hts (c_TE_setInForce l D ca b _ i false hX (by omega)) km_TE_setInForce tb_569 tb_570 tb_571 tb_3 (by decide +kernel) rfl rfl ⟨Nat.le_of_ble_eq_true rfl, Nat.le_of_ble_eq_true rfl⟩ hK hP (XS_11 hX) (by decide) rfl rfl rfl hl rfl (Nat.le_of_ble_eq_true rfl) d_OP_fitless_49 ⟨by decide, by decide⟩ hS (fun _ h => h) (fun v C H locs hp hP _ _ hS => ?_)
            obtain ⟨rfl, hX⟩ := hp
            refine lv_aload_n hx hb d_OP_fitless_52 rfl (lv_at hl 0 rfl) ?_
            refine xc_V (n := 0) (As := []) (rest := []) (st0 := _) hx hb hml hown hts (c_OP_sumAll l D ca b _ (clb (ftR (fun c => mSum on1 ot2 lea mos mwt mab mbe nt nd c 4095 4095 (fun _ => 4095)) nt i) (2 ^ i)) 4095 4095 hX hH hR hnf3 hfy2 (fun w hw y hy => by rw [hfb2 w hw] at hy; cases hy) (oB_none hfb2 (by decide)) (oB_none hfb2 (by decide)) (fun _ => hfb2)) km_OP_sumAll tb_169 tb_171 tps_0 tb_1 (by decide +kernel) rfl rfl ⟨Nat.le_of_ble_eq_true rfl, Nat.le_of_ble_eq_true rfl⟩ hK hP (XS_0 hX) (by decide) rfl rfl rfl hl rfl (Nat.le_of_ble_eq_true rfl) d_OP_fitless_53 ⟨by decide, by decide⟩ hS (fun _ h => h) (fun v C H locs hp hP _ _ hS => ?_)
            obtain ⟨rfl, k1, im1, hm1, S1, f1, I1, P1, p1, a1, fy1, fb1, hX, hfy1, hfb1⟩ := hp
            refine lv_aload_n hx hb d_OP_fitless_56 rfl (lv_at hl 0 rfl) ?_
            refine xw_get (v := .ref (b + 215)) hx hb hts (fun w h => mw (uw_OP w h)) hown hK hP (XS_0 hX) (by decide) rfl 3 (by decide) (hts _ (mw tb_152)) (fun _ h => h) rfl d_OP_fitless_57 ?_
            have hgi2 : gid 215 := (by unfold gid; decide)
            obtain ⟨ga2, gn2, hga2, hgb2, hgc2⟩ := XS_g hX 215 hgi2
            rw [gv_wh] at hgc2
            refine xc_V (n := 0) (As := []) (rest := []) (st0 := _) hx hb hml hown hts (c_GR_isZero l D ca b 219 _ 215 gn2 _ ga2 hga2 hgb2 (by unfold gid at hgi2; omega) hgc2) km_GR_isZero tb_287 tb_288 tb_289 tb_5 (by decide +kernel) rfl rfl ⟨Nat.le_of_ble_eq_true rfl, Nat.le_of_ble_eq_true rfl⟩ hK hP hga2 (by unfold gid at hgi2; omega) rfl rfl rfl hl rfl (Nat.le_of_ble_eq_true rfl) d_OP_fitless_60 ⟨by decide, by decide⟩ hS (fun _ h => h) (fun v C H locs hp hP _ _ hS => ?_)
            obtain ⟨rfl, hCe⟩ := hp
            rw [hCe] at hP
            refine xz_ne (tgt := 75) hx hb d_OP_fitless_63 (by decide) (by split <;> decide) (fun h63 => ?_) (fun h63 => ?_)
            · skip
              refine lv_iinc (v := nI (i + 1)) (lv' := [(2, .int (nI (i + 1))), (0, .ref (b + 0)), (1, .int (nI kx9))]) hx hb d_OP_fitless_75 hl (k := 2) rfl (show nI i + Int32.ofInt 1 = nI (i + 1) from nI_add _ _) (by decide) rfl (fun ls hl => ?_)
              refine lv_goto (tgt := 32) hx hb d_OP_fitless_78 (by decide) ?_
              exact ih32 (i + 1) _ k1 im1 hm1 S1 f1 I1 P1 p1 a1 fy1 fb1 _ _ _ _ _ (by omega) (by omega) (by rw [ftR_z ((gRep_zero hgc2 (by rw [← p48g]; exact Nat.lt_trans (mSum_lt hH) (by decide))).mp (gz_n h63))]; exact hnf3) hfy1 hfb1 hP hS hX (lv_sub hl [1, 2, 0] rfl)
            · skip
              have hzz := fun q => gz_z h63 ((gRep_zero hgc2 (by rw [← p48g]; exact Nat.lt_trans (mSum_lt hH) (by decide))).mpr q)
              refine lv_aload_n hx hb d_OP_fitless_66 rfl (lv_at hl 0 rfl) ?_
              refine xw_get (v := .ref (b + 11)) hx hb hts (fun w h => mw (uw_OP w h)) hown hK hP (XS_0 hX) (by decide) rfl 1 (by decide) (hts _ (mw tb_150)) (fun _ h => h) rfl d_OP_fitless_67 ?_
              refine lv_iload_n hx hb d_OP_fitless_70 rfl (lv_at hl 2 rfl) ?_
              refine lv_iconst (v := nI 1) hx hb d_OP_fitless_71 (by decide) ?_
              refine xc_V (n := 2) (As := [.int (nI i), .int (nI 1)]) (rest := []) (st0 := _) hx hb hml hown hts (c_TE_setInForce l D ca b _ i true hX (by omega)) km_TE_setInForce tb_569 tb_570 tb_571 tb_3 (by decide +kernel) rfl rfl ⟨Nat.le_of_ble_eq_true rfl, Nat.le_of_ble_eq_true rfl⟩ hK hP (XS_11 hX) (by decide) rfl rfl rfl hl rfl (Nat.le_of_ble_eq_true rfl) d_OP_fitless_72 ⟨by decide, by decide⟩ hS (fun _ h => h) (fun v C H locs hp hP _ _ hS => ?_)
              obtain ⟨rfl, hX⟩ := hp
              refine lv_iinc (v := nI (i + 1)) (lv' := [(2, .int (nI (i + 1))), (0, .ref (b + 0)), (1, .int (nI kx9))]) hx hb d_OP_fitless_75 hl (k := 2) rfl (show nI i + Int32.ofInt 1 = nI (i + 1) from nI_add _ _) (by decide) rfl (fun ls hl => ?_)
              refine lv_goto (tgt := 32) hx hb d_OP_fitless_78 (by decide) ?_
              exact ih32 (i + 1) _ k1 im1 hm1 S1 f1 I1 P1 p1 a1 fy1 fb1 _ _ _ _ _ (by omega) (by omega) (by rw [ftR_n hzz]; exact fun j hj => (if q : j = i then by rw [q, va_up_self, ftR_on i i (Nat.le_refl _) (by omega)] else by rw [va_up_ne _ _ q, va_up_ne _ _ q]; exact hnf2 j hj)) hfy1 hfb1 hP hS hX (lv_sub hl [1, 2, 0] rfl)
      exact loop32 7 0 nf k1 im1 hm1 S1 f1 I1 P1 p1 a1 fy1 fb1 _ _ _ _ _ (by omega) (Nat.zero_le _) (fun i hi => by rw [hnf i hi]; exact (bits_lt.mpr hi).symm) hfy1 hfb1 hP hS hX (lv_sub hl [1, 2, 0] rfl)
    · skip
      refine lv_iconst (v := (-1)) hx hb d_OP_fitless_28 (by decide) ?_
      exact xt_iret hx hb hr hlocks hP hS (by decide) (by decide) (fun _ h => h) ⟨kx9, hkx9, hkxe, Or.inl ⟨fun q => gz_z h25 ((gRep_zero hgc1 (by rw [← p48g]; exact Nat.lt_trans (mSum_lt hH) (by decide))).mpr q), rfl⟩, ⟨_, _, _, _, _, _, _, _, _, _, _, _, k1, im1, hm1, S1, I1, P1, _, _, _, _, _, hX, hR, hnf, hfy1, hfb1⟩⟩ d_OP_fitless_29
  · skip
    exact xt_throw (istr := 148) (text := "k is below 0") (ix := 13) (bx := bxN) hx hb hml hown htr hlocks hnoh (hts _ (mw tb_384)) (hts _ (mw tb_385)) (hts _ (mw tb_12)) (ex_str (State.WarmedH.refl _) (hE.2.2.2.1 (148, _) (by decide))) (own_ok hts hE ownN_in) (by decide +kernel) ⟨by decide +kernel, by decide +kernel, by decide +kernel, by decide +kernel⟩ d_OP_fitless_4 d_OP_fitless_7 d_OP_fitless_8 d_OP_fitless_10 d_OP_fitless_13 hN hl ⟨rfl, Int32.not_le.mp h1⟩ ⟨by decide, by decide⟩ ⟨by decide, by decide⟩ (by decide) (by decide)

set_option maxHeartbeats 4000000 in
set_option maxRecDepth 100000 in
/-- a count -/
theorem c_OP_count (l : Launch) (hst : l.stackTraces = false) (D : va_G) (ca : Nat → ClassId) (b : Nat) (C0 : Nat → va_E) {nd nt : Nat} {mwt mab mbe on1 ot2 lea mos : Nat → Nat} (x : Int32) (hM : XM ca b C0 nd nt mwt mab mbe on1 ot2 lea mos) (hH : MH on1 ot2 lea mos mwt mab mbe nt nd)  : TMet l y_OP_count (k_OP_count :: gw) ({ frames := 7, cells := 8, slots := 48, locals := 111 }) (tPc D ca b 219 C0 [.ref (b + 0), .int x]) (tQ D b 219 (xr b 219) (fun r C1 => ∃ x9, x9 < 3 ∧ x = nI x9 ∧ r = some (.int (nI (if x9 = 0 then nd else if x9 = 1 then nt - mct on1 ot2 nt else mct on1 ot2 nt))) ∧ XM ca b C1 nd nt mwt mab mbe on1 ot2 lea mos) (fun X => X = nNSE ∧ ¬ isN x 3)) 8 48 (xr b 219) := by
  obtain ⟨wt, ab, be, fr, tt, le, mo, nf, tr, nm, fy, fb, k, im, hm, S, I, P, pt, ap, fa, wh, st, hX, hR, hnf, hfy0, hfb0⟩ := hM
  have hd6 := hH.D.1
  have hn6 := hH.M.1
  refine tm_ofW (cc := b_OP_count) (maxL := 2) (ret := (some FieldType.int)) (by decide) rfl ?_
  intro p e s m args below meth c s₁ B hml hv
  obtain ⟨hav, hP, hK, hE⟩ := hv
  have hx := B.exec
  have hb := B.bytes
  have hr := B.returns
  have hts := atoms_spec (ws := k_OP_count :: gw) B.pre
  have hown : s.vm.findClass R_OP = some m.cls := findClass_of_methodNamed B.named
  have hlocks := B.notSynchronized
  have hnoh := B.noHandlers (hts _ List.mem_cons_self)
  have htr : e.platform.stackTraces = false := by rw [(Stand.of_body B).admits.platform]; exact hst
  have hA : ∀ k, k < 219 → xr b 219 (b + k) := xr_in
  have hN : nCh s.heap s.heap := va_S.rf
  have hl := lv_entry ([.ref (b + 0), .int x]) (n := 2) (Nat.le_of_ble_eq_true rfl)
  rw [hav, lg_entry_eq]
  generalize (lg_sl ([.ref (b + 0), .int x]) ++ List.replicate (2 - (lg_sl ([.ref (b + 0), .int x])).length) Slot.unset).toArray = ls at hl ⊢
  have hl : lv_has ls 2 [(0, .ref (b + 0)), (1, .int x)] := hl
  rw [← hav]
  have hnm6 : nm ≤ nt := by rw [hR.2.2.2]; exact mct_le on1 ot2 nt
  refine lv_iload_n hx hb d_OP_count_0 rfl (lv_at hl 1 rfl) ?_
  by_cases hq : isN x 3
  · obtain ⟨x9, hx9, hxe⟩ := hq
    by_cases hj0 : x9 = 0
    · subst hj0
      refine ti (nI 0) hxe ?_
      refine lv_tableIn (off := 27) (tgt := 28) hx hb d_OP_count_1 (by decide) (by decide) (by decide) (by decide) ?_
      refine lv_aload_n hx hb d_OP_count_28 rfl (lv_at hl 0 rfl) ?_
      refine xw_get (v := .ref (b + 1)) hx hb hts (fun w h => mw (uw_OP w h)) hown hK hP (XS_0 hX) (by decide) rfl 0 (by decide) (hts _ (mw tb_149)) (fun _ h => h) rfl d_OP_count_29 ?_
      have hS : va_S (xr b 219) s.heap _ [] := hN.to
      refine xc_V (n := 0) (As := []) (rest := []) (st0 := _) hx hb hml hown hts (c_DA_number l D ca b _  hX ) km_DA_number tb_173 tb_174 tb_175 tb_2 (by decide +kernel) rfl rfl ⟨Nat.le_of_ble_eq_true rfl, Nat.le_of_ble_eq_true rfl⟩ hK hP (XS_1 hX) (by decide) rfl rfl rfl hl rfl (Nat.le_of_ble_eq_true rfl) d_OP_count_32 ⟨by decide, by decide⟩ hS (fun _ h => h) (fun v C H locs hp hP _ _ hS => ?_)
      obtain ⟨rfl, hX⟩ := hp
      exact xt_iret hx hb hr hlocks hP hS (by decide) (by decide) (fun _ h => h) ⟨0, by decide, hxe, rfl, ⟨_, _, _, _, _, _, _, _, _, _, _, _, k, im, hm, S, I, P, _, _, _, _, _, hX, hR, hnf, hfy0, hfb0⟩⟩ d_OP_count_35
    by_cases hj1 : x9 = 1
    · subst hj1
      refine ti (nI 1) hxe ?_
      refine lv_tableIn (off := 35) (tgt := 36) hx hb d_OP_count_1 (by decide) (by decide) (by decide) (by decide) ?_
      refine lv_aload_n hx hb d_OP_count_36 rfl (lv_at hl 0 rfl) ?_
      refine xw_get (v := .ref (b + 11)) hx hb hts (fun w h => mw (uw_OP w h)) hown hK hP (XS_0 hX) (by decide) rfl 1 (by decide) (hts _ (mw tb_150)) (fun _ h => h) rfl d_OP_count_37 ?_
      have hS : va_S (xr b 219) s.heap _ [] := hN.to
      refine xc_V (n := 0) (As := []) (rest := []) (st0 := _) hx hb hml hown hts (c_TE_number l D ca b _  hX ) km_TE_number tb_568 tb_220 tb_221 tb_3 (by decide +kernel) rfl rfl ⟨Nat.le_of_ble_eq_true rfl, Nat.le_of_ble_eq_true rfl⟩ hK hP (XS_11 hX) (by decide) rfl rfl rfl hl rfl (Nat.le_of_ble_eq_true rfl) d_OP_count_40 ⟨by decide, by decide⟩ hS (fun _ h => h) (fun v C H locs hp hP _ _ hS => ?_)
      obtain ⟨rfl, hX⟩ := hp
      refine lv_aload_n hx hb d_OP_count_43 rfl (lv_at hl 0 rfl) ?_
      refine xw_get (v := .ref (b + 11)) hx hb hts (fun w h => mw (uw_OP w h)) hown hK hP (XS_0 hX) (by decide) rfl 1 (by decide) (hts _ (mw tb_150)) (fun _ h => h) rfl d_OP_count_44 ?_
      refine xc_V (n := 0) (As := []) (rest := [.int (nI nt)]) (st0 := _) hx hb hml hown hts (c_TE_members l D ca b _  hX ) km_TE_members tb_510 tb_511 tb_512 tb_3 (by decide +kernel) rfl rfl ⟨Nat.le_of_ble_eq_true rfl, Nat.le_of_ble_eq_true rfl⟩ hK hP (XS_11 hX) (by decide) rfl rfl rfl hl rfl (Nat.le_of_ble_eq_true rfl) d_OP_count_47 ⟨by decide, by decide⟩ hS (fun _ h => h) (fun v C H locs hp hP _ _ hS => ?_)
      obtain ⟨rfl, hX⟩ := hp
      refine lv_isub hx hb d_OP_count_50 ?_
      refine ti (nI (nt - nm)) (pk_sub (by omega)) ?_
      exact xt_iret hx hb hr hlocks hP hS (by decide) (by decide) (fun _ h => h) ⟨1, by decide, hxe, by rw [if_neg (by decide), if_pos rfl, ← hR.2.2.2], ⟨_, _, _, _, _, _, _, _, _, _, _, _, k, im, hm, S, I, P, _, _, _, _, _, hX, hR, hnf, hfy0, hfb0⟩⟩ d_OP_count_51
    have hj2 : x9 = 2 := by omega
    subst hj2
    refine ti (nI 2) hxe ?_
    refine lv_tableIn (off := 51) (tgt := 52) hx hb d_OP_count_1 (by decide) (by decide) (by decide) (by decide) ?_
    refine lv_aload_n hx hb d_OP_count_52 rfl (lv_at hl 0 rfl) ?_
    refine xw_get (v := .ref (b + 11)) hx hb hts (fun w h => mw (uw_OP w h)) hown hK hP (XS_0 hX) (by decide) rfl 1 (by decide) (hts _ (mw tb_150)) (fun _ h => h) rfl d_OP_count_53 ?_
    have hS : va_S (xr b 219) s.heap _ [] := hN.to
    refine xc_V (n := 0) (As := []) (rest := []) (st0 := _) hx hb hml hown hts (c_TE_members l D ca b _  hX ) km_TE_members tb_510 tb_511 tb_512 tb_3 (by decide +kernel) rfl rfl ⟨Nat.le_of_ble_eq_true rfl, Nat.le_of_ble_eq_true rfl⟩ hK hP (XS_11 hX) (by decide) rfl rfl rfl hl rfl (Nat.le_of_ble_eq_true rfl) d_OP_count_56 ⟨by decide, by decide⟩ hS (fun _ h => h) (fun v C H locs hp hP _ _ hS => ?_)
    obtain ⟨rfl, hX⟩ := hp
    exact xt_iret hx hb hr hlocks hP hS (by decide) (by decide) (fun _ h => h) ⟨2, by decide, hxe, by rw [if_neg (by decide), if_neg (by decide), ← hR.2.2.2], ⟨_, _, _, _, _, _, _, _, _, _, _, _, k, im, hm, S, I, P, _, _, _, _, _, hX, hR, hnf, hfy0, hfb0⟩⟩ d_OP_count_59
  · skip
    refine lv_tableOut (tgt := 60) hx hb d_OP_count_1 (tsw_out (n := 2) (by decide) hq) (by decide) ?_
    exact xt_throw (istr := 162) (text := "there is no such count") (ix := 13) (bx := bxN) hx hb hml hown htr hlocks hnoh (hts _ (mw tb_384)) (hts _ (mw tb_385)) (hts _ (mw tb_12)) (ex_str (State.WarmedH.refl _) (hE.2.2.2.1 (162, _) (by decide))) (own_ok hts hE ownN_in) (by decide +kernel) ⟨by decide +kernel, by decide +kernel, by decide +kernel, by decide +kernel⟩ d_OP_count_60 d_OP_count_63 d_OP_count_64 d_OP_count_66 d_OP_count_69 hN hl ⟨rfl, hq⟩ ⟨by decide, by decide⟩ ⟨by decide, by decide⟩ (by decide) (by decide)

