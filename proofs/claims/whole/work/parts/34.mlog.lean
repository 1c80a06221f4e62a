/-! The Model: small methods -/
theorem s_l : ∀ n, n < 32 → ((nI n &&& 31).toBitVec.smod 32).toNat = n := by decide +kernel
theorem nx_and (a b : Nat) : nI a &&& nI b = nI (a &&& b) := by
  apply Int32.toBitVec_inj.1
  show BitVec.ofNat 32 a &&& BitVec.ofNat 32 b = BitVec.ofNat 32 (a &&& b)
  apply BitVec.eq_of_getLsbD_eq
  intro i hi
  simp [hi]
theorem nx_or (a b : Nat) : nI a ||| nI b = nI (a ||| b) := by
  apply Int32.toBitVec_inj.1
  show BitVec.ofNat 32 a ||| BitVec.ofNat 32 b = BitVec.ofNat 32 (a ||| b)
  apply BitVec.eq_of_getLsbD_eq
  intro i hi
  simp [hi]
/-- a without the bits of m -/
def clb (a m : Nat) : Nat := a ^^^ (a &&& m)
theorem nx_clb (a m : Nat) : nI a &&& (nI m ^^^ (-1)) = nI (clb a m) := by
  apply Int32.toBitVec_inj.1
  show BitVec.ofNat 32 a &&& (BitVec.ofNat 32 m ^^^ (-1 : Int32).toBitVec) = BitVec.ofNat 32 (a ^^^ (a &&& m))
  rw [show (-1 : Int32).toBitVec = BitVec.allOnes 32 from by decide]
  apply BitVec.eq_of_getLsbD_eq
  intro i hi
  simp only [BitVec.getLsbD_and, BitVec.getLsbD_xor, BitVec.getLsbD_allOnes, BitVec.getLsbD_ofNat, Nat.testBit_xor, Nat.testBit_and, hi, decide_true, Bool.true_and]
  cases a.testBit i <;> cases m.testBit i <;> rfl
theorem sh1 {k : Nat} (hk : k < 31) : nI 1 <<< (nI k &&& 31) = nI (2 ^ k) := by
  have h := pk_shlN (n := 1) (nI k &&& 31) k (s_l k (by omega)) (by rw [Nat.one_mul]; exact Nat.pow_lt_pow_right (by decide) (by omega))
  rw [h, Nat.one_mul]
theorem shr1 {a k : Nat} (ha : a < 2 ^ 31) (hk : k < 32) : nI a >>> (nI k &&& 31) = nI (a / 2 ^ k) := pk_shrN ha (nI k &&& 31) k (s_l k hk)
theorem and1 (a : Nat) : nI a &&& nI 1 = nI (a % 2) := by rw [nx_and, Nat.and_one_is_mod]
theorem tbit {a k : Nat} : a / 2 ^ k % 2 = 1 ↔ a.testBit k = true := by rw [Nat.testBit_eq_decide_div_mod_eq, decide_eq_true_iff]
/-- what the first that does not hold says -/
def gth (x y z : Bool) : Nat := if x = false then 1 else if y = false then 2 else if z = false then 3 else 0
set_option maxHeartbeats 4000000 in
set_option maxRecDepth 100000 in
/-- what was thrown -/
theorem c_MO_thrown (l : Launch) (D : va_G) (ca : Nat → ClassId) (b : Nat) (C0 : Nat → va_E) {th : Nat} {dts : Nat} {tld : Nat} {fs9 : Nat} {ls9 : Nat} {cn9 : Nat} {lf9 : Nat} {mb9 : Nat} {mwt : Nat → Nat} {mab : Nat → Nat} {mbe : Nat → Nat} {on1 : Nat → Nat} {ot2 : Nat → Nat} {lea : Nat → Nat} {mos : Nat → Nat} {big : Nat → Nat} {wid : Nat → Nat} {yrs : Nat → Nat}  (hX : MR ca b C0 th dts tld fs9 ls9 cn9 lf9 mb9 mwt mab mbe on1 ot2 lea mos big wid yrs)  : Met l y_MO_thrown (k_MO_thrown :: gw) ({ frames := 1, cells := 0, slots := 0, locals := 12 }) (xPc D ca b 11 C0 [.ref (b + 0)]) (xQ D b 11 (fun r C1 => r = some (.int (nI th)) ∧ MR ca b C1 th dts tld fs9 ls9 cn9 lf9 mb9 mwt mab mbe on1 ot2 lea mos big wid yrs)) 0 0 (xr b 11) := by
  refine Met.ofW (cc := b_MO_thrown) (maxL := 1) (ret := (some FieldType.int)) (by decide) rfl ?_
  intro p e s m args below meth c s₁ B hml hv
  obtain ⟨hav, hP, hK⟩ := hv
  have hx := B.exec
  have hb := B.bytes
  have hr := B.returns
  have hts := atoms_spec (ws := k_MO_thrown :: gw) B.pre
  have hown : s.vm.findClass R_MO = some m.cls := findClass_of_methodNamed B.named
  have hlocks := B.notSynchronized
  have hA : ∀ k, k < 11 → xr b 11 (b + k) := xr_in
  have hS : va_S (xr b 11) s.heap s.heap [] := va_S.rf
  have hl := lv_entry ([.ref (b + 0)]) (n := 1) (Nat.le_of_ble_eq_true rfl)
  rw [hav, lg_entry_eq]
  generalize (lg_sl ([.ref (b + 0)]) ++ List.replicate (1 - (lg_sl ([.ref (b + 0)])).length) Slot.unset).toArray = ls at hl ⊢
  have hl : lv_has ls 1 [(0, .ref (b + 0))] := hl
  rw [← hav]
  refine lv_aload_n hx hb d_MO_thrown_0 rfl (lv_at hl 0 rfl) ?_
  refine xw_get (v := .int (nI th)) hx hb hts (fun w h => mw (uw_MO w h)) hown hK hP (MR_0 hX) (by decide) rfl 0 (by decide) (hts _ (mw tb_595)) (fun _ h => h) rfl d_MO_thrown_1 ?_
  exact xw_iret hx hb hr hlocks hP hS ⟨rfl, hX⟩ d_MO_thrown_4

set_option maxHeartbeats 4000000 in
set_option maxRecDepth 100000 in
/-- what is thrown is noted -/
theorem c_MO_goes (l : Launch) (D : va_G) (ca : Nat → ClassId) (b : Nat) (C0 : Nat → va_E) {th : Nat} {dts : Nat} {tld : Nat} {fs9 : Nat} {ls9 : Nat} {cn9 : Nat} {lf9 : Nat} {mb9 : Nat} {mwt : Nat → Nat} {mab : Nat → Nat} {mbe : Nat → Nat} {on1 : Nat → Nat} {ot2 : Nat → Nat} {lea : Nat → Nat} {mos : Nat → Nat} {big : Nat → Nat} {wid : Nat → Nat} {yrs : Nat → Nat} (z1 z2 z3 : Bool) (hX : MR ca b C0 th dts tld fs9 ls9 cn9 lf9 mb9 mwt mab mbe on1 ot2 lea mos big wid yrs)  : Met l y_MO_goes (k_MO_goes :: gw) ({ frames := 1, cells := 0, slots := 0, locals := 12 }) (xPc D ca b 11 C0 [.ref (b + 0), .int (nI z1.toNat), .int (nI z2.toNat), .int (nI z3.toNat)]) (xQ D b 11 (fun r C1 => r = some (.int (nI (if gth z1 z2 z3 = 0 then 1 else 0))) ∧ MR ca b C1 (gth z1 z2 z3) dts tld fs9 ls9 cn9 lf9 mb9 mwt mab mbe on1 ot2 lea mos big wid yrs)) 0 0 (xr b 11) := by
  refine Met.ofW (cc := b_MO_goes) (maxL := 4) (ret := (some FieldType.boolean)) (by decide) rfl ?_
  intro p e s m args below meth c s₁ B hml hv
  obtain ⟨hav, hP, hK⟩ := hv
  have hx := B.exec
  have hb := B.bytes
  have hr := B.returns
  have hts := atoms_spec (ws := k_MO_goes :: gw) B.pre
  have hown : s.vm.findClass R_MO = some m.cls := findClass_of_methodNamed B.named
  have hlocks := B.notSynchronized
  have hA : ∀ k, k < 11 → xr b 11 (b + k) := xr_in
  have hS : va_S (xr b 11) s.heap s.heap [] := va_S.rf
  have hl := lv_entry ([.ref (b + 0), .int (nI z1.toNat), .int (nI z2.toNat), .int (nI z3.toNat)]) (n := 4) (Nat.le_of_ble_eq_true rfl)
  rw [hav, lg_entry_eq]
  generalize (lg_sl ([.ref (b + 0), .int (nI z1.toNat), .int (nI z2.toNat), .int (nI z3.toNat)]) ++ List.replicate (4 - (lg_sl ([.ref (b + 0), .int (nI z1.toNat), .int (nI z2.toNat), .int (nI z3.toNat)])).length) Slot.unset).toArray = ls at hl ⊢
  have hl : lv_has ls 4 [(0, .ref (b + 0)), (1, .int (nI z1.toNat)), (2, .int (nI z2.toNat)), (3, .int (nI z3.toNat))] := hl
  rw [← hav]
  refine lv_aload_n hx hb d_MO_goes_0 rfl (lv_at hl 0 rfl) ?_
  refine lv_iload_n hx hb d_MO_goes_1 rfl (lv_at hl 1 rfl) ?_
  refine xz_ne (tgt := 9) hx hb d_MO_goes_2 (by decide) (tn31 _) (fun h2 => ?_) (fun h2 => ?_)
  · skip
    refine lv_iload_n hx hb d_MO_goes_9 rfl (lv_at hl 2 rfl) ?_
    refine xz_ne (tgt := 17) hx hb d_MO_goes_10 (by decide) (tn31 _) (fun h10 => ?_) (fun h10 => ?_)
    · skip
      refine lv_iload_n hx hb d_MO_goes_17 rfl (lv_at hl 3 rfl) ?_
      refine xz_ne (tgt := 25) hx hb d_MO_goes_18 (by decide) (tn31 _) (fun h18 => ?_) (fun h18 => ?_)
      · skip
        have hg : gth z1 z2 z3 = 0 := by simp [gth, bt h2, bt h10, bt h18]
        refine lv_iconst (v := nI 0) hx hb d_MO_goes_25 (by decide) ?_
        refine xw_put (v := .int (nI 0)) (ty := t_MO 0) hx hb hts (fun w h => mw (uw_MO w h)) t_MO t_MO_ok n_MO hown hK hP hA hS (MR_0 hX) (by decide) rfl 0 (by decide) (hts _ (mw tb_595)) (fun _ h => h) rfl (by decide +kernel) rfl rfl (Nat.le_of_ble_eq_true rfl) d_MO_goes_26 (fun H locs hP hS => ?_)
        have hX := MR_set_th (x1 := 0) hX
        generalize va_up _ 0 _ = C at hP hX
        refine lv_aload_n hx hb d_MO_goes_29 rfl (lv_at hl 0 rfl) ?_
        refine xw_get (v := .int (nI 0)) hx hb hts (fun w h => mw (uw_MO w h)) hown hK hP (MR_0 hX) (by decide) rfl 0 (by decide) (hts _ (mw tb_595)) (fun _ h => h) rfl d_MO_goes_30 ?_
        refine xz_ne (tgt := 40) hx hb d_MO_goes_33 (by decide) (by omega) (fun h33 => ?_) (fun h33 => ?_)
        · skip
          exact absurd h33 (by decide)
        · skip
          refine lv_iconst (v := nI 1) hx hb d_MO_goes_36 (by decide) ?_
          refine lv_goto (tgt := 41) hx hb d_MO_goes_37 (by decide) ?_
          exact xw_zret hx hb hr hlocks nz1 hP hS ⟨by rw [hg]; rfl, by rw [hg]; exact hX⟩ d_MO_goes_41
      · skip
        have hg : gth z1 z2 z3 = 3 := by simp [gth, bt h2, bt h10, bf h18]
        refine lv_iconst (v := nI 3) hx hb d_MO_goes_21 (by decide) ?_
        refine lv_goto (tgt := 26) hx hb d_MO_goes_22 (by decide) ?_
        refine xw_put (v := .int (nI 3)) (ty := t_MO 0) hx hb hts (fun w h => mw (uw_MO w h)) t_MO t_MO_ok n_MO hown hK hP hA hS (MR_0 hX) (by decide) rfl 0 (by decide) (hts _ (mw tb_595)) (fun _ h => h) rfl (by decide +kernel) rfl rfl (Nat.le_of_ble_eq_true rfl) d_MO_goes_26 (fun H locs hP hS => ?_)
        have hX := MR_set_th (x1 := 3) hX
        generalize va_up _ 0 _ = C at hP hX
        refine lv_aload_n hx hb d_MO_goes_29 rfl (lv_at hl 0 rfl) ?_
        refine xw_get (v := .int (nI 3)) hx hb hts (fun w h => mw (uw_MO w h)) hown hK hP (MR_0 hX) (by decide) rfl 0 (by decide) (hts _ (mw tb_595)) (fun _ h => h) rfl d_MO_goes_30 ?_
        refine xz_ne (tgt := 40) hx hb d_MO_goes_33 (by decide) (by omega) (fun h33 => ?_) (fun h33 => ?_)
        · skip
          refine lv_iconst (v := nI 0) hx hb d_MO_goes_40 (by decide) ?_
          exact xw_zret hx hb hr hlocks nz0 hP hS ⟨by rw [hg]; rfl, by rw [hg]; exact hX⟩ d_MO_goes_41
        · skip
          exact absurd h33 (by decide)
    · skip
      have hg : gth z1 z2 z3 = 2 := by simp [gth, bt h2, bf h10]
      refine lv_iconst (v := nI 2) hx hb d_MO_goes_13 (by decide) ?_
      refine lv_goto (tgt := 26) hx hb d_MO_goes_14 (by decide) ?_
      refine xw_put (v := .int (nI 2)) (ty := t_MO 0) hx hb hts (fun w h => mw (uw_MO w h)) t_MO t_MO_ok n_MO hown hK hP hA hS (MR_0 hX) (by decide) rfl 0 (by decide) (hts _ (mw tb_595)) (fun _ h => h) rfl (by decide +kernel) rfl rfl (Nat.le_of_ble_eq_true rfl) d_MO_goes_26 (fun H locs hP hS => ?_)
      have hX := MR_set_th (x1 := 2) hX
      generalize va_up _ 0 _ = C at hP hX
      refine lv_aload_n hx hb d_MO_goes_29 rfl (lv_at hl 0 rfl) ?_
      refine xw_get (v := .int (nI 2)) hx hb hts (fun w h => mw (uw_MO w h)) hown hK hP (MR_0 hX) (by decide) rfl 0 (by decide) (hts _ (mw tb_595)) (fun _ h => h) rfl d_MO_goes_30 ?_
      refine xz_ne (tgt := 40) hx hb d_MO_goes_33 (by decide) (by omega) (fun h33 => ?_) (fun h33 => ?_)
      · skip
        refine lv_iconst (v := nI 0) hx hb d_MO_goes_40 (by decide) ?_
        exact xw_zret hx hb hr hlocks nz0 hP hS ⟨by rw [hg]; rfl, by rw [hg]; exact hX⟩ d_MO_goes_41
      · skip
        exact absurd h33 (by decide)
  · skip
    have hg : gth z1 z2 z3 = 1 := by simp [gth, bf h2]
    refine lv_iconst (v := nI 1) hx hb d_MO_goes_5 (by decide) ?_
    refine lv_goto (tgt := 26) hx hb d_MO_goes_6 (by decide) ?_
    refine xw_put (v := .int (nI 1)) (ty := t_MO 0) hx hb hts (fun w h => mw (uw_MO w h)) t_MO t_MO_ok n_MO hown hK hP hA hS (MR_0 hX) (by decide) rfl 0 (by decide) (hts _ (mw tb_595)) (fun _ h => h) rfl (by decide +kernel) rfl rfl (Nat.le_of_ble_eq_true rfl) d_MO_goes_26 (fun H locs hP hS => ?_)
    have hX := MR_set_th (x1 := 1) hX
    generalize va_up _ 0 _ = C at hP hX
    refine lv_aload_n hx hb d_MO_goes_29 rfl (lv_at hl 0 rfl) ?_
    refine xw_get (v := .int (nI 1)) hx hb hts (fun w h => mw (uw_MO w h)) hown hK hP (MR_0 hX) (by decide) rfl 0 (by decide) (hts _ (mw tb_595)) (fun _ h => h) rfl d_MO_goes_30 ?_
    refine xz_ne (tgt := 40) hx hb d_MO_goes_33 (by decide) (by omega) (fun h33 => ?_) (fun h33 => ?_)
    · skip
      refine lv_iconst (v := nI 0) hx hb d_MO_goes_40 (by decide) ?_
      exact xw_zret hx hb hr hlocks nz0 hP hS ⟨by rw [hg]; rfl, by rw [hg]; exact hX⟩ d_MO_goes_41
    · skip
      exact absurd h33 (by decide)

set_option maxHeartbeats 4000000 in
set_option maxRecDepth 100000 in
/-- whether a number is 0 .. n - 1 -/
theorem c_MO_below (l : Launch) (D : va_G) (ca : Nat → ClassId) (b : Nat) (C0 : Nat → va_E) {th : Nat} {dts : Nat} {tld : Nat} {fs9 : Nat} {ls9 : Nat} {cn9 : Nat} {lf9 : Nat} {mb9 : Nat} {mwt : Nat → Nat} {mab : Nat → Nat} {mbe : Nat → Nat} {on1 : Nat → Nat} {ot2 : Nat → Nat} {lea : Nat → Nat} {mos : Nat → Nat} {big : Nat → Nat} {wid : Nat → Nat} {yrs : Nat → Nat} (v : Int32) (n : Nat) (hX : MR ca b C0 th dts tld fs9 ls9 cn9 lf9 mb9 mwt mab mbe on1 ot2 lea mos big wid yrs) (hn : n < 2 ^ 31) : Met l y_MO_below (k_MO_below :: gw) ({ frames := 1, cells := 0, slots := 0, locals := 12 }) (xPc D ca b 11 C0 [.int v, .int (nI n)]) (xQ D b 11 (fun r C1 => ∃ z : Bool, r = some (.int (nI z.toNat)) ∧ (z = true ↔ ∃ j, j < n ∧ v = nI j) ∧ MR ca b C1 th dts tld fs9 ls9 cn9 lf9 mb9 mwt mab mbe on1 ot2 lea mos big wid yrs)) 0 0 (xr b 11) := by
  refine Met.ofW (cc := b_MO_below) (maxL := 2) (ret := (some FieldType.boolean)) (by decide) rfl ?_
  intro p e s m args below meth c s₁ B hml hv
  obtain ⟨hav, hP, hK⟩ := hv
  have hx := B.exec
  have hb := B.bytes
  have hr := B.returns
  have hts := atoms_spec (ws := k_MO_below :: gw) B.pre
  have hown : s.vm.findClass R_MO = some m.cls := findClass_of_methodNamed B.named
  have hlocks := B.notSynchronized
  have hA : ∀ k, k < 11 → xr b 11 (b + k) := xr_in
  have hS : va_S (xr b 11) s.heap s.heap [] := va_S.rf
  have hl := lv_entry ([.int v, .int (nI n)]) (n := 2) (Nat.le_of_ble_eq_true rfl)
  rw [hav, lg_entry_eq]
  generalize (lg_sl ([.int v, .int (nI n)]) ++ List.replicate (2 - (lg_sl ([.int v, .int (nI n)])).length) Slot.unset).toArray = ls at hl ⊢
  have hl : lv_has ls 2 [(0, .int v), (1, .int (nI n))] := hl
  rw [← hav]
  refine lv_iload_n hx hb d_MO_below_0 rfl (lv_at hl 0 rfl) ?_
  refine lv_if_lt (tgt := 13) hx hb d_MO_below_1 (by decide) (fun h1 => ?_) (fun h1 => ?_)
  · skip
    refine lv_iconst (v := nI 0) hx hb d_MO_below_13 (by decide) ?_
    exact xw_zret hx hb hr hlocks nz0 hP hS ⟨false, rfl, ⟨fun q => (by cases q), fun ⟨j, q1, q2⟩ => by rw [q2] at h1; exact absurd h1 (nI_pos (by omega))⟩, hX⟩ d_MO_below_14
  · skip
    refine lv_iload_n hx hb d_MO_below_4 rfl (lv_at hl 0 rfl) ?_
    refine lv_iload_n hx hb d_MO_below_5 rfl (lv_at hl 1 rfl) ?_
    refine lv_icmp_ge (tgt := 13) hx hb d_MO_below_6 (by decide) (fun h6 => ?_) (fun h6 => ?_)
    · skip
      refine lv_iconst (v := nI 0) hx hb d_MO_below_13 (by decide) ?_
      exact xw_zret hx hb hr hlocks nz0 hP hS ⟨false, rfl, ⟨fun q => (by cases q), fun ⟨j, q1, q2⟩ => by rw [q2] at h6; exact absurd ((nI_leI hn (by omega)).mp h6) (by omega)⟩, hX⟩ d_MO_below_14
    · skip
      refine lv_iconst (v := nI 1) hx hb d_MO_below_9 (by decide) ?_
      refine lv_goto (tgt := 14) hx hb d_MO_below_10 (by decide) ?_
      exact xw_zret hx hb hr hlocks nz1 hP hS ⟨true, rfl, ⟨fun _ => ((pk_ix v hn).resolve_left h1).resolve_left h6, fun _ => rfl⟩, hX⟩ d_MO_below_14

set_option maxHeartbeats 4000000 in
set_option maxRecDepth 100000 in
/-- whether there is such a date -/
theorem c_MO_isDate (l : Launch) (D : va_G) (ca : Nat → ClassId) (b : Nat) (C0 : Nat → va_E) {th : Nat} {dts : Nat} {tld : Nat} {fs9 : Nat} {ls9 : Nat} {cn9 : Nat} {lf9 : Nat} {mb9 : Nat} {mwt : Nat → Nat} {mab : Nat → Nat} {mbe : Nat → Nat} {on1 : Nat → Nat} {ot2 : Nat → Nat} {lea : Nat → Nat} {mos : Nat → Nat} {big : Nat → Nat} {wid : Nat → Nat} {yrs : Nat → Nat} (v : Int32) (hX : MR ca b C0 th dts tld fs9 ls9 cn9 lf9 mb9 mwt mab mbe on1 ot2 lea mos big wid yrs) (hd6 : dts ≤ 6) : Met l y_MO_isDate (k_MO_isDate :: gw) ({ frames := 2, cells := 0, slots := 0, locals := 33 }) (xPc D ca b 11 C0 [.ref (b + 0), .int v]) (xQ D b 11 (fun r C1 => ∃ z : Bool, r = some (.int (nI z.toNat)) ∧ (z = true ↔ ∃ j, j < dts ∧ v = nI j) ∧ MR ca b C1 th dts tld fs9 ls9 cn9 lf9 mb9 mwt mab mbe on1 ot2 lea mos big wid yrs)) 0 0 (xr b 11) := by
  refine Met.ofW (cc := b_MO_isDate) (maxL := 2) (ret := (some FieldType.boolean)) (by decide) rfl ?_
  intro p e s m args below meth c s₁ B hml hv
  obtain ⟨hav, hP, hK⟩ := hv
  have hx := B.exec
  have hb := B.bytes
  have hr := B.returns
  have hts := atoms_spec (ws := k_MO_isDate :: gw) B.pre
  have hown : s.vm.findClass R_MO = some m.cls := findClass_of_methodNamed B.named
  have hlocks := B.notSynchronized
  have hA : ∀ k, k < 11 → xr b 11 (b + k) := xr_in
  have hS : va_S (xr b 11) s.heap s.heap [] := va_S.rf
  have hl := lv_entry ([.ref (b + 0), .int v]) (n := 2) (Nat.le_of_ble_eq_true rfl)
  rw [hav, lg_entry_eq]
  generalize (lg_sl ([.ref (b + 0), .int v]) ++ List.replicate (2 - (lg_sl ([.ref (b + 0), .int v])).length) Slot.unset).toArray = ls at hl ⊢
  have hl : lv_has ls 2 [(0, .ref (b + 0)), (1, .int v)] := hl
  rw [← hav]
  refine lv_iload_n hx hb d_MO_isDate_0 rfl (lv_at hl 1 rfl) ?_
  refine lv_aload_n hx hb d_MO_isDate_1 rfl (lv_at hl 0 rfl) ?_
  refine xw_get (v := .int (nI dts)) hx hb hts (fun w h => mw (uw_MO w h)) hown hK hP (MR_0 hX) (by decide) rfl 1 (by decide) (hts _ (mw tb_596)) (fun _ h => h) rfl d_MO_isDate_2 ?_
  refine xc_S (n := 2) (As := [.int v, .int (nI dts)]) (rest := []) (st0 := _) hx hb hml hown hts (c_MO_below l D ca b _ v dts hX (by omega)) km_MO_below tb_670 tb_671 tb_7 (by decide +kernel) rfl rfl ⟨Nat.le_of_ble_eq_true rfl, Nat.le_of_ble_eq_true rfl⟩ hK hP rfl hl rfl (Nat.le_of_ble_eq_true rfl) d_MO_isDate_5 ⟨Nat.zero_le _, Nat.zero_le _⟩ hS (fun _ h => h) (fun v C H locs hp hP _ _ hS => ?_)
  obtain ⟨z1, rfl, hz1, hX⟩ := hp
  exact xw_zret hx hb hr hlocks (nzB _) hP hS ⟨z1, rfl, hz1, hX⟩ d_MO_isDate_8

set_option maxHeartbeats 4000000 in
set_option maxRecDepth 100000 in
/-- whether there is such a digit -/
theorem c_MO_isDigit (l : Launch) (D : va_G) (ca : Nat → ClassId) (b : Nat) (C0 : Nat → va_E) {th : Nat} {dts : Nat} {tld : Nat} {fs9 : Nat} {ls9 : Nat} {cn9 : Nat} {lf9 : Nat} {mb9 : Nat} {mwt : Nat → Nat} {mab : Nat → Nat} {mbe : Nat → Nat} {on1 : Nat → Nat} {ot2 : Nat → Nat} {lea : Nat → Nat} {mos : Nat → Nat} {big : Nat → Nat} {wid : Nat → Nat} {yrs : Nat → Nat} (v : Int32) (hX : MR ca b C0 th dts tld fs9 ls9 cn9 lf9 mb9 mwt mab mbe on1 ot2 lea mos big wid yrs)  : Met l y_MO_isDigit (k_MO_isDigit :: gw) ({ frames := 2, cells := 0, slots := 0, locals := 33 }) (xPc D ca b 11 C0 [.int v]) (xQ D b 11 (fun r C1 => ∃ z : Bool, r = some (.int (nI z.toNat)) ∧ (z = true ↔ ∃ j, j < 48 ∧ v = nI j) ∧ MR ca b C1 th dts tld fs9 ls9 cn9 lf9 mb9 mwt mab mbe on1 ot2 lea mos big wid yrs)) 0 0 (xr b 11) := by
  refine Met.ofW (cc := b_MO_isDigit) (maxL := 1) (ret := (some FieldType.boolean)) (by decide) rfl ?_
  intro p e s m args below meth c s₁ B hml hv
  obtain ⟨hav, hP, hK⟩ := hv
  have hx := B.exec
  have hb := B.bytes
  have hr := B.returns
  have hts := atoms_spec (ws := k_MO_isDigit :: gw) B.pre
  have hown : s.vm.findClass R_MO = some m.cls := findClass_of_methodNamed B.named
  have hlocks := B.notSynchronized
  have hA : ∀ k, k < 11 → xr b 11 (b + k) := xr_in
  have hS : va_S (xr b 11) s.heap s.heap [] := va_S.rf
  have hl := lv_entry ([.int v]) (n := 1) (Nat.le_of_ble_eq_true rfl)
  rw [hav, lg_entry_eq]
  generalize (lg_sl ([.int v]) ++ List.replicate (1 - (lg_sl ([.int v])).length) Slot.unset).toArray = ls at hl ⊢
  have hl : lv_has ls 1 [(0, .int v)] := hl
  rw [← hav]
  refine lv_iload_n hx hb d_MO_isDigit_0 rfl (lv_at hl 0 rfl) ?_
  refine lv_bipush (v := nI 48) hx hb d_MO_isDigit_1 (by decide) ?_
  refine xc_S (n := 2) (As := [.int v, .int (nI 48)]) (rest := []) (st0 := _) hx hb hml hown hts (c_MO_below l D ca b _ v 48 hX (by omega)) km_MO_below tb_670 tb_671 tb_7 (by decide +kernel) rfl rfl ⟨Nat.le_of_ble_eq_true rfl, Nat.le_of_ble_eq_true rfl⟩ hK hP rfl hl rfl (Nat.le_of_ble_eq_true rfl) d_MO_isDigit_3 ⟨Nat.zero_le _, Nat.zero_le _⟩ hS (fun _ h => h) (fun v C H locs hp hP _ _ hS => ?_)
  obtain ⟨z1, rfl, hz1, hX⟩ := hp
  exact xw_zret hx hb hr hlocks (nzB _) hP hS ⟨z1, rfl, hz1, hX⟩ d_MO_isDigit_6

set_option maxHeartbeats 4000000 in
set_option maxRecDepth 100000 in
/-- whether a member is told -/
theorem c_MO_isMember (l : Launch) (D : va_G) (ca : Nat → ClassId) (b : Nat) (C0 : Nat → va_E) {th : Nat} {dts : Nat} {tld : Nat} {fs9 : Nat} {ls9 : Nat} {cn9 : Nat} {lf9 : Nat} {mb9 : Nat} {mwt : Nat → Nat} {mab : Nat → Nat} {mbe : Nat → Nat} {on1 : Nat → Nat} {ot2 : Nat → Nat} {lea : Nat → Nat} {mos : Nat → Nat} {big : Nat → Nat} {wid : Nat → Nat} {yrs : Nat → Nat} (k : Nat) (hX : MR ca b C0 th dts tld fs9 ls9 cn9 lf9 mb9 mwt mab mbe on1 ot2 lea mos big wid yrs) (hk : k < 6) (ho1 : on1 k < 6) (ho2 : ot2 k < 6) : Met l y_MO_isMember (k_MO_isMember :: gw) ({ frames := 1, cells := 0, slots := 0, locals := 12 }) (xPc D ca b 11 C0 [.ref (b + 0), .int (nI k)]) (xQ D b 11 (fun r C1 => ∃ z : Bool, r = some (.int (nI z.toNat)) ∧ (z = true ↔ on1 k = ot2 k) ∧ MR ca b C1 th dts tld fs9 ls9 cn9 lf9 mb9 mwt mab mbe on1 ot2 lea mos big wid yrs)) 0 0 (xr b 11) := by
  refine Met.ofW (cc := b_MO_isMember) (maxL := 2) (ret := (some FieldType.boolean)) (by decide) rfl ?_
  intro p e s m args below meth c s₁ B hml hv
  obtain ⟨hav, hP, hK⟩ := hv
  have hx := B.exec
  have hb := B.bytes
  have hr := B.returns
  have hts := atoms_spec (ws := k_MO_isMember :: gw) B.pre
  have hown : s.vm.findClass R_MO = some m.cls := findClass_of_methodNamed B.named
  have hlocks := B.notSynchronized
  have hA : ∀ k, k < 11 → xr b 11 (b + k) := xr_in
  have hS : va_S (xr b 11) s.heap s.heap [] := va_S.rf
  have hl := lv_entry ([.ref (b + 0), .int (nI k)]) (n := 2) (Nat.le_of_ble_eq_true rfl)
  rw [hav, lg_entry_eq]
  generalize (lg_sl ([.ref (b + 0), .int (nI k)]) ++ List.replicate (2 - (lg_sl ([.ref (b + 0), .int (nI k)])).length) Slot.unset).toArray = ls at hl ⊢
  have hl : lv_has ls 2 [(0, .ref (b + 0)), (1, .int (nI k))] := hl
  rw [← hav]
  refine lv_aload_n hx hb d_MO_isMember_0 rfl (lv_at hl 0 rfl) ?_
  refine xw_get (v := .ref (b + 4)) hx hb hts (fun w h => mw (uw_MO w h)) hown hK hP (MR_0 hX) (by decide) rfl 6 (by decide) (hts _ (mw tb_601)) (fun _ h => h) rfl d_MO_isMember_1 ?_
  refine lv_iload_n hx hb d_MO_isMember_4 rfl (lv_at hl 1 rfl) ?_
  refine xw_iald hx hb hK hP 0 (MR_4 hX) (by decide) rfl (by omega) (by decide) d_MO_isMember_5 ?_
  refine lv_aload_n hx hb d_MO_isMember_6 rfl (lv_at hl 0 rfl) ?_
  refine xw_get (v := .ref (b + 5)) hx hb hts (fun w h => mw (uw_MO w h)) hown hK hP (MR_0 hX) (by decide) rfl 7 (by decide) (hts _ (mw tb_602)) (fun _ h => h) rfl d_MO_isMember_7 ?_
  refine lv_iload_n hx hb d_MO_isMember_10 rfl (lv_at hl 1 rfl) ?_
  refine xw_iald hx hb hK hP 0 (MR_5 hX) (by decide) rfl (by omega) (by decide) d_MO_isMember_11 ?_
  refine xi_ne (tgt := 19) hx hb d_MO_isMember_12 (by decide) (by omega) (by omega) (fun h12 => ?_) (fun h12 => ?_)
  · skip
    refine lv_iconst (v := nI 0) hx hb d_MO_isMember_19 (by decide) ?_
    exact xw_zret hx hb hr hlocks nz0 hP hS ⟨false, rfl, ⟨fun q => (by cases q), fun q => absurd q h12⟩, hX⟩ d_MO_isMember_20
  · skip
    refine lv_iconst (v := nI 1) hx hb d_MO_isMember_15 (by decide) ?_
    refine lv_goto (tgt := 20) hx hb d_MO_isMember_16 (by decide) ?_
    exact xw_zret hx hb hr hlocks nz1 hP hS ⟨true, rfl, ⟨fun _ => h12, fun _ => rfl⟩, hX⟩ d_MO_isMember_20

/-- what the Model was told names dates -/
def MOK (on1 ot2 lea mos : Nat → Nat) (tld : Nat) : Prop := tld ≤ 6 ∧ ∀ k, k < tld → on1 k < 6 ∧ ot2 k < 6 ∧ lea k < 12 ∧ mos k < 12
set_option maxHeartbeats 4000000 in
set_option maxRecDepth 100000 in
/-- something is told -/
theorem c_MO_tell (l : Launch) (D : va_G) (ca : Nat → ClassId) (b : Nat) (C0 : Nat → va_E) {th : Nat} {dts : Nat} {tld : Nat} {fs9 : Nat} {ls9 : Nat} {cn9 : Nat} {lf9 : Nat} {mb9 : Nat} {mwt : Nat → Nat} {mab : Nat → Nat} {mbe : Nat → Nat} {on1 : Nat → Nat} {ot2 : Nat → Nat} {lea : Nat → Nat} {mos : Nat → Nat} {big : Nat → Nat} {wid : Nat → Nat} {yrs : Nat → Nat} (x y lo hi : Nat) (hX : MR ca b C0 th dts tld fs9 ls9 cn9 lf9 mb9 mwt mab mbe on1 ot2 lea mos big wid yrs) (ht : tld < 6) : Met l y_MO_tell (k_MO_tell :: gw) ({ frames := 1, cells := 0, slots := 0, locals := 12 }) (xPc D ca b 11 C0 [.ref (b + 0), .int (nI x), .int (nI y), .int (nI lo), .int (nI hi)]) (xQ D b 11 (fun r C1 => r = some (.int (nI tld)) ∧ MR ca b C1 th dts (tld + 1) fs9 ls9 cn9 lf9 mb9 mwt mab mbe (va_up on1 tld x) (va_up ot2 tld y) (va_up lea tld lo) (va_up mos tld hi) big wid yrs)) 0 0 (xr b 11) := by
  refine Met.ofW (cc := b_MO_tell) (maxL := 5) (ret := (some FieldType.int)) (by decide) rfl ?_
  intro p e s m args below meth c s₁ B hml hv
  obtain ⟨hav, hP, hK⟩ := hv
  have hx := B.exec
  have hb := B.bytes
  have hr := B.returns
  have hts := atoms_spec (ws := k_MO_tell :: gw) B.pre
  have hown : s.vm.findClass R_MO = some m.cls := findClass_of_methodNamed B.named
  have hlocks := B.notSynchronized
  have hA : ∀ k, k < 11 → xr b 11 (b + k) := xr_in
  have hS : va_S (xr b 11) s.heap s.heap [] := va_S.rf
  have hl := lv_entry ([.ref (b + 0), .int (nI x), .int (nI y), .int (nI lo), .int (nI hi)]) (n := 5) (Nat.le_of_ble_eq_true rfl)
  rw [hav, lg_entry_eq]
  generalize (lg_sl ([.ref (b + 0), .int (nI x), .int (nI y), .int (nI lo), .int (nI hi)]) ++ List.replicate (5 - (lg_sl ([.ref (b + 0), .int (nI x), .int (nI y), .int (nI lo), .int (nI hi)])).length) Slot.unset).toArray = ls at hl ⊢
  have hl : lv_has ls 5 [(0, .ref (b + 0)), (1, .int (nI x)), (2, .int (nI y)), (3, .int (nI lo)), (4, .int (nI hi))] := hl
  rw [← hav]
  refine lv_aload_n hx hb d_MO_tell_0 rfl (lv_at hl 0 rfl) ?_
  refine xw_get (v := .ref (b + 4)) hx hb hts (fun w h => mw (uw_MO w h)) hown hK hP (MR_0 hX) (by decide) rfl 6 (by decide) (hts _ (mw tb_601)) (fun _ h => h) rfl d_MO_tell_1 ?_
  refine lv_aload_n hx hb d_MO_tell_4 rfl (lv_at hl 0 rfl) ?_
  refine xw_get (v := .int (nI tld)) hx hb hts (fun w h => mw (uw_MO w h)) hown hK hP (MR_0 hX) (by decide) rfl 5 (by decide) (hts _ (mw tb_600)) (fun _ h => h) rfl d_MO_tell_5 ?_
  refine lv_iload_n hx hb d_MO_tell_8 rfl (lv_at hl 1 rfl) ?_
  refine xw_iast hx hb hK hP hA hS 0 (MR_4 hX) (by decide) rfl (by omega) (by decide) d_MO_tell_9 (fun H locs hP hS => ?_)
  have hX := MR_set_on1 (j := tld) (x := x) hX
  generalize va_up _ 4 _ = C at hP hX
  refine lv_aload_n hx hb d_MO_tell_10 rfl (lv_at hl 0 rfl) ?_
  refine xw_get (v := .ref (b + 5)) hx hb hts (fun w h => mw (uw_MO w h)) hown hK hP (MR_0 hX) (by decide) rfl 7 (by decide) (hts _ (mw tb_602)) (fun _ h => h) rfl d_MO_tell_11 ?_
  refine lv_aload_n hx hb d_MO_tell_14 rfl (lv_at hl 0 rfl) ?_
  refine xw_get (v := .int (nI tld)) hx hb hts (fun w h => mw (uw_MO w h)) hown hK hP (MR_0 hX) (by decide) rfl 5 (by decide) (hts _ (mw tb_600)) (fun _ h => h) rfl d_MO_tell_15 ?_
  refine lv_iload_n hx hb d_MO_tell_18 rfl (lv_at hl 2 rfl) ?_
  refine xw_iast hx hb hK hP hA hS 0 (MR_5 hX) (by decide) rfl (by omega) (by decide) d_MO_tell_19 (fun H locs hP hS => ?_)
  have hX := MR_set_ot2 (j := tld) (x := y) hX
  generalize va_up _ 5 _ = C at hP hX
  refine lv_aload_n hx hb d_MO_tell_20 rfl (lv_at hl 0 rfl) ?_
  refine xw_get (v := .ref (b + 6)) hx hb hts (fun w h => mw (uw_MO w h)) hown hK hP (MR_0 hX) (by decide) rfl 8 (by decide) (hts _ (mw tb_603)) (fun _ h => h) rfl d_MO_tell_21 ?_
  refine lv_aload_n hx hb d_MO_tell_24 rfl (lv_at hl 0 rfl) ?_
  refine xw_get (v := .int (nI tld)) hx hb hts (fun w h => mw (uw_MO w h)) hown hK hP (MR_0 hX) (by decide) rfl 5 (by decide) (hts _ (mw tb_600)) (fun _ h => h) rfl d_MO_tell_25 ?_
  refine lv_iload_n hx hb d_MO_tell_28 rfl (lv_at hl 3 rfl) ?_
  refine xw_iast hx hb hK hP hA hS 0 (MR_6 hX) (by decide) rfl (by omega) (by decide) d_MO_tell_29 (fun H locs hP hS => ?_)
  have hX := MR_set_lea (j := tld) (x := lo) hX
  generalize va_up _ 6 _ = C at hP hX
  refine lv_aload_n hx hb d_MO_tell_30 rfl (lv_at hl 0 rfl) ?_
  refine xw_get (v := .ref (b + 7)) hx hb hts (fun w h => mw (uw_MO w h)) hown hK hP (MR_0 hX) (by decide) rfl 9 (by decide) (hts _ (mw tb_604)) (fun _ h => h) rfl d_MO_tell_31 ?_
  refine lv_aload_n hx hb d_MO_tell_34 rfl (lv_at hl 0 rfl) ?_
  refine xw_get (v := .int (nI tld)) hx hb hts (fun w h => mw (uw_MO w h)) hown hK hP (MR_0 hX) (by decide) rfl 5 (by decide) (hts _ (mw tb_600)) (fun _ h => h) rfl d_MO_tell_35 ?_
  refine lv_iload hx hb d_MO_tell_38 (lv_at hl 4 rfl) ?_
  refine xw_iast hx hb hK hP hA hS 0 (MR_7 hX) (by decide) rfl (by omega) (by decide) d_MO_tell_40 (fun H locs hP hS => ?_)
  have hX := MR_set_mos (j := tld) (x := hi) hX
  generalize va_up _ 7 _ = C at hP hX
  refine lv_aload_n hx hb d_MO_tell_41 rfl (lv_at hl 0 rfl) ?_
  refine lv_dup hx hb d_MO_tell_42 rfl ?_
  refine xw_get (v := .int (nI tld)) hx hb hts (fun w h => mw (uw_MO w h)) hown hK hP (MR_0 hX) (by decide) rfl 5 (by decide) (hts _ (mw tb_600)) (fun _ h => h) rfl d_MO_tell_43 ?_
  refine lv_iconst (v := nI 1) hx hb d_MO_tell_46 (by decide) ?_
  refine lv_iadd hx hb d_MO_tell_47 ?_
  refine ti (nI (tld + 1)) (nI_add _ _) ?_
  refine xw_put (v := .int (nI (tld + 1))) (ty := t_MO 5) hx hb hts (fun w h => mw (uw_MO w h)) t_MO t_MO_ok n_MO hown hK hP hA hS (MR_0 hX) (by decide) rfl 5 (by decide) (hts _ (mw tb_600)) (fun _ h => h) rfl (by decide +kernel) rfl rfl (Nat.le_of_ble_eq_true rfl) d_MO_tell_48 (fun H locs hP hS => ?_)
  have hX := MR_set_tld (x1 := tld + 1) hX
  generalize va_up _ 0 _ = C at hP hX
  refine lv_aload_n hx hb d_MO_tell_51 rfl (lv_at hl 0 rfl) ?_
  refine xw_get (v := .int (nI (tld + 1))) hx hb hts (fun w h => mw (uw_MO w h)) hown hK hP (MR_0 hX) (by decide) rfl 5 (by decide) (hts _ (mw tb_600)) (fun _ h => h) rfl d_MO_tell_52 ?_
  refine lv_iconst (v := nI 1) hx hb d_MO_tell_55 (by decide) ?_
  refine lv_isub hx hb d_MO_tell_56 ?_
  refine ti (nI ((tld + 1) - 1)) (pk_sub (by omega)) ?_
  exact xw_iret hx hb hr hlocks hP hS ⟨rfl, hX⟩ d_MO_tell_57

set_option maxHeartbeats 4000000 in
set_option maxRecDepth 100000 in
/-- what a year counts for a date -/
theorem c_MO_worth (l : Launch) (D : va_G) (ca : Nat → ClassId) (b : Nat) (C0 : Nat → va_E) {th : Nat} {dts : Nat} {tld : Nat} {fs9 : Nat} {ls9 : Nat} {cn9 : Nat} {lf9 : Nat} {mb9 : Nat} {mwt : Nat → Nat} {mab : Nat → Nat} {mbe : Nat → Nat} {on1 : Nat → Nat} {ot2 : Nat → Nat} {lea : Nat → Nat} {mos : Nat → Nat} {big : Nat → Nat} {wid : Nat → Nat} {yrs : Nat → Nat} (d y : Nat) (hX : MR ca b C0 th dts tld fs9 ls9 cn9 lf9 mb9 mwt mab mbe on1 ot2 lea mos big wid yrs) (hd : d < 6) (hy : y < 12) (hab : mab d ≤ mbe d) : Met l y_MO_worth (k_MO_worth :: gw) ({ frames := 1, cells := 0, slots := 0, locals := 12 }) (xPc D ca b 11 C0 [.ref (b + 0), .int (nI d), .int (nI y)]) (xQ D b 11 (fun r C1 => r = some (.int (nI ((mbe d - mab d) * 12 * mwt (12 * d + y) + mab d * sm (fun k => mwt (12 * d + k)) 12))) ∧ MR ca b C1 th dts tld fs9 ls9 cn9 lf9 mb9 mwt mab mbe on1 ot2 lea mos big wid yrs)) 0 0 (xr b 11) := by
  refine Met.ofW (cc := b_MO_worth) (maxL := 5) (ret := (some FieldType.int)) (by decide) rfl ?_
  intro p e s m args below meth c s₁ B hml hv
  obtain ⟨hav, hP, hK⟩ := hv
  have hx := B.exec
  have hb := B.bytes
  have hr := B.returns
  have hts := atoms_spec (ws := k_MO_worth :: gw) B.pre
  have hown : s.vm.findClass R_MO = some m.cls := findClass_of_methodNamed B.named
  have hlocks := B.notSynchronized
  have hA : ∀ k, k < 11 → xr b 11 (b + k) := xr_in
  have hS : va_S (xr b 11) s.heap s.heap [] := va_S.rf
  have hl := lv_entry ([.ref (b + 0), .int (nI d), .int (nI y)]) (n := 5) (Nat.le_of_ble_eq_true rfl)
  rw [hav, lg_entry_eq]
  generalize (lg_sl ([.ref (b + 0), .int (nI d), .int (nI y)]) ++ List.replicate (5 - (lg_sl ([.ref (b + 0), .int (nI d), .int (nI y)])).length) Slot.unset).toArray = ls at hl ⊢
  have hl : lv_has ls 5 [(0, .ref (b + 0)), (1, .int (nI d)), (2, .int (nI y))] := hl
  rw [← hav]
  refine lv_iconst (v := nI 0) hx hb d_MO_worth_0 (by decide) ?_
  refine lv_istore_n (lv' := [(3, .int (nI 0)), (0, .ref (b + 0)), (1, .int (nI d)), (2, .int (nI y))]) hx hb d_MO_worth_1 rfl hl (by decide) rfl (fun ls hl => ?_)
  refine lv_iconst (v := nI 0) hx hb d_MO_worth_2 (by decide) ?_
  refine lv_istore (lv' := [(4, .int (nI 0)), (3, .int (nI 0)), (0, .ref (b + 0)), (1, .int (nI d)), (2, .int (nI y))]) hx hb d_MO_worth_3 hl (by decide) rfl (fun ls hl => ?_)
  have loop5 : ∀ (r : Nat) (i : Nat) (C : Nat → va_E) (H : Heap) (locs : List Loc) (ls : Array Slot), 12 < i + r → i ≤ 12 → va_P D classes (wl b 11 C) H → va_S (xr b 11) s.heap H locs → MR ca b C th dts tld fs9 ls9 cn9 lf9 mb9 mwt mab mbe on1 ot2 lea mos big wid yrs → lv_has ls 5 [(0, .ref (b + 0)), (1, .int (nI d)), (2, .int (nI y)), (3, .int (nI (sm (fun k => mwt (12 * d + k)) i))), (4, .int (nI i))] → W p l e (headSpec (k_MO_worth :: gw) ({ frames := 1, cells := 0, slots := 0, locals := 12 })).room s m args below meth c H locs 0 0 (MQ below (xQ D b 11 (fun r C1 => r = some (.int (nI ((mbe d - mab d) * 12 * mwt (12 * d + y) + mab d * sm (fun k => mwt (12 * d + k)) 12))) ∧ MR ca b C1 th dts tld fs9 ls9 cn9 lf9 mb9 mwt mab mbe on1 ot2 lea mos big wid yrs)) args s 0 0 (xr b 11)) (F0 m 5 ls []) := by
    intro r
    induction r with
    | zero => intro i C H locs ls hms hi; exact absurd hms (by omega)
    | succ r ih5 =>
      intro i C H locs ls hms hi hP hS hX hl
      refine lv_iload hx hb d_MO_worth_5 (lv_at hl 4 rfl) ?_
      refine lv_bipush (v := nI 12) hx hb d_MO_worth_7 (by decide) ?_
      refine xi_ge (tgt := 33) hx hb d_MO_worth_9 (by decide) (by omega) (by omega) (fun h9 => ?_) (fun h9 => ?_)
      · skip
        refine lv_aload_n hx hb d_MO_worth_33 rfl (lv_at hl 0 rfl) ?_
        refine xw_get (v := .ref (b + 3)) hx hb hts (fun w h => mw (uw_MO w h)) hown hK hP (MR_0 hX) (by decide) rfl 4 (by decide) (hts _ (mw tb_599)) (fun _ h => h) rfl d_MO_worth_34 ?_
        refine lv_iload_n hx hb d_MO_worth_37 rfl (lv_at hl 1 rfl) ?_
        refine xw_iald hx hb hK hP 0 (MR_3 hX) (by decide) rfl (by omega) (by decide) d_MO_worth_38 ?_
        refine lv_aload_n hx hb d_MO_worth_39 rfl (lv_at hl 0 rfl) ?_
        refine xw_get (v := .ref (b + 2)) hx hb hts (fun w h => mw (uw_MO w h)) hown hK hP (MR_0 hX) (by decide) rfl 3 (by decide) (hts _ (mw tb_598)) (fun _ h => h) rfl d_MO_worth_40 ?_
        refine lv_iload_n hx hb d_MO_worth_43 rfl (lv_at hl 1 rfl) ?_
        refine xw_iald hx hb hK hP 0 (MR_2 hX) (by decide) rfl (by omega) (by decide) d_MO_worth_44 ?_
        refine lv_isub hx hb d_MO_worth_45 ?_
        refine ti (nI ((mbe d) - (mab d))) (pk_sub (by omega)) ?_
        refine lv_bipush (v := nI 12) hx hb d_MO_worth_46 (by decide) ?_
        refine lv_imul hx hb d_MO_worth_48 ?_
        refine ti (nI (((mbe d) - (mab d)) * 12)) (pk_mul _ _) ?_
        refine lv_aload_n hx hb d_MO_worth_49 rfl (lv_at hl 0 rfl) ?_
        refine xw_get (v := .ref (b + 1)) hx hb hts (fun w h => mw (uw_MO w h)) hown hK hP (MR_0 hX) (by decide) rfl 2 (by decide) (hts _ (mw tb_597)) (fun _ h => h) rfl d_MO_worth_50 ?_
        refine lv_bipush (v := nI 12) hx hb d_MO_worth_53 (by decide) ?_
        refine lv_iload_n hx hb d_MO_worth_55 rfl (lv_at hl 1 rfl) ?_
        refine lv_imul hx hb d_MO_worth_56 ?_
        refine ti (nI (12 * d)) (pk_mul _ _) ?_
        refine lv_iload_n hx hb d_MO_worth_57 rfl (lv_at hl 2 rfl) ?_
        refine lv_iadd hx hb d_MO_worth_58 ?_
        refine ti (nI ((12 * d) + y)) (nI_add _ _) ?_
        refine xw_iald hx hb hK hP 0 (MR_1 hX) (by decide) rfl (by omega) (by decide) d_MO_worth_59 ?_
        refine lv_imul hx hb d_MO_worth_60 ?_
        refine ti (nI ((((mbe d) - (mab d)) * 12) * (mwt ((12 * d) + y)))) (pk_mul _ _) ?_
        refine lv_aload_n hx hb d_MO_worth_61 rfl (lv_at hl 0 rfl) ?_
        refine xw_get (v := .ref (b + 2)) hx hb hts (fun w h => mw (uw_MO w h)) hown hK hP (MR_0 hX) (by decide) rfl 3 (by decide) (hts _ (mw tb_598)) (fun _ h => h) rfl d_MO_worth_62 ?_
        refine lv_iload_n hx hb d_MO_worth_65 rfl (lv_at hl 1 rfl) ?_
        refine xw_iald hx hb hK hP 0 (MR_2 hX) (by decide) rfl (by omega) (by decide) d_MO_worth_66 ?_
        refine lv_iload_n hx hb d_MO_worth_67 rfl (lv_at hl 3 rfl) ?_
        refine lv_imul hx hb d_MO_worth_68 ?_
        refine ti (nI ((mab d) * (sm (fun k => mwt (12 * d + k)) i))) (pk_mul _ _) ?_
        refine lv_iadd hx hb d_MO_worth_69 ?_
        refine ti (nI (((((mbe d) - (mab d)) * 12) * (mwt ((12 * d) + y))) + ((mab d) * (sm (fun k => mwt (12 * d + k)) i)))) (nI_add _ _) ?_
        exact xw_iret hx hb hr hlocks hP hS ⟨by rw [show i = 12 by omega], hX⟩ d_MO_worth_70
      · skip
        refine lv_iload_n hx hb d_MO_worth_12 rfl (lv_at hl 3 rfl) ?_
        refine lv_aload_n hx hb d_MO_worth_13 rfl (lv_at hl 0 rfl) ?_
        refine xw_get (v := .ref (b + 1)) hx hb hts (fun w h => mw (uw_MO w h)) hown hK hP (MR_0 hX) (by decide) rfl 2 (by decide) (hts _ (mw tb_597)) (fun _ h => h) rfl d_MO_worth_14 ?_
        refine lv_bipush (v := nI 12) hx hb d_MO_worth_17 (by decide) ?_
        refine lv_iload_n hx hb d_MO_worth_19 rfl (lv_at hl 1 rfl) ?_
        refine lv_imul hx hb d_MO_worth_20 ?_
        refine ti (nI (12 * d)) (pk_mul _ _) ?_
        refine lv_iload hx hb d_MO_worth_21 (lv_at hl 4 rfl) ?_
        refine lv_iadd hx hb d_MO_worth_23 ?_
        refine ti (nI ((12 * d) + i)) (nI_add _ _) ?_
        refine xw_iald hx hb hK hP 0 (MR_1 hX) (by decide) rfl (by omega) (by decide) d_MO_worth_24 ?_
        refine lv_iadd hx hb d_MO_worth_25 ?_
        refine ti (nI ((sm (fun k => mwt (12 * d + k)) i) + (mwt ((12 * d) + i)))) (nI_add _ _) ?_
        refine lv_istore_n (lv' := [(3, .int (nI ((sm (fun k => mwt (12 * d + k)) i) + (mwt ((12 * d) + i))))), (0, .ref (b + 0)), (1, .int (nI d)), (2, .int (nI y)), (4, .int (nI i))]) hx hb d_MO_worth_26 rfl hl (by decide) rfl (fun ls hl => ?_)
        refine lv_iinc (v := nI (i + 1)) (lv' := [(4, .int (nI (i + 1))), (3, .int (nI ((sm (fun k => mwt (12 * d + k)) i) + (mwt ((12 * d) + i))))), (0, .ref (b + 0)), (1, .int (nI d)), (2, .int (nI y))]) hx hb d_MO_worth_27 hl (k := 4) rfl (show nI i + Int32.ofInt 1 = nI (i + 1) from nI_add _ _) (by decide) rfl (fun ls hl => ?_)
        refine lv_goto (tgt := 5) hx hb d_MO_worth_30 (by decide) ?_
        exact ih5 (i + 1) _ _ _ _ (by omega) (by omega) hP hS hX (lv_sub hl [2, 3, 4, 1, 0] rfl)
  exact loop5 13 0 _ _ _ _ (by omega) (by omega) hP hS hX (lv_sub hl [2, 3, 4, 1, 0] rfl)

set_option maxHeartbeats 4000000 in
set_option maxRecDepth 100000 in
/-- whether something counts -/
theorem c_MO_counted (l : Launch) (D : va_G) (ca : Nat → ClassId) (b : Nat) (C0 : Nat → va_E) {th : Nat} {dts : Nat} {tld : Nat} {fs9 : Nat} {ls9 : Nat} {cn9 : Nat} {lf9 : Nat} {mb9 : Nat} {mwt : Nat → Nat} {mab : Nat → Nat} {mbe : Nat → Nat} {on1 : Nat → Nat} {ot2 : Nat → Nat} {lea : Nat → Nat} {mos : Nat → Nat} {big : Nat → Nat} {wid : Nat → Nat} {yrs : Nat → Nat} (k : Nat) (hX : MR ca b C0 th dts tld fs9 ls9 cn9 lf9 mb9 mwt mab mbe on1 ot2 lea mos big wid yrs) (hk : k < 6) (hc : cn9 < 2 ^ 31) : Met l y_MO_counted (k_MO_counted :: gw) ({ frames := 1, cells := 0, slots := 0, locals := 12 }) (xPc D ca b 11 C0 [.ref (b + 0), .int (nI k)]) (xQ D b 11 (fun r C1 => ∃ z : Bool, r = some (.int (nI z.toNat)) ∧ (z = true ↔ cn9.testBit k = true) ∧ MR ca b C1 th dts tld fs9 ls9 cn9 lf9 mb9 mwt mab mbe on1 ot2 lea mos big wid yrs)) 0 0 (xr b 11) := by
  refine Met.ofW (cc := b_MO_counted) (maxL := 2) (ret := (some FieldType.boolean)) (by decide) rfl ?_
  intro p e s m args below meth c s₁ B hml hv
  obtain ⟨hav, hP, hK⟩ := hv
  have hx := B.exec
  have hb := B.bytes
  have hr := B.returns
  have hts := atoms_spec (ws := k_MO_counted :: gw) B.pre
  have hown : s.vm.findClass R_MO = some m.cls := findClass_of_methodNamed B.named
  have hlocks := B.notSynchronized
  have hA : ∀ k, k < 11 → xr b 11 (b + k) := xr_in
  have hS : va_S (xr b 11) s.heap s.heap [] := va_S.rf
  have hl := lv_entry ([.ref (b + 0), .int (nI k)]) (n := 2) (Nat.le_of_ble_eq_true rfl)
  rw [hav, lg_entry_eq]
  generalize (lg_sl ([.ref (b + 0), .int (nI k)]) ++ List.replicate (2 - (lg_sl ([.ref (b + 0), .int (nI k)])).length) Slot.unset).toArray = ls at hl ⊢
  have hl : lv_has ls 2 [(0, .ref (b + 0)), (1, .int (nI k))] := hl
  rw [← hav]
  refine lv_aload_n hx hb d_MO_counted_0 rfl (lv_at hl 0 rfl) ?_
  refine xw_get (v := .int (nI cn9)) hx hb hts (fun w h => mw (uw_MO w h)) hown hK hP (MR_0 hX) (by decide) rfl 15 (by decide) (hts _ (mw tb_610)) (fun _ h => h) rfl d_MO_counted_1 ?_
  refine lv_iload_n hx hb d_MO_counted_4 rfl (lv_at hl 1 rfl) ?_
  refine lv_ishr hx hb d_MO_counted_5 ?_
  refine ti (nI (cn9 / 2 ^ k)) (shr1 (by omega) (by omega)) ?_
  refine lv_iconst (v := nI 1) hx hb d_MO_counted_6 (by decide) ?_
  refine lv_iand hx hb d_MO_counted_7 ?_
  refine ti (nI ((cn9 / 2 ^ k) % 2)) (and1 _) ?_
  refine lv_iconst (v := nI 1) hx hb d_MO_counted_8 (by decide) ?_
  refine xi_ne (tgt := 16) hx hb d_MO_counted_9 (by decide) (by omega) (by omega) (fun h9 => ?_) (fun h9 => ?_)
  · skip
    refine lv_iconst (v := nI 0) hx hb d_MO_counted_16 (by decide) ?_
    exact xw_zret hx hb hr hlocks nz0 hP hS ⟨false, rfl, ⟨fun q => (by cases q), fun q => absurd (tbit.mpr q) h9⟩, hX⟩ d_MO_counted_17
  · skip
    refine lv_iconst (v := nI 1) hx hb d_MO_counted_12 (by decide) ?_
    refine lv_goto (tgt := 17) hx hb d_MO_counted_13 (by decide) ?_
    exact xw_zret hx hb hr hlocks nz1 hP hS ⟨true, rfl, ⟨fun _ => tbit.mp h9, fun _ => rfl⟩, hX⟩ d_MO_counted_17

set_option maxHeartbeats 4000000 in
set_option maxRecDepth 100000 in
/-- all years, bounds and tellings are open -/
theorem c_MO_open (l : Launch) (D : va_G) (ca : Nat → ClassId) (b : Nat) (C0 : Nat → va_E) {th : Nat} {dts : Nat} {tld : Nat} {fs9 : Nat} {ls9 : Nat} {cn9 : Nat} {lf9 : Nat} {mb9 : Nat} {mwt : Nat → Nat} {mab : Nat → Nat} {mbe : Nat → Nat} {on1 : Nat → Nat} {ot2 : Nat → Nat} {lea : Nat → Nat} {mos : Nat → Nat} {big : Nat → Nat} {wid : Nat → Nat} {yrs : Nat → Nat}  (hX : MR ca b C0 th dts tld fs9 ls9 cn9 lf9 mb9 mwt mab mbe on1 ot2 lea mos big wid yrs) (ht : tld ≤ 6) : Met l y_MO_open (k_MO_open :: gw) ({ frames := 1, cells := 0, slots := 0, locals := 12 }) (xPc D ca b 11 C0 [.ref (b + 0)]) (xQ D b 11 (fun r C1 => r = none ∧ MR ca b C1 th dts tld 4095 4095 (2 ^ tld - 1) lf9 mb9 mwt mab mbe on1 ot2 lea mos big wid (upto 6 (fun _ => 4095) yrs))) 0 0 (xr b 11) := by
  refine Met.ofW (cc := b_MO_open) (maxL := 2) (ret := none) (by decide) rfl ?_
  intro p e s m args below meth c s₁ B hml hv
  obtain ⟨hav, hP, hK⟩ := hv
  have hx := B.exec
  have hb := B.bytes
  have hr := B.returns
  have hts := atoms_spec (ws := k_MO_open :: gw) B.pre
  have hown : s.vm.findClass R_MO = some m.cls := findClass_of_methodNamed B.named
  have hlocks := B.notSynchronized
  have hA : ∀ k, k < 11 → xr b 11 (b + k) := xr_in
  have hS : va_S (xr b 11) s.heap s.heap [] := va_S.rf
  have hl := lv_entry ([.ref (b + 0)]) (n := 2) (Nat.le_of_ble_eq_true rfl)
  rw [hav, lg_entry_eq]
  generalize (lg_sl ([.ref (b + 0)]) ++ List.replicate (2 - (lg_sl ([.ref (b + 0)])).length) Slot.unset).toArray = ls at hl ⊢
  have hl : lv_has ls 2 [(0, .ref (b + 0))] := hl
  rw [← hav]
  refine lv_iconst (v := nI 0) hx hb d_MO_open_0 (by decide) ?_
  refine lv_istore_n (lv' := [(1, .int (nI 0)), (0, .ref (b + 0))]) hx hb d_MO_open_1 rfl hl (by decide) rfl (fun ls hl => ?_)
  have loop2 : ∀ (r : Nat) (i : Nat) (C : Nat → va_E) (H : Heap) (locs : List Loc) (ls : Array Slot), 6 < i + r → i ≤ 6 → va_P D classes (wl b 11 C) H → va_S (xr b 11) s.heap H locs → MR ca b C th dts tld fs9 ls9 cn9 lf9 mb9 mwt mab mbe on1 ot2 lea mos big wid (upto i (fun _ => 4095) yrs) → lv_has ls 2 [(0, .ref (b + 0)), (1, .int (nI i))] → W p l e (headSpec (k_MO_open :: gw) ({ frames := 1, cells := 0, slots := 0, locals := 12 })).room s m args below meth c H locs 0 0 (MQ below (xQ D b 11 (fun r C1 => r = none ∧ MR ca b C1 th dts tld 4095 4095 (2 ^ tld - 1) lf9 mb9 mwt mab mbe on1 ot2 lea mos big wid (upto 6 (fun _ => 4095) yrs))) args s 0 0 (xr b 11)) (F0 m 2 ls []) := by
    intro r
    induction r with
    | zero => intro i C H locs ls hms hi; exact absurd hms (by omega)
    | succ r ih2 =>
      intro i C H locs ls hms hi hP hS hX hl
      refine lv_iload_n hx hb d_MO_open_2 rfl (lv_at hl 1 rfl) ?_
      refine lv_bipush (v := nI 6) hx hb d_MO_open_3 (by decide) ?_
      refine xi_ge (tgt := 23) hx hb d_MO_open_5 (by decide) (by omega) (by omega) (fun h5 => ?_) (fun h5 => ?_)
      · skip
        have ei : i = 6 := by omega
        rw [ei] at hX
        have h2p : 0 < 2 ^ tld := Nat.pow_pos (by decide)
        refine lv_aload_n hx hb d_MO_open_23 rfl (lv_at hl 0 rfl) ?_
        refine lv_sipush (v := nI 4095) hx hb d_MO_open_24 (by decide) ?_
        refine xw_put (v := .int (nI 4095)) (ty := t_MO 13) hx hb hts (fun w h => mw (uw_MO w h)) t_MO t_MO_ok n_MO hown hK hP hA hS (MR_0 hX) (by decide) rfl 13 (by decide) (hts _ (mw tb_608)) (fun _ h => h) rfl (by decide +kernel) rfl rfl (Nat.le_of_ble_eq_true rfl) d_MO_open_27 (fun H locs hP hS => ?_)
        have hX := MR_set_fs9 (x1 := 4095) hX
        generalize va_up _ 0 _ = C at hP hX
        refine lv_aload_n hx hb d_MO_open_30 rfl (lv_at hl 0 rfl) ?_
        refine lv_sipush (v := nI 4095) hx hb d_MO_open_31 (by decide) ?_
        refine xw_put (v := .int (nI 4095)) (ty := t_MO 14) hx hb hts (fun w h => mw (uw_MO w h)) t_MO t_MO_ok n_MO hown hK hP hA hS (MR_0 hX) (by decide) rfl 14 (by decide) (hts _ (mw tb_609)) (fun _ h => h) rfl (by decide +kernel) rfl rfl (Nat.le_of_ble_eq_true rfl) d_MO_open_34 (fun H locs hP hS => ?_)
        have hX := MR_set_ls9 (x1 := 4095) hX
        generalize va_up _ 0 _ = C at hP hX
        refine lv_aload_n hx hb d_MO_open_37 rfl (lv_at hl 0 rfl) ?_
        refine lv_iconst (v := nI 1) hx hb d_MO_open_38 (by decide) ?_
        refine lv_aload_n hx hb d_MO_open_39 rfl (lv_at hl 0 rfl) ?_
        refine xw_get (v := .int (nI tld)) hx hb hts (fun w h => mw (uw_MO w h)) hown hK hP (MR_0 hX) (by decide) rfl 5 (by decide) (hts _ (mw tb_600)) (fun _ h => h) rfl d_MO_open_40 ?_
        refine lv_ishl hx hb d_MO_open_43 ?_
        refine ti (nI (2 ^ tld)) (sh1 (by omega)) ?_
        refine lv_iconst (v := nI 1) hx hb d_MO_open_44 (by decide) ?_
        refine lv_isub hx hb d_MO_open_45 ?_
        refine ti (nI ((2 ^ tld) - 1)) (pk_sub (by omega)) ?_
        refine xw_put (v := .int (nI ((2 ^ tld) - 1))) (ty := t_MO 15) hx hb hts (fun w h => mw (uw_MO w h)) t_MO t_MO_ok n_MO hown hK hP hA hS (MR_0 hX) (by decide) rfl 15 (by decide) (hts _ (mw tb_610)) (fun _ h => h) rfl (by decide +kernel) rfl rfl (Nat.le_of_ble_eq_true rfl) d_MO_open_46 (fun H locs hP hS => ?_)
        have hX := MR_set_cn9 (x1 := (2 ^ tld) - 1) hX
        generalize va_up _ 0 _ = C at hP hX
        exact xw_vret hx hb hr hlocks hP hS ⟨rfl, hX⟩ d_MO_open_49
      · skip
        refine lv_aload_n hx hb d_MO_open_8 rfl (lv_at hl 0 rfl) ?_
        refine xw_get (v := .ref (b + 10)) hx hb hts (fun w h => mw (uw_MO w h)) hown hK hP (MR_0 hX) (by decide) rfl 12 (by decide) (hts _ (mw tb_607)) (fun _ h => h) rfl d_MO_open_9 ?_
        refine lv_iload_n hx hb d_MO_open_12 rfl (lv_at hl 1 rfl) ?_
        refine lv_sipush (v := nI 4095) hx hb d_MO_open_13 (by decide) ?_
        refine xw_iast hx hb hK hP hA hS 0 (MR_10 hX) (by decide) rfl (by omega) (by decide) d_MO_open_16 (fun H locs hP hS => ?_)
        have hX := MR_set_yrs (j := i) (x := 4095) hX
        generalize va_up _ 10 _ = C at hP hX
        refine lv_iinc (v := nI (i + 1)) (lv' := [(1, .int (nI (i + 1))), (0, .ref (b + 0))]) hx hb d_MO_open_17 hl (k := 1) rfl (show nI i + Int32.ofInt 1 = nI (i + 1) from nI_add _ _) (by decide) rfl (fun ls hl => ?_)
        refine lv_goto (tgt := 2) hx hb d_MO_open_20 (by decide) ?_
        have hX : MR ca b C th dts tld fs9 ls9 cn9 lf9 mb9 mwt mab mbe on1 ot2 lea mos big wid (upto (i + 1) (fun _ => 4095) yrs) := by rw [← upto_s i (fun _ => 4095) yrs]; exact hX
        exact ih2 (i + 1) _ _ _ _ (by omega) (by omega) hP hS hX (lv_sub hl [1, 0] rfl)
  rw [← upto_0 (fun _ => 4095) yrs] at hX
  exact loop2 7 0 _ _ _ _ (by omega) (by omega) hP hS hX (lv_sub hl [1, 0] rfl)

/-- how many rows are left at a date -/
def rO (on1 ot2 : Nat → Nat) (lf9 d : Nat) : Nat → Nat := sm (fun k => if lf9.testBit k = true ∧ (on1 k = d ∨ ot2 k = d) then 1 else 0)
theorem rO_le (on1 ot2 : Nat → Nat) (lf9 d n : Nat) : rO on1 ot2 lf9 d n ≤ n := by
  induction n with
  | zero => exact Nat.le_refl _
  | succ n ih =>
    show rO on1 ot2 lf9 d n + (if _ then 1 else 0) ≤ n + 1
    split <;> omega
theorem rO_t {on1 ot2 : Nat → Nat} {lf9 d n : Nat} (h : lf9.testBit n = true ∧ (on1 n = d ∨ ot2 n = d)) : rO on1 ot2 lf9 d (n + 1) = rO on1 ot2 lf9 d n + 1 := by
  show rO on1 ot2 lf9 d n + (if _ then 1 else 0) = _
  rw [if_pos h]
theorem rO_f {on1 ot2 : Nat → Nat} {lf9 d n : Nat} (h : ¬ (lf9.testBit n = true ∧ (on1 n = d ∨ ot2 n = d))) : rO on1 ot2 lf9 d (n + 1) = rO on1 ot2 lf9 d n := by
  show rO on1 ot2 lf9 d n + (if _ then 1 else 0) = _
  rw [if_neg h]; rfl
set_option maxHeartbeats 4000000 in
set_option maxRecDepth 100000 in
/-- how many rows are left at a date -/
theorem c_MO_rowsOf (l : Launch) (D : va_G) (ca : Nat → ClassId) (b : Nat) (C0 : Nat → va_E) {th : Nat} {dts : Nat} {tld : Nat} {fs9 : Nat} {ls9 : Nat} {cn9 : Nat} {lf9 : Nat} {mb9 : Nat} {mwt : Nat → Nat} {mab : Nat → Nat} {mbe : Nat → Nat} {on1 : Nat → Nat} {ot2 : Nat → Nat} {lea : Nat → Nat} {mos : Nat → Nat} {big : Nat → Nat} {wid : Nat → Nat} {yrs : Nat → Nat} (d : Nat) (hX : MR ca b C0 th dts tld fs9 ls9 cn9 lf9 mb9 mwt mab mbe on1 ot2 lea mos big wid yrs) (hM : MOK on1 ot2 lea mos tld) (hd : d < 6) (hlf : lf9 < 2 ^ 31) : Met l y_MO_rowsOf (k_MO_rowsOf :: gw) ({ frames := 1, cells := 0, slots := 0, locals := 12 }) (xPc D ca b 11 C0 [.ref (b + 0), .int (nI d)]) (xQ D b 11 (fun r C1 => r = some (.int (nI (rO on1 ot2 lf9 d tld))) ∧ MR ca b C1 th dts tld fs9 ls9 cn9 lf9 mb9 mwt mab mbe on1 ot2 lea mos big wid yrs)) 0 0 (xr b 11) := by
  refine Met.ofW (cc := b_MO_rowsOf) (maxL := 4) (ret := (some FieldType.int)) (by decide) rfl ?_
  intro p e s m args below meth c s₁ B hml hv
  obtain ⟨hav, hP, hK⟩ := hv
  have hx := B.exec
  have hb := B.bytes
  have hr := B.returns
  have hts := atoms_spec (ws := k_MO_rowsOf :: gw) B.pre
  have hown : s.vm.findClass R_MO = some m.cls := findClass_of_methodNamed B.named
  have hlocks := B.notSynchronized
  have hA : ∀ k, k < 11 → xr b 11 (b + k) := xr_in
  have hS : va_S (xr b 11) s.heap s.heap [] := va_S.rf
  have hl := lv_entry ([.ref (b + 0), .int (nI d)]) (n := 4) (Nat.le_of_ble_eq_true rfl)
  rw [hav, lg_entry_eq]
  generalize (lg_sl ([.ref (b + 0), .int (nI d)]) ++ List.replicate (4 - (lg_sl ([.ref (b + 0), .int (nI d)])).length) Slot.unset).toArray = ls at hl ⊢
  have hl : lv_has ls 4 [(0, .ref (b + 0)), (1, .int (nI d))] := hl
  rw [← hav]
  have hM6 := hM.1
  refine lv_iconst (v := nI 0) hx hb d_MO_rowsOf_0 (by decide) ?_
  refine lv_istore_n (lv' := [(2, .int (nI 0)), (0, .ref (b + 0)), (1, .int (nI d))]) hx hb d_MO_rowsOf_1 rfl hl (by decide) rfl (fun ls hl => ?_)
  refine lv_iconst (v := nI 0) hx hb d_MO_rowsOf_2 (by decide) ?_
  refine lv_istore_n (lv' := [(3, .int (nI 0)), (2, .int (nI 0)), (0, .ref (b + 0)), (1, .int (nI d))]) hx hb d_MO_rowsOf_3 rfl hl (by decide) rfl (fun ls hl => ?_)
  have loop4 : ∀ (r : Nat) (k : Nat) (C : Nat → va_E) (H : Heap) (locs : List Loc) (ls : Array Slot), tld < k + r → k ≤ tld → va_P D classes (wl b 11 C) H → va_S (xr b 11) s.heap H locs → MR ca b C th dts tld fs9 ls9 cn9 lf9 mb9 mwt mab mbe on1 ot2 lea mos big wid yrs → lv_has ls 4 [(0, .ref (b + 0)), (1, .int (nI d)), (2, .int (nI (rO on1 ot2 lf9 d k))), (3, .int (nI k))] → W p l e (headSpec (k_MO_rowsOf :: gw) ({ frames := 1, cells := 0, slots := 0, locals := 12 })).room s m args below meth c H locs 0 0 (MQ below (xQ D b 11 (fun r C1 => r = some (.int (nI (rO on1 ot2 lf9 d tld))) ∧ MR ca b C1 th dts tld fs9 ls9 cn9 lf9 mb9 mwt mab mbe on1 ot2 lea mos big wid yrs)) args s 0 0 (xr b 11)) (F0 m 4 ls []) := by
    intro r
    induction r with
    | zero => intro k C H locs ls hms hk; exact absurd hms (by omega)
    | succ r ih4 =>
      intro k C H locs ls hms hk hP hS hX hl
      refine lv_iload_n hx hb d_MO_rowsOf_4 rfl (lv_at hl 3 rfl) ?_
      refine lv_aload_n hx hb d_MO_rowsOf_5 rfl (lv_at hl 0 rfl) ?_
      refine xw_get (v := .int (nI tld)) hx hb hts (fun w h => mw (uw_MO w h)) hown hK hP (MR_0 hX) (by decide) rfl 5 (by decide) (hts _ (mw tb_600)) (fun _ h => h) rfl d_MO_rowsOf_6 ?_
      refine xi_ge (tgt := 58) hx hb d_MO_rowsOf_9 (by decide) (by omega) (by omega) (fun h9 => ?_) (fun h9 => ?_)
      · skip
        refine lv_iload_n hx hb d_MO_rowsOf_58 rfl (lv_at hl 2 rfl) ?_
        exact xw_iret hx hb hr hlocks hP hS ⟨by rw [show k = tld by omega], hX⟩ d_MO_rowsOf_59
      · skip
        obtain ⟨ho1, ho2, -, -⟩ := hM.2 k h9
        have hrl := rO_le on1 ot2 lf9 d k
        refine lv_aload_n hx hb d_MO_rowsOf_12 rfl (lv_at hl 0 rfl) ?_
        refine xw_get (v := .int (nI lf9)) hx hb hts (fun w h => mw (uw_MO w h)) hown hK hP (MR_0 hX) (by decide) rfl 16 (by decide) (hts _ (mw tb_611)) (fun _ h => h) rfl d_MO_rowsOf_13 ?_
        refine lv_iload_n hx hb d_MO_rowsOf_16 rfl (lv_at hl 3 rfl) ?_
        refine lv_ishr hx hb d_MO_rowsOf_17 ?_
        refine ti (nI (lf9 / 2 ^ k)) (shr1 (by omega) (by omega)) ?_
        refine lv_iconst (v := nI 1) hx hb d_MO_rowsOf_18 (by decide) ?_
        refine lv_iand hx hb d_MO_rowsOf_19 ?_
        refine ti (nI ((lf9 / 2 ^ k) % 2)) (and1 _) ?_
        refine lv_iconst (v := nI 1) hx hb d_MO_rowsOf_20 (by decide) ?_
        refine xi_ne (tgt := 50) hx hb d_MO_rowsOf_21 (by decide) (by omega) (by omega) (fun h21 => ?_) (fun h21 => ?_)
        · skip
          refine lv_iload_n hx hb d_MO_rowsOf_50 rfl (lv_at hl 2 rfl) ?_
          refine ti (nI (rO on1 ot2 lf9 d (k + 1))) (by rw [rO_f (fun q => h21 (tbit.mpr q.1))]) ?_
          refine lv_istore_n (lv' := [(2, .int (nI (rO on1 ot2 lf9 d (k + 1)))), (0, .ref (b + 0)), (1, .int (nI d)), (3, .int (nI k))]) hx hb d_MO_rowsOf_51 rfl hl (by decide) rfl (fun ls hl => ?_)
          refine lv_iinc (v := nI (k + 1)) (lv' := [(3, .int (nI (k + 1))), (2, .int (nI (rO on1 ot2 lf9 d (k + 1)))), (0, .ref (b + 0)), (1, .int (nI d))]) hx hb d_MO_rowsOf_52 hl (k := 3) rfl (show nI k + Int32.ofInt 1 = nI (k + 1) from nI_add _ _) (by decide) rfl (fun ls hl => ?_)
          refine lv_goto (tgt := 4) hx hb d_MO_rowsOf_55 (by decide) ?_
          exact ih4 (k + 1) _ _ _ _ (by omega) (by omega) hP hS hX (lv_sub hl [2, 3, 1, 0] rfl)
        · skip
          refine lv_aload_n hx hb d_MO_rowsOf_24 rfl (lv_at hl 0 rfl) ?_
          refine xw_get (v := .ref (b + 4)) hx hb hts (fun w h => mw (uw_MO w h)) hown hK hP (MR_0 hX) (by decide) rfl 6 (by decide) (hts _ (mw tb_601)) (fun _ h => h) rfl d_MO_rowsOf_25 ?_
          refine lv_iload_n hx hb d_MO_rowsOf_28 rfl (lv_at hl 3 rfl) ?_
          refine xw_iald hx hb hK hP 0 (MR_4 hX) (by decide) rfl (by omega) (by decide) d_MO_rowsOf_29 ?_
          refine lv_iload_n hx hb d_MO_rowsOf_30 rfl (lv_at hl 1 rfl) ?_
          refine xi_eq (tgt := 44) hx hb d_MO_rowsOf_31 (by decide) (by omega) (by omega) (fun h31 => ?_) (fun h31 => ?_)
          · skip
            refine lv_iload_n hx hb d_MO_rowsOf_44 rfl (lv_at hl 2 rfl) ?_
            refine lv_iconst (v := nI 1) hx hb d_MO_rowsOf_45 (by decide) ?_
            refine lv_iadd hx hb d_MO_rowsOf_46 ?_
            refine ti (nI ((rO on1 ot2 lf9 d k) + 1)) (nI_add _ _) ?_
            refine lv_goto (tgt := 51) hx hb d_MO_rowsOf_47 (by decide) ?_
            refine ti (nI (rO on1 ot2 lf9 d (k + 1))) (by rw [rO_t ⟨tbit.mp h21, Or.inl h31⟩]) ?_
            refine lv_istore_n (lv' := [(2, .int (nI (rO on1 ot2 lf9 d (k + 1)))), (0, .ref (b + 0)), (1, .int (nI d)), (3, .int (nI k))]) hx hb d_MO_rowsOf_51 rfl hl (by decide) rfl (fun ls hl => ?_)
            refine lv_iinc (v := nI (k + 1)) (lv' := [(3, .int (nI (k + 1))), (2, .int (nI (rO on1 ot2 lf9 d (k + 1)))), (0, .ref (b + 0)), (1, .int (nI d))]) hx hb d_MO_rowsOf_52 hl (k := 3) rfl (show nI k + Int32.ofInt 1 = nI (k + 1) from nI_add _ _) (by decide) rfl (fun ls hl => ?_)
            refine lv_goto (tgt := 4) hx hb d_MO_rowsOf_55 (by decide) ?_
            exact ih4 (k + 1) _ _ _ _ (by omega) (by omega) hP hS hX (lv_sub hl [2, 3, 1, 0] rfl)
          · skip
            refine lv_aload_n hx hb d_MO_rowsOf_34 rfl (lv_at hl 0 rfl) ?_
            refine xw_get (v := .ref (b + 5)) hx hb hts (fun w h => mw (uw_MO w h)) hown hK hP (MR_0 hX) (by decide) rfl 7 (by decide) (hts _ (mw tb_602)) (fun _ h => h) rfl d_MO_rowsOf_35 ?_
            refine lv_iload_n hx hb d_MO_rowsOf_38 rfl (lv_at hl 3 rfl) ?_
            refine xw_iald hx hb hK hP 0 (MR_5 hX) (by decide) rfl (by omega) (by decide) d_MO_rowsOf_39 ?_
            refine lv_iload_n hx hb d_MO_rowsOf_40 rfl (lv_at hl 1 rfl) ?_
            refine xi_ne (tgt := 50) hx hb d_MO_rowsOf_41 (by decide) (by omega) (by omega) (fun h41 => ?_) (fun h41 => ?_)
            · skip
              refine lv_iload_n hx hb d_MO_rowsOf_50 rfl (lv_at hl 2 rfl) ?_
              refine ti (nI (rO on1 ot2 lf9 d (k + 1))) (by rw [rO_f (fun q => q.2.elim h31 h41)]) ?_
              refine lv_istore_n (lv' := [(2, .int (nI (rO on1 ot2 lf9 d (k + 1)))), (0, .ref (b + 0)), (1, .int (nI d)), (3, .int (nI k))]) hx hb d_MO_rowsOf_51 rfl hl (by decide) rfl (fun ls hl => ?_)
              refine lv_iinc (v := nI (k + 1)) (lv' := [(3, .int (nI (k + 1))), (2, .int (nI (rO on1 ot2 lf9 d (k + 1)))), (0, .ref (b + 0)), (1, .int (nI d))]) hx hb d_MO_rowsOf_52 hl (k := 3) rfl (show nI k + Int32.ofInt 1 = nI (k + 1) from nI_add _ _) (by decide) rfl (fun ls hl => ?_)
              refine lv_goto (tgt := 4) hx hb d_MO_rowsOf_55 (by decide) ?_
              exact ih4 (k + 1) _ _ _ _ (by omega) (by omega) hP hS hX (lv_sub hl [2, 3, 1, 0] rfl)
            · skip
              refine lv_iload_n hx hb d_MO_rowsOf_44 rfl (lv_at hl 2 rfl) ?_
              refine lv_iconst (v := nI 1) hx hb d_MO_rowsOf_45 (by decide) ?_
              refine lv_iadd hx hb d_MO_rowsOf_46 ?_
              refine ti (nI ((rO on1 ot2 lf9 d k) + 1)) (nI_add _ _) ?_
              refine lv_goto (tgt := 51) hx hb d_MO_rowsOf_47 (by decide) ?_
              refine ti (nI (rO on1 ot2 lf9 d (k + 1))) (by rw [rO_t ⟨tbit.mp h21, Or.inr h41⟩]) ?_
              refine lv_istore_n (lv' := [(2, .int (nI (rO on1 ot2 lf9 d (k + 1)))), (0, .ref (b + 0)), (1, .int (nI d)), (3, .int (nI k))]) hx hb d_MO_rowsOf_51 rfl hl (by decide) rfl (fun ls hl => ?_)
              refine lv_iinc (v := nI (k + 1)) (lv' := [(3, .int (nI (k + 1))), (2, .int (nI (rO on1 ot2 lf9 d (k + 1)))), (0, .ref (b + 0)), (1, .int (nI d))]) hx hb d_MO_rowsOf_52 hl (k := 3) rfl (show nI k + Int32.ofInt 1 = nI (k + 1) from nI_add _ _) (by decide) rfl (fun ls hl => ?_)
              refine lv_goto (tgt := 4) hx hb d_MO_rowsOf_55 (by decide) ?_
              exact ih4 (k + 1) _ _ _ _ (by omega) (by omega) hP hS hX (lv_sub hl [2, 3, 1, 0] rfl)
  exact loop4 (tld + 1) 0 _ _ _ _ (by omega) (by omega) hP hS hX (lv_sub hl [2, 3, 1, 0] rfl)

set_option maxHeartbeats 4000000 in
set_option maxRecDepth 100000 in
/-- whether a date is a leaf -/
theorem c_MO_isLeaf (l : Launch) (D : va_G) (ca : Nat → ClassId) (b : Nat) (C0 : Nat → va_E) {th : Nat} {dts : Nat} {tld : Nat} {fs9 : Nat} {ls9 : Nat} {cn9 : Nat} {lf9 : Nat} {mb9 : Nat} {mwt : Nat → Nat} {mab : Nat → Nat} {mbe : Nat → Nat} {on1 : Nat → Nat} {ot2 : Nat → Nat} {lea : Nat → Nat} {mos : Nat → Nat} {big : Nat → Nat} {wid : Nat → Nat} {yrs : Nat → Nat} (d : Nat) (hX : MR ca b C0 th dts tld fs9 ls9 cn9 lf9 mb9 mwt mab mbe on1 ot2 lea mos big wid yrs) (hM : MOK on1 ot2 lea mos tld) (hd : d < 6) (hlf : lf9 < 2 ^ 31) (hmb : mb9 < 2 ^ 31) : Met l y_MO_isLeaf (k_MO_isLeaf :: gw) ({ frames := 2, cells := 0, slots := 0, locals := 35 }) (xPc D ca b 11 C0 [.ref (b + 0), .int (nI d)]) (xQ D b 11 (fun r C1 => ∃ z : Bool, r = some (.int (nI z.toNat)) ∧ (z = true ↔ rO on1 ot2 lf9 d tld = 1 ∧ mb9.testBit d = false) ∧ MR ca b C1 th dts tld fs9 ls9 cn9 lf9 mb9 mwt mab mbe on1 ot2 lea mos big wid yrs)) 0 0 (xr b 11) := by
  refine Met.ofW (cc := b_MO_isLeaf) (maxL := 2) (ret := (some FieldType.boolean)) (by decide) rfl ?_
  intro p e s m args below meth c s₁ B hml hv
  obtain ⟨hav, hP, hK⟩ := hv
  have hx := B.exec
  have hb := B.bytes
  have hr := B.returns
  have hts := atoms_spec (ws := k_MO_isLeaf :: gw) B.pre
  have hown : s.vm.findClass R_MO = some m.cls := findClass_of_methodNamed B.named
  have hlocks := B.notSynchronized
  have hA : ∀ k, k < 11 → xr b 11 (b + k) := xr_in
  have hS : va_S (xr b 11) s.heap s.heap [] := va_S.rf
  have hl := lv_entry ([.ref (b + 0), .int (nI d)]) (n := 2) (Nat.le_of_ble_eq_true rfl)
  rw [hav, lg_entry_eq]
  generalize (lg_sl ([.ref (b + 0), .int (nI d)]) ++ List.replicate (2 - (lg_sl ([.ref (b + 0), .int (nI d)])).length) Slot.unset).toArray = ls at hl ⊢
  have hl : lv_has ls 2 [(0, .ref (b + 0)), (1, .int (nI d))] := hl
  rw [← hav]
  have hM6 := hM.1
  have hrl := rO_le on1 ot2 lf9 d tld
  refine lv_aload_n hx hb d_MO_isLeaf_0 rfl (lv_at hl 0 rfl) ?_
  refine lv_iload_n hx hb d_MO_isLeaf_1 rfl (lv_at hl 1 rfl) ?_
  refine xc_V (n := 1) (g0 := 0) (As := [.int (nI d)]) (rest := []) (st0 := _) hx hb hml hown hts (c_MO_rowsOf l D ca b _ d hX hM hd hlf) km_MO_rowsOf tb_740 tb_742 tps_33 tb_7 (by decide +kernel) rfl rfl ⟨Nat.le_of_ble_eq_true rfl, Nat.le_of_ble_eq_true rfl⟩ hK hP (MR_0 hX) (by decide) rfl rfl rfl hl rfl (Nat.le_of_ble_eq_true rfl) d_MO_isLeaf_2 ⟨Nat.zero_le _, Nat.zero_le _⟩ hS (fun _ h => h) (fun v C H locs hp hP _ _ hS => ?_)
  obtain ⟨rfl, hX⟩ := hp
  refine lv_iconst (v := nI 1) hx hb d_MO_isLeaf_5 (by decide) ?_
  refine xi_ne (tgt := 24) hx hb d_MO_isLeaf_6 (by decide) (by omega) (by omega) (fun h6 => ?_) (fun h6 => ?_)
  · skip
    refine lv_iconst (v := nI 0) hx hb d_MO_isLeaf_24 (by decide) ?_
    exact xw_zret hx hb hr hlocks nz0 hP hS ⟨false, rfl, ⟨fun q => (by cases q), fun q => absurd q.1 h6⟩, hX⟩ d_MO_isLeaf_25
  · skip
    refine lv_aload_n hx hb d_MO_isLeaf_9 rfl (lv_at hl 0 rfl) ?_
    refine xw_get (v := .int (nI mb9)) hx hb hts (fun w h => mw (uw_MO w h)) hown hK hP (MR_0 hX) (by decide) rfl 17 (by decide) (hts _ (mw tb_612)) (fun _ h => h) rfl d_MO_isLeaf_10 ?_
    refine lv_iload_n hx hb d_MO_isLeaf_13 rfl (lv_at hl 1 rfl) ?_
    refine lv_ishr hx hb d_MO_isLeaf_14 ?_
    refine ti (nI (mb9 / 2 ^ d)) (shr1 (by omega) (by omega)) ?_
    refine lv_iconst (v := nI 1) hx hb d_MO_isLeaf_15 (by decide) ?_
    refine lv_iand hx hb d_MO_isLeaf_16 ?_
    refine ti (nI ((mb9 / 2 ^ d) % 2)) (and1 _) ?_
    refine xz_ne (tgt := 24) hx hb d_MO_isLeaf_17 (by decide) (by omega) (fun h17 => ?_) (fun h17 => ?_)
    · skip
      refine lv_iconst (v := nI 0) hx hb d_MO_isLeaf_24 (by decide) ?_
      exact xw_zret hx hb hr hlocks nz0 hP hS ⟨false, rfl, ⟨fun q => (by cases q), fun q => by have := tbit.mp (show mb9 / 2 ^ d % 2 = 1 by omega); rw [q.2] at this; cases this⟩, hX⟩ d_MO_isLeaf_25
    · skip
      refine lv_iconst (v := nI 1) hx hb d_MO_isLeaf_20 (by decide) ?_
      refine lv_goto (tgt := 25) hx hb d_MO_isLeaf_21 (by decide) ?_
      exact xw_zret hx hb hr hlocks nz1 hP hS ⟨true, rfl, ⟨fun _ => ⟨h6, by cases hb9 : mb9.testBit d with | false => rfl | true => (have := tbit.mpr hb9; omega)⟩, fun _ => rfl⟩, hX⟩ d_MO_isLeaf_25

