/-! The Model: roots -/
def isLf (on1 ot2 : Nat → Nat) (mb9 tld lf d : Nat) : Prop := rO on1 ot2 lf d tld = 1 ∧ mb9.testBit d = false
def fnd (on1 ot2 : Nat → Nat) (mb9 tld lf k f : Nat) : Prop := k < tld ∧ lf.testBit k = true ∧ ((isLf on1 ot2 mb9 tld lf (on1 k) ∧ f = on1 k) ∨ (¬ isLf on1 ot2 mb9 tld lf (on1 k) ∧ isLf on1 ot2 mb9 tld lf (ot2 k) ∧ f = ot2 k))
theorem clb_bit (a k j : Nat) : (clb a (2 ^ k)).testBit j = (a.testBit j && decide (j ≠ k)) := by
  unfold clb
  rw [Nat.testBit_xor, Nat.testBit_and, Nat.testBit_two_pow]
  by_cases q : k = j
  · subst q; simp
  · have q2 : j ≠ k := fun e => q e.symm
    simp [q, q2]
theorem clb_le (a k : Nat) : clb a (2 ^ k) ≤ a := by
  apply Nat.le_of_testBit
  intro i h
  rw [clb_bit] at h
  simp at h
  exact h.1
theorem clb_lt {a k : Nat} (h : a.testBit k = true) : clb a (2 ^ k) < a := by
  rcases Nat.lt_or_eq_of_le (clb_le a k) with q | q
  · exact q
  · have := clb_bit a k k
    rw [q, h] at this
    simp at this
set_option maxHeartbeats 4000000 in
set_option maxRecDepth 100000 in
/-- the rows are taken, leaf by leaf -/
theorem c_MO_roots (l : Launch) (D : va_G) (ca : Nat → ClassId) (b : Nat) (C0 : Nat → va_E) {th : Nat} {dts : Nat} {tld : Nat} {fs9 : Nat} {ls9 : Nat} {cn9 : Nat} {lf9 : Nat} {mb9 : Nat} {mwt : Nat → Nat} {mab : Nat → Nat} {mbe : Nat → Nat} {on1 : Nat → Nat} {ot2 : Nat → Nat} {lea : Nat → Nat} {mos : Nat → Nat} {yrs : Nat → Nat} {bv : Nat → Nat} (J : Nat → (Nat → Nat) → Nat → Prop) (hX : MV ca b C0 th dts tld fs9 ls9 cn9 lf9 mb9 mwt mab mbe on1 ot2 lea mos yrs bv) (hM : MOK on1 ot2 lea mos tld) (hd6 : dts ≤ 6) (hmb : mb9 < 2 ^ 31) (hJ0 : J lf9 bv (2 ^ dts - 1)) (hJs : ∀ lf bv al k f m1, J lf bv al → fnd on1 ot2 mb9 tld lf k f → J (clb lf (2 ^ k)) (va_up (tkB on1 ot2 lea mos bv k f 12) 72 m1) (clb al (2 ^ f))) (hJl : ∀ lf bv al, J lf bv al → lf ≠ 0 → ∃ k, k < tld ∧ lf.testBit k = true ∧ (isLf on1 ot2 mb9 tld lf (on1 k) ∨ isLf on1 ot2 mb9 tld lf (ot2 k))) (hJr : ∀ lf bv al, J lf bv al → lf < 2 ^ 31 ∧ al < 2 ^ 31 ∧ ∀ k, k < tld → lf.testBit k = true → on1 k ≠ ot2 k) : Met l y_MO_roots (k_MO_roots :: gw) ({ frames := 3, cells := 0, slots := 0, locals := 64 }) (xPc D ca b 11 C0 [.ref (b + 0)]) (xQ D b 11 (fun r C1 => ∃ al bv1, r = some (.int (nI al)) ∧ J 0 bv1 al ∧ MV ca b C1 th dts tld fs9 ls9 cn9 0 mb9 mwt mab mbe on1 ot2 lea mos yrs bv1)) 0 0 (xr b 11) := by
  refine Met.ofW (cc := b_MO_roots) (maxL := 5) (ret := (some FieldType.int)) (by decide) rfl ?_
  intro p e s m args below meth c s₁ B hml hv
  obtain ⟨hav, hP, hK⟩ := hv
  have hx := B.exec
  have hb := B.bytes
  have hr := B.returns
  have hts := atoms_spec (ws := k_MO_roots :: gw) B.pre
  have hown : s.vm.findClass R_MO = some m.cls := findClass_of_methodNamed B.named
  have hlocks := B.notSynchronized
  have hA : ∀ k, k < 11 → xr b 11 (b + k) := xr_in
  have hS : va_S (xr b 11) s.heap s.heap [] := va_S.rf
  have hl := lv_entry ([.ref (b + 0)]) (n := 5) (Nat.le_of_ble_eq_true rfl)
  rw [hav, lg_entry_eq]
  generalize (lg_sl ([.ref (b + 0)]) ++ List.replicate (5 - (lg_sl ([.ref (b + 0)])).length) Slot.unset).toArray = ls at hl ⊢
  have hl : lv_has ls 5 [(0, .ref (b + 0))] := hl
  rw [← hav]
  have hM6 := hM.1
  have h2p : 0 < 2 ^ dts := Nat.pow_pos (by decide)
  refine lv_iconst (v := nI 1) hx hb d_MO_roots_0 (by decide) ?_
  refine lv_aload_n hx hb d_MO_roots_1 rfl (lv_at hl 0 rfl) ?_
  refine xw_get (v := .int (nI dts)) hx hb hts (fun w h => mw (uw_MO w h)) hown hK hP (MV_0 hX) (by decide) rfl 1 (by decide) (hts _ (mw tb_596)) (fun _ h => h) rfl d_MO_roots_2 ?_
  refine lv_ishl hx hb d_MO_roots_5 ?_
  refine ti (nI (2 ^ dts)) (sh1 (by omega)) ?_
  refine lv_iconst (v := nI 1) hx hb d_MO_roots_6 (by decide) ?_
  refine lv_isub hx hb d_MO_roots_7 ?_
  refine ti (nI ((2 ^ dts) - 1)) (pk_sub (by omega)) ?_
  refine lv_istore_n (lv' := [(1, .int (nI ((2 ^ dts) - 1))), (0, .ref (b + 0))]) hx hb d_MO_roots_8 rfl hl (by decide) rfl (fun ls hl => ?_)
  have loop9 : ∀ (r : Nat) (lf : Nat) (bw : Nat → Nat) (al : Nat) (C : Nat → va_E) (H : Heap) (locs : List Loc) (ls : Array Slot), lf < r → lf < lf9 + 1 → J lf bw al → va_P D classes (wl b 11 C) H → va_S (xr b 11) s.heap H locs → MV ca b C th dts tld fs9 ls9 cn9 lf mb9 mwt mab mbe on1 ot2 lea mos yrs bw → lv_has ls 5 [(0, .ref (b + 0)), (1, .int (nI al))] → W p l e (headSpec (k_MO_roots :: gw) ({ frames := 3, cells := 0, slots := 0, locals := 64 })).room s m args below meth c H locs 0 0 (MQ below (xQ D b 11 (fun r C1 => ∃ al bv1, r = some (.int (nI al)) ∧ J 0 bv1 al ∧ MV ca b C1 th dts tld fs9 ls9 cn9 0 mb9 mwt mab mbe on1 ot2 lea mos yrs bv1)) args s 0 0 (xr b 11)) (F0 m 9 ls []) := by
    intro r
    induction r with
    | zero => intro lf bw al C H locs ls hms hlr hJ; exact absurd hms (by omega)
    | succ r ih9 =>
      intro lf bw al C H locs ls hms hlr hJ hP hS hX hl
      obtain ⟨hlf31, hal31, hrow⟩ := hJr lf bw al hJ
      refine lv_aload_n hx hb d_MO_roots_9 rfl (lv_at hl 0 rfl) ?_
      refine xw_get (v := .int (nI lf)) hx hb hts (fun w h => mw (uw_MO w h)) hown hK hP (MV_0 hX) (by decide) rfl 16 (by decide) (hts _ (mw tb_611)) (fun _ h => h) rfl d_MO_roots_10 ?_
      refine xz_eq (tgt := 133) hx hb d_MO_roots_13 (by decide) (by omega) (fun h13 => ?_) (fun h13 => ?_)
      · skip
        have hlf0 : lf = 0 := h13
        refine lv_iload_n hx hb d_MO_roots_133 rfl (lv_at hl 1 rfl) ?_
        exact xw_iret hx hb hr hlocks hP hS ⟨_, _, rfl, hlf0 ▸ hJ, hlf0 ▸ hX⟩ d_MO_roots_134
      · skip
        refine lv_iconst (v := nI 0) hx hb d_MO_roots_16 (by decide) ?_
        refine lv_istore_n (lv' := [(2, .int (nI 0)), (0, .ref (b + 0)), (1, .int (nI al))]) hx hb d_MO_roots_17 rfl hl (by decide) rfl (fun ls hl => ?_)
        refine lv_iconst (v := (-1)) hx hb d_MO_roots_18 (by decide) ?_
        refine lv_istore_n (lv' := [(3, .int ((-1))), (2, .int (nI 0)), (0, .ref (b + 0)), (1, .int (nI al))]) hx hb d_MO_roots_19 rfl hl (by decide) rfl (fun ls hl => ?_)
        rw [show (-1 : Int32) = eo none from rfl] at hl
        obtain ⟨k0, hk0, hk0b, hk0l⟩ := hJl lf bw al hJ h13
        have loop20 : ∀ (r : Nat) (k : Nat) (q : Option Nat) (mu : Nat) (C : Nat → va_E) (H : Heap) (locs : List Loc) (ls : Array Slot), mu < r → k ≤ tld → (q = none → tld + 1 ≤ k + mu) → (q = none → ∀ j, j < k → ¬ (lf.testBit j = true ∧ (isLf on1 ot2 mb9 tld lf (on1 j) ∨ isLf on1 ot2 mb9 tld lf (ot2 j)))) → (∀ f, q = some f → fnd on1 ot2 mb9 tld lf k f) → va_P D classes (wl b 11 C) H → va_S (xr b 11) s.heap H locs → MV ca b C th dts tld fs9 ls9 cn9 lf mb9 mwt mab mbe on1 ot2 lea mos yrs bw → lv_has ls 5 [(0, .ref (b + 0)), (1, .int (nI al)), (2, .int (nI k)), (3, .int (eo q))] → W p l e (headSpec (k_MO_roots :: gw) ({ frames := 3, cells := 0, slots := 0, locals := 64 })).room s m args below meth c H locs 0 0 (MQ below (xQ D b 11 (fun r C1 => ∃ al bv1, r = some (.int (nI al)) ∧ J 0 bv1 al ∧ MV ca b C1 th dts tld fs9 ls9 cn9 0 mb9 mwt mab mbe on1 ot2 lea mos yrs bv1)) args s 0 0 (xr b 11)) (F0 m 20 ls []) := by
          intro r
          induction r with
          | zero => intro k q mu C H locs ls hms hkt hmu hnn hss; exact absurd hms (by omega)
          | succ r ih20 =>
            intro k q mu C H locs ls hms hkt hmu hnn hss hP hS hX hl
            have hkle : q = none → k ≤ k0 := fun hq => Nat.not_lt.mp (fun hlt => hnn hq k0 hlt ⟨hk0b, hk0l⟩)
            refine lv_iload_n hx hb d_MO_roots_20 rfl (lv_at hl 3 rfl) ?_
            refine lv_iconst (v := (-1)) hx hb d_MO_roots_21 (by decide) ?_
            refine xo_ne (tgt := 116) hx hb d_MO_roots_22 (by decide) (fun z hz => by have h1 := hss z hz; have h2 := hM.2 k h1.1; rcases h1.2.2 with h3 | h3 <;> omega) (fun d22 h22 => ?_) (fun h22 => ?_)
            · skip
              have hfnd := hss _ h22
              have hMk := hM.2 k hfnd.1
              have hf6 : d22 < 6 := by rcases hfnd.2.2 with h3 | h3 <;> omega
              have hfo : on1 k = d22 ∨ ot2 k = d22 := by rcases hfnd.2.2 with h3 | h3 <;> omega
              refine lv_aload_n hx hb d_MO_roots_116 rfl (lv_at hl 0 rfl) ?_
              refine lv_iload_n hx hb d_MO_roots_117 rfl (lv_at hl 2 rfl) ?_
              refine lv_iload_n hx hb d_MO_roots_118 rfl (lv_at hl 3 rfl) ?_
              refine ti (nI d22) (by rw [h22]; rfl) ?_
              refine xc_V (n := 2) (g0 := 0) (As := [.int (nI k), .int (nI d22)]) (rest := []) (st0 := _) hx hb hml hown hts (c_MO_take l D ca b _ k d22 hX hM hfnd.1 hf6 hfo (hrow k hfnd.1 hfnd.2.1)) km_MO_take tb_744 tb_746 tps_34 tb_7 (by decide +kernel) rfl rfl ⟨Nat.le_of_ble_eq_true rfl, Nat.le_of_ble_eq_true rfl⟩ hK hP (MV_0 hX) (by decide) rfl rfl rfl hl rfl (Nat.le_of_ble_eq_true rfl) d_MO_roots_119 ⟨Nat.zero_le _, Nat.zero_le _⟩ hS (fun _ h => h) (fun v C H locs hp hP _ _ hS => ?_)
              obtain ⟨rfl, m1, hX⟩ := hp
              refine lv_iload_n hx hb d_MO_roots_122 rfl (lv_at hl 1 rfl) ?_
              refine lv_iconst (v := nI 1) hx hb d_MO_roots_123 (by decide) ?_
              refine lv_iload_n hx hb d_MO_roots_124 rfl (lv_at hl 3 rfl) ?_
              refine ti (nI d22) (by rw [h22]; rfl) ?_
              refine lv_ishl hx hb d_MO_roots_125 ?_
              refine ti (nI (2 ^ d22)) (sh1 (by omega)) ?_
              refine lv_iconst (v := (-1)) hx hb d_MO_roots_126 (by decide) ?_
              refine lv_ixor hx hb d_MO_roots_127 ?_
              refine lv_iand hx hb d_MO_roots_128 ?_
              refine ti (nI (clb al (2 ^ d22))) (nx_clb _ _) ?_
              refine lv_istore_n (lv' := [(1, .int (nI (clb al (2 ^ d22)))), (0, .ref (b + 0)), (2, .int (nI k)), (3, .int (eo q))]) hx hb d_MO_roots_129 rfl hl (by decide) rfl (fun ls hl => ?_)
              refine lv_goto (tgt := 9) hx hb d_MO_roots_130 (by decide) ?_
              have hcl := clb_lt hfnd.2.1
              exact ih9 (clb lf (2 ^ k)) (va_up (tkB on1 ot2 lea mos bw k d22 12) 72 m1) (clb al (2 ^ d22)) _ _ _ _ (by omega) (by omega) (hJs _ _ _ _ _ _ hJ hfnd) hP hS hX (lv_sub hl [1, 0] rfl)
            · skip
              have hkk := hkle h22
              have hmu2 := hmu h22
              have hkt2 : k < tld := by omega
              obtain ⟨ho1, ho2, -, -⟩ := hM.2 k hkt2
              refine lv_aload_n hx hb d_MO_roots_25 rfl (lv_at hl 0 rfl) ?_
              refine xw_get (v := .int (nI lf)) hx hb hts (fun w h => mw (uw_MO w h)) hown hK hP (MV_0 hX) (by decide) rfl 16 (by decide) (hts _ (mw tb_611)) (fun _ h => h) rfl d_MO_roots_26 ?_
              refine lv_iload_n hx hb d_MO_roots_29 rfl (lv_at hl 2 rfl) ?_
              refine lv_ishr hx hb d_MO_roots_30 ?_
              refine ti (nI (lf / 2 ^ k)) (shr1 (by omega) (by omega)) ?_
              refine lv_iconst (v := nI 1) hx hb d_MO_roots_31 (by decide) ?_
              refine lv_iand hx hb d_MO_roots_32 ?_
              refine ti (nI ((lf / 2 ^ k) % 2)) (and1 _) ?_
              refine lv_iconst (v := nI 1) hx hb d_MO_roots_33 (by decide) ?_
              refine xi_ne (tgt := 41) hx hb d_MO_roots_34 (by decide) (by omega) (by omega) (fun h34 => ?_) (fun h34 => ?_)
              · skip
                refine lv_iconst (v := nI 0) hx hb d_MO_roots_41 (by decide) ?_
                refine lv_istore (lv' := [(4, .int (nI 0)), (0, .ref (b + 0)), (1, .int (nI al)), (2, .int (nI k)), (3, .int (eo q))]) hx hb d_MO_roots_42 hl (by decide) rfl (fun ls hl => ?_)
                refine lv_iload hx hb d_MO_roots_44 (lv_at hl 0 rfl) ?_
                refine xz_eq (tgt := 71) hx hb d_MO_roots_46 (by decide) (by omega) (fun h46 => ?_) (fun h46 => ?_)
                · skip
                  refine lv_iload hx hb d_MO_roots_71 (lv_at hl 0 rfl) ?_
                  refine xz_eq (tgt := 98) hx hb d_MO_roots_73 (by decide) (by omega) (fun h73 => ?_) (fun h73 => ?_)
                  · skip
                    refine lv_iconst (v := (-1)) hx hb d_MO_roots_98 (by decide) ?_
                    refine ti (eo none) rfl ?_
                    refine lv_istore_n (lv' := [(3, .int (eo none)), (4, .int (nI 0)), (0, .ref (b + 0)), (1, .int (nI al)), (2, .int (nI k))]) hx hb d_MO_roots_99 rfl hl (by decide) rfl (fun ls hl => ?_)
                    refine lv_iload_n hx hb d_MO_roots_100 rfl (lv_at hl 0 rfl) ?_
                    refine lv_iconst (v := (-1)) hx hb d_MO_roots_101 (by decide) ?_
                    refine xo_ne (tgt := 111) hx hb d_MO_roots_102 (by decide) (fun z hz => by first | (cases hz; done) | (cases hz; omega)) (fun d102 h102 => ?_) (fun h102 => ?_)
                    · skip
                      cases h102
                    · skip
                      refine lv_iload_n hx hb d_MO_roots_105 rfl (lv_at hl 4 rfl) ?_
                      refine lv_iconst (v := nI 1) hx hb d_MO_roots_106 (by decide) ?_
                      refine lv_iadd hx hb d_MO_roots_107 ?_
                      refine ti (nI (k + 1)) (nI_add _ _) ?_
                      refine lv_goto (tgt := 112) hx hb d_MO_roots_108 (by decide) ?_
                      refine lv_istore_n (lv' := [(2, .int (nI (k + 1))), (3, .int (eo none)), (4, .int (nI 0)), (0, .ref (b + 0)), (1, .int (nI al))]) hx hb d_MO_roots_112 rfl hl (by decide) rfl (fun ls hl => ?_)
                      refine lv_goto (tgt := 20) hx hb d_MO_roots_113 (by decide) ?_
                      exact ih20 (k + 1) none (mu - 1) _ _ _ _ (by omega) (by omega) (fun _ => by omega) (fun _ j hj => by
                          by_cases qj : j = k
                          · rw [qj]; exact (fun q9 => h34 (tbit.mpr q9.1))
                          · exact hnn h22 j (by omega)) (fun f hf => by cases hf) hP hS hX (lv_sub hl [3, 4, 0, 1] rfl)
                  · skip
                    exact absurd h73 (by decide)
                · skip
                  exact absurd h46 (by decide)
              · skip
                refine lv_iconst (v := nI 1) hx hb d_MO_roots_37 (by decide) ?_
                refine lv_goto (tgt := 42) hx hb d_MO_roots_38 (by decide) ?_
                refine lv_istore (lv' := [(4, .int (nI 1)), (0, .ref (b + 0)), (1, .int (nI al)), (2, .int (nI k)), (3, .int (eo q))]) hx hb d_MO_roots_42 hl (by decide) rfl (fun ls hl => ?_)
                refine lv_iload hx hb d_MO_roots_44 (lv_at hl 0 rfl) ?_
                refine xz_eq (tgt := 71) hx hb d_MO_roots_46 (by decide) (by omega) (fun h46 => ?_) (fun h46 => ?_)
                · skip
                  exact absurd h46 (by decide)
                · skip
                  refine lv_aload_n hx hb d_MO_roots_49 rfl (lv_at hl 1 rfl) ?_
                  refine lv_aload_n hx hb d_MO_roots_50 rfl (lv_at hl 1 rfl) ?_
                  refine xw_get (v := .ref (b + 4)) hx hb hts (fun w h => mw (uw_MO w h)) hown hK hP (MV_0 hX) (by decide) rfl 6 (by decide) (hts _ (mw tb_601)) (fun _ h => h) rfl d_MO_roots_51 ?_
                  refine lv_iload_n hx hb d_MO_roots_54 rfl (lv_at hl 3 rfl) ?_
                  refine xw_iald hx hb hK hP 0 (MV_4 hX) (by decide) rfl (by omega) (by decide) d_MO_roots_55 ?_
                  obtain ⟨bg9, wd9, hX, hB9⟩ := hX
                  refine xc_V (n := 1) (g0 := 0) (As := [.int (nI (on1 k))]) (rest := []) (st0 := _) hx hb hml hown hts (c_MO_isLeaf l D ca b _ (on1 k) hX hM (by omega) (by omega) hmb) km_MO_isLeaf tb_736 tb_738 tps_32 tb_7 (by decide +kernel) rfl rfl ⟨Nat.le_of_ble_eq_true rfl, Nat.le_of_ble_eq_true rfl⟩ hK hP (MR_0 hX) (by decide) rfl rfl rfl hl rfl (Nat.le_of_ble_eq_true rfl) d_MO_roots_56 ⟨Nat.zero_le _, Nat.zero_le _⟩ hS (fun _ h => h) (fun v C H locs hp hP _ _ hS => ?_)
                  obtain ⟨z2, rfl, hz2, hX⟩ := hp
                  have hX : MV ca b C th dts tld fs9 ls9 cn9 lf mb9 mwt mab mbe on1 ot2 lea mos yrs bw := ⟨_, _, hX, hB9⟩
                  refine xz_eq (tgt := 71) hx hb d_MO_roots_59 (by decide) (tn31 _) (fun h59 => ?_) (fun h59 => ?_)
                  · skip
                    refine lv_iload hx hb d_MO_roots_71 (lv_at hl 0 rfl) ?_
                    refine xz_eq (tgt := 98) hx hb d_MO_roots_73 (by decide) (by omega) (fun h73 => ?_) (fun h73 => ?_)
                    · skip
                      exact absurd h73 (by decide)
                    · skip
                      refine lv_aload_n hx hb d_MO_roots_76 rfl (lv_at hl 1 rfl) ?_
                      refine lv_aload_n hx hb d_MO_roots_77 rfl (lv_at hl 1 rfl) ?_
                      refine xw_get (v := .ref (b + 5)) hx hb hts (fun w h => mw (uw_MO w h)) hown hK hP (MV_0 hX) (by decide) rfl 7 (by decide) (hts _ (mw tb_602)) (fun _ h => h) rfl d_MO_roots_78 ?_
                      refine lv_iload_n hx hb d_MO_roots_81 rfl (lv_at hl 3 rfl) ?_
                      refine xw_iald hx hb hK hP 0 (MV_5 hX) (by decide) rfl (by omega) (by decide) d_MO_roots_82 ?_
                      obtain ⟨bg9, wd9, hX, hB9⟩ := hX
                      refine xc_V (n := 1) (g0 := 0) (As := [.int (nI (ot2 k))]) (rest := []) (st0 := _) hx hb hml hown hts (c_MO_isLeaf l D ca b _ (ot2 k) hX hM (by omega) (by omega) hmb) km_MO_isLeaf tb_736 tb_738 tps_32 tb_7 (by decide +kernel) rfl rfl ⟨Nat.le_of_ble_eq_true rfl, Nat.le_of_ble_eq_true rfl⟩ hK hP (MR_0 hX) (by decide) rfl rfl rfl hl rfl (Nat.le_of_ble_eq_true rfl) d_MO_roots_83 ⟨Nat.zero_le _, Nat.zero_le _⟩ hS (fun _ h => h) (fun v C H locs hp hP _ _ hS => ?_)
                      obtain ⟨z3, rfl, hz3, hX⟩ := hp
                      have hX : MV ca b C th dts tld fs9 ls9 cn9 lf mb9 mwt mab mbe on1 ot2 lea mos yrs bw := ⟨_, _, hX, hB9⟩
                      refine xz_eq (tgt := 98) hx hb d_MO_roots_86 (by decide) (tn31 _) (fun h86 => ?_) (fun h86 => ?_)
                      · skip
                        refine lv_iconst (v := (-1)) hx hb d_MO_roots_98 (by decide) ?_
                        refine ti (eo none) rfl ?_
                        refine lv_istore_n (lv' := [(3, .int (eo none)), (4, .int (nI 1)), (0, .ref (b + 0)), (1, .int (nI al)), (2, .int (nI k))]) hx hb d_MO_roots_99 rfl hl (by decide) rfl (fun ls hl => ?_)
                        refine lv_iload_n hx hb d_MO_roots_100 rfl (lv_at hl 0 rfl) ?_
                        refine lv_iconst (v := (-1)) hx hb d_MO_roots_101 (by decide) ?_
                        refine xo_ne (tgt := 111) hx hb d_MO_roots_102 (by decide) (fun z hz => by first | (cases hz; done) | (cases hz; omega)) (fun d102 h102 => ?_) (fun h102 => ?_)
                        · skip
                          cases h102
                        · skip
                          refine lv_iload_n hx hb d_MO_roots_105 rfl (lv_at hl 4 rfl) ?_
                          refine lv_iconst (v := nI 1) hx hb d_MO_roots_106 (by decide) ?_
                          refine lv_iadd hx hb d_MO_roots_107 ?_
                          refine ti (nI (k + 1)) (nI_add _ _) ?_
                          refine lv_goto (tgt := 112) hx hb d_MO_roots_108 (by decide) ?_
                          refine lv_istore_n (lv' := [(2, .int (nI (k + 1))), (3, .int (eo none)), (4, .int (nI 1)), (0, .ref (b + 0)), (1, .int (nI al))]) hx hb d_MO_roots_112 rfl hl (by decide) rfl (fun ls hl => ?_)
                          refine lv_goto (tgt := 20) hx hb d_MO_roots_113 (by decide) ?_
                          exact ih20 (k + 1) none (mu - 1) _ _ _ _ (by omega) (by omega) (fun _ => by omega) (fun _ j hj => by
                              by_cases qj : j = k
                              · rw [qj]; exact (fun q9 => q9.2.elim (fun q8 => by have := hz2.mpr q8; rw [bf h59] at this; cases this) (fun q8 => by have := hz3.mpr q8; rw [bf h86] at this; cases this))
                              · exact hnn h22 j (by omega)) (fun f hf => by cases hf) hP hS hX (lv_sub hl [3, 4, 0, 1] rfl)
                      · skip
                        refine lv_aload_n hx hb d_MO_roots_89 rfl (lv_at hl 1 rfl) ?_
                        refine xw_get (v := .ref (b + 5)) hx hb hts (fun w h => mw (uw_MO w h)) hown hK hP (MV_0 hX) (by decide) rfl 7 (by decide) (hts _ (mw tb_602)) (fun _ h => h) rfl d_MO_roots_90 ?_
                        refine lv_iload_n hx hb d_MO_roots_93 rfl (lv_at hl 3 rfl) ?_
                        refine xw_iald hx hb hK hP 0 (MV_5 hX) (by decide) rfl (by omega) (by decide) d_MO_roots_94 ?_
                        refine lv_goto (tgt := 99) hx hb d_MO_roots_95 (by decide) ?_
                        refine ti (eo (some (ot2 k))) rfl ?_
                        refine lv_istore_n (lv' := [(3, .int (eo (some (ot2 k)))), (4, .int (nI 1)), (0, .ref (b + 0)), (1, .int (nI al)), (2, .int (nI k))]) hx hb d_MO_roots_99 rfl hl (by decide) rfl (fun ls hl => ?_)
                        refine lv_iload_n hx hb d_MO_roots_100 rfl (lv_at hl 0 rfl) ?_
                        refine lv_iconst (v := (-1)) hx hb d_MO_roots_101 (by decide) ?_
                        refine xo_ne (tgt := 111) hx hb d_MO_roots_102 (by decide) (fun z hz => by first | (cases hz; done) | (cases hz; omega)) (fun d102 h102 => ?_) (fun h102 => ?_)
                        · skip
                          refine lv_iload_n hx hb d_MO_roots_111 rfl (lv_at hl 4 rfl) ?_
                          refine lv_istore_n (lv' := [(2, .int (nI k)), (3, .int (eo (some (ot2 k)))), (4, .int (nI 1)), (0, .ref (b + 0)), (1, .int (nI al))]) hx hb d_MO_roots_112 rfl hl (by decide) rfl (fun ls hl => ?_)
                          refine lv_goto (tgt := 20) hx hb d_MO_roots_113 (by decide) ?_
                          exact ih20 k (some (ot2 k)) (mu - 1) _ _ _ _ (by omega) (by omega) (fun q => by cases q) (fun q => by cases q) (fun f hf => by cases hf; exact ⟨hkt2, tbit.mp h34, Or.inr ⟨(fun q8 => by have := hz2.mpr q8; rw [bf h59] at this; cases this), hz3.mp (bt h86), rfl⟩⟩) hP hS hX (lv_sub hl [3, 4, 0, 1] rfl)
                        · skip
                          cases h102
                  · skip
                    refine lv_aload_n hx hb d_MO_roots_62 rfl (lv_at hl 1 rfl) ?_
                    refine xw_get (v := .ref (b + 4)) hx hb hts (fun w h => mw (uw_MO w h)) hown hK hP (MV_0 hX) (by decide) rfl 6 (by decide) (hts _ (mw tb_601)) (fun _ h => h) rfl d_MO_roots_63 ?_
                    refine lv_iload_n hx hb d_MO_roots_66 rfl (lv_at hl 3 rfl) ?_
                    refine xw_iald hx hb hK hP 0 (MV_4 hX) (by decide) rfl (by omega) (by decide) d_MO_roots_67 ?_
                    refine lv_goto (tgt := 99) hx hb d_MO_roots_68 (by decide) ?_
                    refine ti (eo (some (on1 k))) rfl ?_
                    refine lv_istore_n (lv' := [(3, .int (eo (some (on1 k)))), (4, .int (nI 1)), (0, .ref (b + 0)), (1, .int (nI al)), (2, .int (nI k))]) hx hb d_MO_roots_99 rfl hl (by decide) rfl (fun ls hl => ?_)
                    refine lv_iload_n hx hb d_MO_roots_100 rfl (lv_at hl 0 rfl) ?_
                    refine lv_iconst (v := (-1)) hx hb d_MO_roots_101 (by decide) ?_
                    refine xo_ne (tgt := 111) hx hb d_MO_roots_102 (by decide) (fun z hz => by first | (cases hz; done) | (cases hz; omega)) (fun d102 h102 => ?_) (fun h102 => ?_)
                    · skip
                      refine lv_iload_n hx hb d_MO_roots_111 rfl (lv_at hl 4 rfl) ?_
                      refine lv_istore_n (lv' := [(2, .int (nI k)), (3, .int (eo (some (on1 k)))), (4, .int (nI 1)), (0, .ref (b + 0)), (1, .int (nI al))]) hx hb d_MO_roots_112 rfl hl (by decide) rfl (fun ls hl => ?_)
                      refine lv_goto (tgt := 20) hx hb d_MO_roots_113 (by decide) ?_
                      exact ih20 k (some (on1 k)) (mu - 1) _ _ _ _ (by omega) (by omega) (fun q => by cases q) (fun q => by cases q) (fun f hf => by cases hf; exact ⟨hkt2, tbit.mp h34, Or.inl ⟨hz2.mp (bt h59), rfl⟩⟩) hP hS hX (lv_sub hl [3, 4, 0, 1] rfl)
                    · skip
                      cases h102
        exact loop20 (tld + 2) 0 none (tld + 1) _ _ _ _ (by omega) (by omega) (fun _ => by omega) (fun _ j hj => absurd hj (by omega)) (fun f hf => by cases hf) hP hS hX (lv_sub hl [2, 3, 1, 0] rfl)
  exact loop9 (lf9 + 1) lf9 bv (2 ^ dts - 1) _ _ _ _ (by omega) (by omega) hJ0 hP hS hX (lv_sub hl [1, 0] rfl)

