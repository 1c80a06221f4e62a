/-! The Model: lay, take -/
abbrev mw2 (mwt : Nat → Nat) : Nat → Nat → Nat := fun d y => mwt (12 * d + y)
def lyF (mwt mab mbe yrs : Nat → Nat) (x : Nat) : Nat := if (yrs (x / 12)).testBit (x % 12) = true then cnt (mw2 mwt) mab mbe (x / 12) (x % 12) else 0
theorem lyF_at {mwt mab mbe yrs : Nat → Nat} {d y : Nat} (hy : y < 12) : lyF mwt mab mbe yrs (12 * d + y) = if (yrs d).testBit y = true then cnt (mw2 mwt) mab mbe d y else 0 := by
  unfold lyF
  rw [show (12 * d + y) / 12 = d by omega, show (12 * d + y) % 12 = y by omega]
def lfU (cn9 : Nat) (on1 ot2 : Nat → Nat) : Nat → Nat
  | 0 => 0
  | k + 1 => if cn9.testBit k = true ∧ on1 k ≠ ot2 k then lfU cn9 on1 ot2 k ||| 2 ^ k else lfU cn9 on1 ot2 k
def mbU (cn9 : Nat) (on1 ot2 : Nat → Nat) : Nat → Nat
  | 0 => 0
  | k + 1 => if cn9.testBit k = true ∧ on1 k = ot2 k then mbU cn9 on1 ot2 k ||| 2 ^ on1 k else mbU cn9 on1 ot2 k
theorem lfU_t {cn9 : Nat} {on1 ot2 : Nat → Nat} {k : Nat} (h : cn9.testBit k = true ∧ on1 k ≠ ot2 k) : lfU cn9 on1 ot2 (k + 1) = lfU cn9 on1 ot2 k ||| 2 ^ k := if_pos h
theorem lfU_f {cn9 : Nat} {on1 ot2 : Nat → Nat} {k : Nat} (h : ¬ (cn9.testBit k = true ∧ on1 k ≠ ot2 k)) : lfU cn9 on1 ot2 (k + 1) = lfU cn9 on1 ot2 k := if_neg h
theorem mbU_t {cn9 : Nat} {on1 ot2 : Nat → Nat} {k : Nat} (h : cn9.testBit k = true ∧ on1 k = ot2 k) : mbU cn9 on1 ot2 (k + 1) = mbU cn9 on1 ot2 k ||| 2 ^ on1 k := if_pos h
theorem mbU_f {cn9 : Nat} {on1 ot2 : Nat → Nat} {k : Nat} (h : ¬ (cn9.testBit k = true ∧ on1 k = ot2 k)) : mbU cn9 on1 ot2 (k + 1) = mbU cn9 on1 ot2 k := if_neg h
theorem lfU_lt (cn9 : Nat) (on1 ot2 : Nat → Nat) : ∀ k, lfU cn9 on1 ot2 k < 2 ^ k := by
  intro k
  induction k with
  | zero => exact (by decide : (0 : Nat) < 1)
  | succ k ih =>
    have h1 : lfU cn9 on1 ot2 k < 2 ^ (k + 1) := Nat.lt_of_lt_of_le ih (Nat.pow_le_pow_right (by decide) (by omega))
    by_cases q : cn9.testBit k = true ∧ on1 k ≠ ot2 k
    · rw [lfU_t q]; exact Nat.or_lt_two_pow h1 (Nat.pow_lt_pow_right (by decide) (by omega))
    · rw [lfU_f q]; exact h1
theorem mbU_lt {cn9 : Nat} {on1 ot2 lea mos : Nat → Nat} {tld : Nat} (hM : MOK on1 ot2 lea mos tld) : ∀ k, k ≤ tld → mbU cn9 on1 ot2 k < 2 ^ 6 := by
  intro k
  induction k with
  | zero => intro _; exact (by decide : (0 : Nat) < 64)
  | succ k ih =>
    intro hk
    by_cases q : cn9.testBit k = true ∧ on1 k = ot2 k
    · rw [mbU_t q]; exact Nat.or_lt_two_pow (ih (by omega)) (Nat.pow_lt_pow_right (by decide) (hM.2 k (by omega)).1)
    · rw [mbU_f q]; exact ih (by omega)
set_option maxHeartbeats 4000000 in
set_option maxRecDepth 100000 in
/-- the numbers, the rows and the members are laid -/
theorem c_MO_lay (l : Launch) (D : va_G) (ca : Nat → ClassId) (b : Nat) (C0 : Nat → va_E) {th : Nat} {dts : Nat} {tld : Nat} {fs9 : Nat} {ls9 : Nat} {cn9 : Nat} {lf9 : Nat} {mb9 : Nat} {mwt : Nat → Nat} {mab : Nat → Nat} {mbe : Nat → Nat} {on1 : Nat → Nat} {ot2 : Nat → Nat} {lea : Nat → Nat} {mos : Nat → Nat} {yrs : Nat → Nat} {bv : Nat → Nat}  (hX : MV ca b C0 th dts tld fs9 ls9 cn9 lf9 mb9 mwt mab mbe on1 ot2 lea mos yrs bv) (hM : MOK on1 ot2 lea mos tld) (hD : DOK (mw2 mwt) mab mbe dts) (hyr : ∀ d, d < 6 → yrs d < 4096) (hcn : cn9 < 2 ^ 31) : Met l y_MO_lay (k_MO_lay :: gw) ({ frames := 2, cells := 0, slots := 0, locals := 36 }) (xPc D ca b 11 C0 [.ref (b + 0)]) (xQ D b 11 (fun r C1 => r = none ∧ MV ca b C1 th dts tld fs9 ls9 cn9 (lfU cn9 on1 ot2 tld) (mbU cn9 on1 ot2 tld) mwt mab mbe on1 ot2 lea mos yrs (upto (12 * dts) (lyF mwt mab mbe yrs) bv))) 0 0 (xr b 11) := by
  refine Met.ofW (cc := b_MO_lay) (maxL := 3) (ret := none) (by decide) rfl ?_
  intro p e s m args below meth c s₁ B hml hv
  obtain ⟨hav, hP, hK⟩ := hv
  have hx := B.exec
  have hb := B.bytes
  have hr := B.returns
  have hts := atoms_spec (ws := k_MO_lay :: gw) B.pre
  have hown : s.vm.findClass R_MO = some m.cls := findClass_of_methodNamed B.named
  have hlocks := B.notSynchronized
  have hA : ∀ k, k < 11 → xr b 11 (b + k) := xr_in
  have hS : va_S (xr b 11) s.heap s.heap [] := va_S.rf
  have hl := lv_entry ([.ref (b + 0)]) (n := 3) (Nat.le_of_ble_eq_true rfl)
  rw [hav, lg_entry_eq]
  generalize (lg_sl ([.ref (b + 0)]) ++ List.replicate (3 - (lg_sl ([.ref (b + 0)])).length) Slot.unset).toArray = ls at hl ⊢
  have hl : lv_has ls 3 [(0, .ref (b + 0))] := hl
  rw [← hav]
  have hM6 := hM.1
  have hD6 := hD.1
  refine lv_aload_n hx hb d_MO_lay_0 rfl (lv_at hl 0 rfl) ?_
  refine lv_iconst (v := nI 0) hx hb d_MO_lay_1 (by decide) ?_
  refine xw_put (v := .int (nI 0)) (ty := t_MO 16) hx hb hts (fun w h => mw (uw_MO w h)) t_MO t_MO_ok n_MO hown hK hP hA hS (MV_0 hX) (by decide) rfl 16 (by decide) (hts _ (mw tb_611)) (fun _ h => h) rfl (by decide +kernel) rfl rfl (Nat.le_of_ble_eq_true rfl) d_MO_lay_2 (fun H locs hP hS => ?_)
  have hX := MV_set_lf9 (x1 := 0) hX
  generalize va_up _ 0 _ = C at hP hX
  refine lv_aload_n hx hb d_MO_lay_5 rfl (lv_at hl 0 rfl) ?_
  refine lv_iconst (v := nI 0) hx hb d_MO_lay_6 (by decide) ?_
  refine xw_put (v := .int (nI 0)) (ty := t_MO 17) hx hb hts (fun w h => mw (uw_MO w h)) t_MO t_MO_ok n_MO hown hK hP hA hS (MV_0 hX) (by decide) rfl 17 (by decide) (hts _ (mw tb_612)) (fun _ h => h) rfl (by decide +kernel) rfl rfl (Nat.le_of_ble_eq_true rfl) d_MO_lay_7 (fun H locs hP hS => ?_)
  have hX := MV_set_mb9 (x1 := 0) hX
  generalize va_up _ 0 _ = C at hP hX
  refine lv_iconst (v := nI 0) hx hb d_MO_lay_10 (by decide) ?_
  refine lv_istore_n (lv' := [(1, .int (nI 0)), (0, .ref (b + 0))]) hx hb d_MO_lay_11 rfl hl (by decide) rfl (fun ls hl => ?_)
  have loop12 : ∀ (r : Nat) (d : Nat) (C : Nat → va_E) (H : Heap) (locs : List Loc) (ls : Array Slot), dts < d + r → d ≤ dts → va_P D classes (wl b 11 C) H → va_S (xr b 11) s.heap H locs → MV ca b C th dts tld fs9 ls9 cn9 0 0 mwt mab mbe on1 ot2 lea mos yrs (upto (12 * d) (lyF mwt mab mbe yrs) bv) → lv_has ls 3 [(0, .ref (b + 0)), (1, .int (nI d))] → W p l e (headSpec (k_MO_lay :: gw) ({ frames := 2, cells := 0, slots := 0, locals := 36 })).room s m args below meth c H locs 0 0 (MQ below (xQ D b 11 (fun r C1 => r = none ∧ MV ca b C1 th dts tld fs9 ls9 cn9 (lfU cn9 on1 ot2 tld) (mbU cn9 on1 ot2 tld) mwt mab mbe on1 ot2 lea mos yrs (upto (12 * dts) (lyF mwt mab mbe yrs) bv))) args s 0 0 (xr b 11)) (F0 m 12 ls []) := by
    intro r
    induction r with
    | zero => intro d C H locs ls hms hd; exact absurd hms (by omega)
    | succ r ih12 =>
      intro d C H locs ls hms hd hP hS hX hl
      refine lv_iload_n hx hb d_MO_lay_12 rfl (lv_at hl 1 rfl) ?_
      refine lv_aload_n hx hb d_MO_lay_13 rfl (lv_at hl 0 rfl) ?_
      refine xw_get (v := .int (nI dts)) hx hb hts (fun w h => mw (uw_MO w h)) hown hK hP (MV_0 hX) (by decide) rfl 1 (by decide) (hts _ (mw tb_596)) (fun _ h => h) rfl d_MO_lay_14 ?_
      refine xi_ge (tgt := 74) hx hb d_MO_lay_17 (by decide) (by omega) (by omega) (fun h17 => ?_) (fun h17 => ?_)
      · skip
        have ed : d = dts := by omega
        rw [ed] at hX
        refine lv_iconst (v := nI 0) hx hb d_MO_lay_74 (by decide) ?_
        refine lv_istore_n (lv' := [(1, .int (nI 0)), (0, .ref (b + 0))]) hx hb d_MO_lay_75 rfl hl (by decide) rfl (fun ls hl => ?_)
        have loop76 : ∀ (r : Nat) (k : Nat) (C : Nat → va_E) (H : Heap) (locs : List Loc) (ls : Array Slot), tld < k + r → k ≤ tld → va_P D classes (wl b 11 C) H → va_S (xr b 11) s.heap H locs → MV ca b C th dts tld fs9 ls9 cn9 (lfU cn9 on1 ot2 k) (mbU cn9 on1 ot2 k) mwt mab mbe on1 ot2 lea mos yrs (upto (12 * dts) (lyF mwt mab mbe yrs) bv) → lv_has ls 3 [(0, .ref (b + 0)), (1, .int (nI k))] → W p l e (headSpec (k_MO_lay :: gw) ({ frames := 2, cells := 0, slots := 0, locals := 36 })).room s m args below meth c H locs 0 0 (MQ below (xQ D b 11 (fun r C1 => r = none ∧ MV ca b C1 th dts tld fs9 ls9 cn9 (lfU cn9 on1 ot2 tld) (mbU cn9 on1 ot2 tld) mwt mab mbe on1 ot2 lea mos yrs (upto (12 * dts) (lyF mwt mab mbe yrs) bv))) args s 0 0 (xr b 11)) (F0 m 76 ls []) := by
          intro r
          induction r with
          | zero => intro k C H locs ls hms hk; exact absurd hms (by omega)
          | succ r ih76 =>
            intro k C H locs ls hms hk hP hS hX hl
            refine lv_iload_n hx hb d_MO_lay_76 rfl (lv_at hl 1 rfl) ?_
            refine lv_aload_n hx hb d_MO_lay_77 rfl (lv_at hl 0 rfl) ?_
            refine xw_get (v := .int (nI tld)) hx hb hts (fun w h => mw (uw_MO w h)) hown hK hP (MV_0 hX) (by decide) rfl 5 (by decide) (hts _ (mw tb_600)) (fun _ h => h) rfl d_MO_lay_78 ?_
            refine xi_ge (tgt := 165) hx hb d_MO_lay_81 (by decide) (by omega) (by omega) (fun h81 => ?_) (fun h81 => ?_)
            · skip
              have ek : k = tld := by omega
              rw [ek] at hX
              exact xw_vret hx hb hr hlocks hP hS ⟨rfl, hX⟩ d_MO_lay_165
            · skip
              obtain ⟨ho1, ho2, -, -⟩ := hM.2 k h81
              refine lv_aload_n hx hb d_MO_lay_84 rfl (lv_at hl 0 rfl) ?_
              refine lv_aload_n hx hb d_MO_lay_85 rfl (lv_at hl 0 rfl) ?_
              refine lv_iload_n hx hb d_MO_lay_86 rfl (lv_at hl 1 rfl) ?_
              obtain ⟨bg9, wd9, hX, hB9⟩ := hX
              refine xc_V (n := 1) (g0 := 0) (As := [.int (nI k)]) (rest := [.ref (b + 0)]) (st0 := _) hx hb hml hown hts (c_MO_counted l D ca b _ k hX (by omega) (by omega)) km_MO_counted tb_728 tb_730 tps_30 tb_7 (by decide +kernel) rfl rfl ⟨Nat.le_of_ble_eq_true rfl, Nat.le_of_ble_eq_true rfl⟩ hK hP (MR_0 hX) (by decide) rfl rfl rfl hl rfl (Nat.le_of_ble_eq_true rfl) d_MO_lay_87 ⟨Nat.zero_le _, Nat.zero_le _⟩ hS (fun _ h => h) (fun v C H locs hp hP _ _ hS => ?_)
              obtain ⟨z1, rfl, hz1, hX⟩ := hp
              have hX : MV ca b C th dts tld fs9 ls9 cn9 (lfU cn9 on1 ot2 k) (mbU cn9 on1 ot2 k) mwt mab mbe on1 ot2 lea mos yrs (upto (12 * dts) (lyF mwt mab mbe yrs) bv) := ⟨_, _, hX, hB9⟩
              refine xz_eq (tgt := 112) hx hb d_MO_lay_90 (by decide) (tn31 _) (fun h90 => ?_) (fun h90 => ?_)
              · skip
                refine lv_aload_n hx hb d_MO_lay_112 rfl (lv_at hl 0 rfl) ?_
                refine xw_get (v := .int (nI (lfU cn9 on1 ot2 k))) hx hb hts (fun w h => mw (uw_MO w h)) hown hK hP (MV_0 hX) (by decide) rfl 16 (by decide) (hts _ (mw tb_611)) (fun _ h => h) rfl d_MO_lay_113 ?_
                refine ti (nI (lfU cn9 on1 ot2 (k + 1))) (by rw [lfU_f (fun q => (fun q9 => by have := hz1.mpr q9; rw [bf h90] at this; cases this) q.1)]) ?_
                refine xw_put (v := .int (nI (lfU cn9 on1 ot2 (k + 1)))) (ty := t_MO 16) hx hb hts (fun w h => mw (uw_MO w h)) t_MO t_MO_ok n_MO hown hK hP hA hS (MV_0 hX) (by decide) rfl 16 (by decide) (hts _ (mw tb_611)) (fun _ h => h) rfl (by decide +kernel) rfl rfl (Nat.le_of_ble_eq_true rfl) d_MO_lay_116 (fun H locs hP hS => ?_)
                have hX := MV_set_lf9 (x1 := lfU cn9 on1 ot2 (k + 1)) hX
                generalize va_up _ 0 _ = C at hP hX
                refine lv_aload_n hx hb d_MO_lay_119 rfl (lv_at hl 0 rfl) ?_
                refine lv_aload_n hx hb d_MO_lay_120 rfl (lv_at hl 0 rfl) ?_
                refine lv_iload_n hx hb d_MO_lay_121 rfl (lv_at hl 1 rfl) ?_
                obtain ⟨bg9, wd9, hX, hB9⟩ := hX
                refine xc_V (n := 1) (g0 := 0) (As := [.int (nI k)]) (rest := [.ref (b + 0)]) (st0 := _) hx hb hml hown hts (c_MO_counted l D ca b _ k hX (by omega) (by omega)) km_MO_counted tb_728 tb_730 tps_30 tb_7 (by decide +kernel) rfl rfl ⟨Nat.le_of_ble_eq_true rfl, Nat.le_of_ble_eq_true rfl⟩ hK hP (MR_0 hX) (by decide) rfl rfl rfl hl rfl (Nat.le_of_ble_eq_true rfl) d_MO_lay_122 ⟨Nat.zero_le _, Nat.zero_le _⟩ hS (fun _ h => h) (fun v C H locs hp hP _ _ hS => ?_)
                obtain ⟨z2, rfl, hz2, hX⟩ := hp
                have hX : MV ca b C th dts tld fs9 ls9 cn9 (lfU cn9 on1 ot2 (k + 1)) (mbU cn9 on1 ot2 k) mwt mab mbe on1 ot2 lea mos yrs (upto (12 * dts) (lyF mwt mab mbe yrs) bv) := ⟨_, _, hX, hB9⟩
                refine xz_eq (tgt := 152) hx hb d_MO_lay_125 (by decide) (tn31 _) (fun h125 => ?_) (fun h125 => ?_)
                · skip
                  refine lv_aload_n hx hb d_MO_lay_152 rfl (lv_at hl 0 rfl) ?_
                  refine xw_get (v := .int (nI (mbU cn9 on1 ot2 k))) hx hb hts (fun w h => mw (uw_MO w h)) hown hK hP (MV_0 hX) (by decide) rfl 17 (by decide) (hts _ (mw tb_612)) (fun _ h => h) rfl d_MO_lay_153 ?_
                  refine ti (nI (mbU cn9 on1 ot2 (k + 1))) (by rw [mbU_f (fun q => (fun q9 => by have := hz2.mpr q9; rw [bf h125] at this; cases this) q.1)]) ?_
                  refine xw_put (v := .int (nI (mbU cn9 on1 ot2 (k + 1)))) (ty := t_MO 17) hx hb hts (fun w h => mw (uw_MO w h)) t_MO t_MO_ok n_MO hown hK hP hA hS (MV_0 hX) (by decide) rfl 17 (by decide) (hts _ (mw tb_612)) (fun _ h => h) rfl (by decide +kernel) rfl rfl (Nat.le_of_ble_eq_true rfl) d_MO_lay_156 (fun H locs hP hS => ?_)
                  have hX := MV_set_mb9 (x1 := mbU cn9 on1 ot2 (k + 1)) hX
                  generalize va_up _ 0 _ = C at hP hX
                  refine lv_iinc (v := nI (k + 1)) (lv' := [(1, .int (nI (k + 1))), (0, .ref (b + 0))]) hx hb d_MO_lay_159 hl (k := 1) rfl (show nI k + Int32.ofInt 1 = nI (k + 1) from nI_add _ _) (by decide) rfl (fun ls hl => ?_)
                  refine lv_goto (tgt := 76) hx hb d_MO_lay_162 (by decide) ?_
                  exact ih76 (k + 1) _ _ _ _ (by omega) (by omega) hP hS hX (lv_sub hl [1, 0] rfl)
                · skip
                  refine lv_aload_n hx hb d_MO_lay_128 rfl (lv_at hl 0 rfl) ?_
                  refine lv_iload_n hx hb d_MO_lay_129 rfl (lv_at hl 1 rfl) ?_
                  obtain ⟨bg9, wd9, hX, hB9⟩ := hX
                  refine xc_V (n := 1) (g0 := 0) (As := [.int (nI k)]) (rest := [.ref (b + 0)]) (st0 := _) hx hb hml hown hts (c_MO_isMember l D ca b _ k hX (by omega) ho1 ho2) km_MO_isMember tb_689 tb_691 tps_23 tb_7 (by decide +kernel) rfl rfl ⟨Nat.le_of_ble_eq_true rfl, Nat.le_of_ble_eq_true rfl⟩ hK hP (MR_0 hX) (by decide) rfl rfl rfl hl rfl (Nat.le_of_ble_eq_true rfl) d_MO_lay_130 ⟨Nat.zero_le _, Nat.zero_le _⟩ hS (fun _ h => h) (fun v C H locs hp hP _ _ hS => ?_)
                  obtain ⟨z3, rfl, hz3, hX⟩ := hp
                  have hX : MV ca b C th dts tld fs9 ls9 cn9 (lfU cn9 on1 ot2 (k + 1)) (mbU cn9 on1 ot2 k) mwt mab mbe on1 ot2 lea mos yrs (upto (12 * dts) (lyF mwt mab mbe yrs) bv) := ⟨_, _, hX, hB9⟩
                  refine xz_eq (tgt := 152) hx hb d_MO_lay_133 (by decide) (tn31 _) (fun h133 => ?_) (fun h133 => ?_)
                  · skip
                    refine lv_aload_n hx hb d_MO_lay_152 rfl (lv_at hl 0 rfl) ?_
                    refine xw_get (v := .int (nI (mbU cn9 on1 ot2 k))) hx hb hts (fun w h => mw (uw_MO w h)) hown hK hP (MV_0 hX) (by decide) rfl 17 (by decide) (hts _ (mw tb_612)) (fun _ h => h) rfl d_MO_lay_153 ?_
                    refine ti (nI (mbU cn9 on1 ot2 (k + 1))) (by rw [mbU_f (fun q => (fun q9 => by have := hz3.mpr q9; rw [bf h133] at this; cases this) q.2)]) ?_
                    refine xw_put (v := .int (nI (mbU cn9 on1 ot2 (k + 1)))) (ty := t_MO 17) hx hb hts (fun w h => mw (uw_MO w h)) t_MO t_MO_ok n_MO hown hK hP hA hS (MV_0 hX) (by decide) rfl 17 (by decide) (hts _ (mw tb_612)) (fun _ h => h) rfl (by decide +kernel) rfl rfl (Nat.le_of_ble_eq_true rfl) d_MO_lay_156 (fun H locs hP hS => ?_)
                    have hX := MV_set_mb9 (x1 := mbU cn9 on1 ot2 (k + 1)) hX
                    generalize va_up _ 0 _ = C at hP hX
                    refine lv_iinc (v := nI (k + 1)) (lv' := [(1, .int (nI (k + 1))), (0, .ref (b + 0))]) hx hb d_MO_lay_159 hl (k := 1) rfl (show nI k + Int32.ofInt 1 = nI (k + 1) from nI_add _ _) (by decide) rfl (fun ls hl => ?_)
                    refine lv_goto (tgt := 76) hx hb d_MO_lay_162 (by decide) ?_
                    exact ih76 (k + 1) _ _ _ _ (by omega) (by omega) hP hS hX (lv_sub hl [1, 0] rfl)
                  · skip
                    refine lv_aload_n hx hb d_MO_lay_136 rfl (lv_at hl 0 rfl) ?_
                    refine xw_get (v := .int (nI (mbU cn9 on1 ot2 k))) hx hb hts (fun w h => mw (uw_MO w h)) hown hK hP (MV_0 hX) (by decide) rfl 17 (by decide) (hts _ (mw tb_612)) (fun _ h => h) rfl d_MO_lay_137 ?_
                    refine lv_iconst (v := nI 1) hx hb d_MO_lay_140 (by decide) ?_
                    refine lv_aload_n hx hb d_MO_lay_141 rfl (lv_at hl 0 rfl) ?_
                    refine xw_get (v := .ref (b + 4)) hx hb hts (fun w h => mw (uw_MO w h)) hown hK hP (MV_0 hX) (by decide) rfl 6 (by decide) (hts _ (mw tb_601)) (fun _ h => h) rfl d_MO_lay_142 ?_
                    refine lv_iload_n hx hb d_MO_lay_145 rfl (lv_at hl 1 rfl) ?_
                    refine xw_iald hx hb hK hP 0 (MV_4 hX) (by decide) rfl (by omega) (by decide) d_MO_lay_146 ?_
                    refine lv_ishl hx hb d_MO_lay_147 ?_
                    refine ti (nI (2 ^ (on1 k))) (sh1 (by omega)) ?_
                    refine lv_ior hx hb d_MO_lay_148 ?_
                    refine ti (nI ((mbU cn9 on1 ot2 k) ||| (2 ^ (on1 k)))) (nx_or _ _) ?_
                    refine lv_goto (tgt := 156) hx hb d_MO_lay_149 (by decide) ?_
                    refine ti (nI (mbU cn9 on1 ot2 (k + 1))) (by rw [mbU_t ⟨hz2.mp (bt h125), hz3.mp (bt h133)⟩]) ?_
                    refine xw_put (v := .int (nI (mbU cn9 on1 ot2 (k + 1)))) (ty := t_MO 17) hx hb hts (fun w h => mw (uw_MO w h)) t_MO t_MO_ok n_MO hown hK hP hA hS (MV_0 hX) (by decide) rfl 17 (by decide) (hts _ (mw tb_612)) (fun _ h => h) rfl (by decide +kernel) rfl rfl (Nat.le_of_ble_eq_true rfl) d_MO_lay_156 (fun H locs hP hS => ?_)
                    have hX := MV_set_mb9 (x1 := mbU cn9 on1 ot2 (k + 1)) hX
                    generalize va_up _ 0 _ = C at hP hX
                    refine lv_iinc (v := nI (k + 1)) (lv' := [(1, .int (nI (k + 1))), (0, .ref (b + 0))]) hx hb d_MO_lay_159 hl (k := 1) rfl (show nI k + Int32.ofInt 1 = nI (k + 1) from nI_add _ _) (by decide) rfl (fun ls hl => ?_)
                    refine lv_goto (tgt := 76) hx hb d_MO_lay_162 (by decide) ?_
                    exact ih76 (k + 1) _ _ _ _ (by omega) (by omega) hP hS hX (lv_sub hl [1, 0] rfl)
              · skip
                refine lv_aload_n hx hb d_MO_lay_93 rfl (lv_at hl 0 rfl) ?_
                refine lv_iload_n hx hb d_MO_lay_94 rfl (lv_at hl 1 rfl) ?_
                obtain ⟨bg9, wd9, hX, hB9⟩ := hX
                refine xc_V (n := 1) (g0 := 0) (As := [.int (nI k)]) (rest := [.ref (b + 0)]) (st0 := _) hx hb hml hown hts (c_MO_isMember l D ca b _ k hX (by omega) ho1 ho2) km_MO_isMember tb_689 tb_691 tps_23 tb_7 (by decide +kernel) rfl rfl ⟨Nat.le_of_ble_eq_true rfl, Nat.le_of_ble_eq_true rfl⟩ hK hP (MR_0 hX) (by decide) rfl rfl rfl hl rfl (Nat.le_of_ble_eq_true rfl) d_MO_lay_95 ⟨Nat.zero_le _, Nat.zero_le _⟩ hS (fun _ h => h) (fun v C H locs hp hP _ _ hS => ?_)
                obtain ⟨z4, rfl, hz4, hX⟩ := hp
                have hX : MV ca b C th dts tld fs9 ls9 cn9 (lfU cn9 on1 ot2 k) (mbU cn9 on1 ot2 k) mwt mab mbe on1 ot2 lea mos yrs (upto (12 * dts) (lyF mwt mab mbe yrs) bv) := ⟨_, _, hX, hB9⟩
                refine xz_ne (tgt := 112) hx hb d_MO_lay_98 (by decide) (tn31 _) (fun h98 => ?_) (fun h98 => ?_)
                · skip
                  refine lv_aload_n hx hb d_MO_lay_112 rfl (lv_at hl 0 rfl) ?_
                  refine xw_get (v := .int (nI (lfU cn9 on1 ot2 k))) hx hb hts (fun w h => mw (uw_MO w h)) hown hK hP (MV_0 hX) (by decide) rfl 16 (by decide) (hts _ (mw tb_611)) (fun _ h => h) rfl d_MO_lay_113 ?_
                  refine ti (nI (lfU cn9 on1 ot2 (k + 1))) (by rw [lfU_f (fun q => q.2 (hz4.mp (bt h98)))]) ?_
                  refine xw_put (v := .int (nI (lfU cn9 on1 ot2 (k + 1)))) (ty := t_MO 16) hx hb hts (fun w h => mw (uw_MO w h)) t_MO t_MO_ok n_MO hown hK hP hA hS (MV_0 hX) (by decide) rfl 16 (by decide) (hts _ (mw tb_611)) (fun _ h => h) rfl (by decide +kernel) rfl rfl (Nat.le_of_ble_eq_true rfl) d_MO_lay_116 (fun H locs hP hS => ?_)
                  have hX := MV_set_lf9 (x1 := lfU cn9 on1 ot2 (k + 1)) hX
                  generalize va_up _ 0 _ = C at hP hX
                  refine lv_aload_n hx hb d_MO_lay_119 rfl (lv_at hl 0 rfl) ?_
                  refine lv_aload_n hx hb d_MO_lay_120 rfl (lv_at hl 0 rfl) ?_
                  refine lv_iload_n hx hb d_MO_lay_121 rfl (lv_at hl 1 rfl) ?_
                  obtain ⟨bg9, wd9, hX, hB9⟩ := hX
                  refine xc_V (n := 1) (g0 := 0) (As := [.int (nI k)]) (rest := [.ref (b + 0)]) (st0 := _) hx hb hml hown hts (c_MO_counted l D ca b _ k hX (by omega) (by omega)) km_MO_counted tb_728 tb_730 tps_30 tb_7 (by decide +kernel) rfl rfl ⟨Nat.le_of_ble_eq_true rfl, Nat.le_of_ble_eq_true rfl⟩ hK hP (MR_0 hX) (by decide) rfl rfl rfl hl rfl (Nat.le_of_ble_eq_true rfl) d_MO_lay_122 ⟨Nat.zero_le _, Nat.zero_le _⟩ hS (fun _ h => h) (fun v C H locs hp hP _ _ hS => ?_)
                  obtain ⟨z5, rfl, hz5, hX⟩ := hp
                  have hX : MV ca b C th dts tld fs9 ls9 cn9 (lfU cn9 on1 ot2 (k + 1)) (mbU cn9 on1 ot2 k) mwt mab mbe on1 ot2 lea mos yrs (upto (12 * dts) (lyF mwt mab mbe yrs) bv) := ⟨_, _, hX, hB9⟩
                  refine xz_eq (tgt := 152) hx hb d_MO_lay_125 (by decide) (tn31 _) (fun h125 => ?_) (fun h125 => ?_)
                  · skip
                    refine lv_aload_n hx hb d_MO_lay_152 rfl (lv_at hl 0 rfl) ?_
                    refine xw_get (v := .int (nI (mbU cn9 on1 ot2 k))) hx hb hts (fun w h => mw (uw_MO w h)) hown hK hP (MV_0 hX) (by decide) rfl 17 (by decide) (hts _ (mw tb_612)) (fun _ h => h) rfl d_MO_lay_153 ?_
                    refine ti (nI (mbU cn9 on1 ot2 (k + 1))) (by rw [mbU_f (fun q => (fun q9 => by have := hz5.mpr q9; rw [bf h125] at this; cases this) q.1)]) ?_
                    refine xw_put (v := .int (nI (mbU cn9 on1 ot2 (k + 1)))) (ty := t_MO 17) hx hb hts (fun w h => mw (uw_MO w h)) t_MO t_MO_ok n_MO hown hK hP hA hS (MV_0 hX) (by decide) rfl 17 (by decide) (hts _ (mw tb_612)) (fun _ h => h) rfl (by decide +kernel) rfl rfl (Nat.le_of_ble_eq_true rfl) d_MO_lay_156 (fun H locs hP hS => ?_)
                    have hX := MV_set_mb9 (x1 := mbU cn9 on1 ot2 (k + 1)) hX
                    generalize va_up _ 0 _ = C at hP hX
                    refine lv_iinc (v := nI (k + 1)) (lv' := [(1, .int (nI (k + 1))), (0, .ref (b + 0))]) hx hb d_MO_lay_159 hl (k := 1) rfl (show nI k + Int32.ofInt 1 = nI (k + 1) from nI_add _ _) (by decide) rfl (fun ls hl => ?_)
                    refine lv_goto (tgt := 76) hx hb d_MO_lay_162 (by decide) ?_
                    exact ih76 (k + 1) _ _ _ _ (by omega) (by omega) hP hS hX (lv_sub hl [1, 0] rfl)
                  · skip
                    refine lv_aload_n hx hb d_MO_lay_128 rfl (lv_at hl 0 rfl) ?_
                    refine lv_iload_n hx hb d_MO_lay_129 rfl (lv_at hl 1 rfl) ?_
                    obtain ⟨bg9, wd9, hX, hB9⟩ := hX
                    refine xc_V (n := 1) (g0 := 0) (As := [.int (nI k)]) (rest := [.ref (b + 0)]) (st0 := _) hx hb hml hown hts (c_MO_isMember l D ca b _ k hX (by omega) ho1 ho2) km_MO_isMember tb_689 tb_691 tps_23 tb_7 (by decide +kernel) rfl rfl ⟨Nat.le_of_ble_eq_true rfl, Nat.le_of_ble_eq_true rfl⟩ hK hP (MR_0 hX) (by decide) rfl rfl rfl hl rfl (Nat.le_of_ble_eq_true rfl) d_MO_lay_130 ⟨Nat.zero_le _, Nat.zero_le _⟩ hS (fun _ h => h) (fun v C H locs hp hP _ _ hS => ?_)
                    obtain ⟨z6, rfl, hz6, hX⟩ := hp
                    have hX : MV ca b C th dts tld fs9 ls9 cn9 (lfU cn9 on1 ot2 (k + 1)) (mbU cn9 on1 ot2 k) mwt mab mbe on1 ot2 lea mos yrs (upto (12 * dts) (lyF mwt mab mbe yrs) bv) := ⟨_, _, hX, hB9⟩
                    refine xz_eq (tgt := 152) hx hb d_MO_lay_133 (by decide) (tn31 _) (fun h133 => ?_) (fun h133 => ?_)
                    · skip
                      refine lv_aload_n hx hb d_MO_lay_152 rfl (lv_at hl 0 rfl) ?_
                      refine xw_get (v := .int (nI (mbU cn9 on1 ot2 k))) hx hb hts (fun w h => mw (uw_MO w h)) hown hK hP (MV_0 hX) (by decide) rfl 17 (by decide) (hts _ (mw tb_612)) (fun _ h => h) rfl d_MO_lay_153 ?_
                      refine ti (nI (mbU cn9 on1 ot2 (k + 1))) (by rw [mbU_f (fun q => (fun q9 => by have := hz6.mpr q9; rw [bf h133] at this; cases this) q.2)]) ?_
                      refine xw_put (v := .int (nI (mbU cn9 on1 ot2 (k + 1)))) (ty := t_MO 17) hx hb hts (fun w h => mw (uw_MO w h)) t_MO t_MO_ok n_MO hown hK hP hA hS (MV_0 hX) (by decide) rfl 17 (by decide) (hts _ (mw tb_612)) (fun _ h => h) rfl (by decide +kernel) rfl rfl (Nat.le_of_ble_eq_true rfl) d_MO_lay_156 (fun H locs hP hS => ?_)
                      have hX := MV_set_mb9 (x1 := mbU cn9 on1 ot2 (k + 1)) hX
                      generalize va_up _ 0 _ = C at hP hX
                      refine lv_iinc (v := nI (k + 1)) (lv' := [(1, .int (nI (k + 1))), (0, .ref (b + 0))]) hx hb d_MO_lay_159 hl (k := 1) rfl (show nI k + Int32.ofInt 1 = nI (k + 1) from nI_add _ _) (by decide) rfl (fun ls hl => ?_)
                      refine lv_goto (tgt := 76) hx hb d_MO_lay_162 (by decide) ?_
                      exact ih76 (k + 1) _ _ _ _ (by omega) (by omega) hP hS hX (lv_sub hl [1, 0] rfl)
                    · skip
                      refine lv_aload_n hx hb d_MO_lay_136 rfl (lv_at hl 0 rfl) ?_
                      refine xw_get (v := .int (nI (mbU cn9 on1 ot2 k))) hx hb hts (fun w h => mw (uw_MO w h)) hown hK hP (MV_0 hX) (by decide) rfl 17 (by decide) (hts _ (mw tb_612)) (fun _ h => h) rfl d_MO_lay_137 ?_
                      refine lv_iconst (v := nI 1) hx hb d_MO_lay_140 (by decide) ?_
                      refine lv_aload_n hx hb d_MO_lay_141 rfl (lv_at hl 0 rfl) ?_
                      refine xw_get (v := .ref (b + 4)) hx hb hts (fun w h => mw (uw_MO w h)) hown hK hP (MV_0 hX) (by decide) rfl 6 (by decide) (hts _ (mw tb_601)) (fun _ h => h) rfl d_MO_lay_142 ?_
                      refine lv_iload_n hx hb d_MO_lay_145 rfl (lv_at hl 1 rfl) ?_
                      refine xw_iald hx hb hK hP 0 (MV_4 hX) (by decide) rfl (by omega) (by decide) d_MO_lay_146 ?_
                      refine lv_ishl hx hb d_MO_lay_147 ?_
                      refine ti (nI (2 ^ (on1 k))) (sh1 (by omega)) ?_
                      refine lv_ior hx hb d_MO_lay_148 ?_
                      refine ti (nI ((mbU cn9 on1 ot2 k) ||| (2 ^ (on1 k)))) (nx_or _ _) ?_
                      refine lv_goto (tgt := 156) hx hb d_MO_lay_149 (by decide) ?_
                      refine ti (nI (mbU cn9 on1 ot2 (k + 1))) (by rw [mbU_t ⟨hz5.mp (bt h125), hz6.mp (bt h133)⟩]) ?_
                      refine xw_put (v := .int (nI (mbU cn9 on1 ot2 (k + 1)))) (ty := t_MO 17) hx hb hts (fun w h => mw (uw_MO w h)) t_MO t_MO_ok n_MO hown hK hP hA hS (MV_0 hX) (by decide) rfl 17 (by decide) (hts _ (mw tb_612)) (fun _ h => h) rfl (by decide +kernel) rfl rfl (Nat.le_of_ble_eq_true rfl) d_MO_lay_156 (fun H locs hP hS => ?_)
                      have hX := MV_set_mb9 (x1 := mbU cn9 on1 ot2 (k + 1)) hX
                      generalize va_up _ 0 _ = C at hP hX
                      refine lv_iinc (v := nI (k + 1)) (lv' := [(1, .int (nI (k + 1))), (0, .ref (b + 0))]) hx hb d_MO_lay_159 hl (k := 1) rfl (show nI k + Int32.ofInt 1 = nI (k + 1) from nI_add _ _) (by decide) rfl (fun ls hl => ?_)
                      refine lv_goto (tgt := 76) hx hb d_MO_lay_162 (by decide) ?_
                      exact ih76 (k + 1) _ _ _ _ (by omega) (by omega) hP hS hX (lv_sub hl [1, 0] rfl)
                · skip
                  refine lv_aload_n hx hb d_MO_lay_101 rfl (lv_at hl 0 rfl) ?_
                  refine xw_get (v := .int (nI (lfU cn9 on1 ot2 k))) hx hb hts (fun w h => mw (uw_MO w h)) hown hK hP (MV_0 hX) (by decide) rfl 16 (by decide) (hts _ (mw tb_611)) (fun _ h => h) rfl d_MO_lay_102 ?_
                  refine lv_iconst (v := nI 1) hx hb d_MO_lay_105 (by decide) ?_
                  refine lv_iload_n hx hb d_MO_lay_106 rfl (lv_at hl 1 rfl) ?_
                  refine lv_ishl hx hb d_MO_lay_107 ?_
                  refine ti (nI (2 ^ k)) (sh1 (by omega)) ?_
                  refine lv_ior hx hb d_MO_lay_108 ?_
                  refine ti (nI ((lfU cn9 on1 ot2 k) ||| (2 ^ k))) (nx_or _ _) ?_
                  refine lv_goto (tgt := 116) hx hb d_MO_lay_109 (by decide) ?_
                  refine ti (nI (lfU cn9 on1 ot2 (k + 1))) (by rw [lfU_t ⟨hz1.mp (bt h90), fun q9 => by have := hz4.mpr q9; rw [bf h98] at this; cases this⟩]) ?_
                  refine xw_put (v := .int (nI (lfU cn9 on1 ot2 (k + 1)))) (ty := t_MO 16) hx hb hts (fun w h => mw (uw_MO w h)) t_MO t_MO_ok n_MO hown hK hP hA hS (MV_0 hX) (by decide) rfl 16 (by decide) (hts _ (mw tb_611)) (fun _ h => h) rfl (by decide +kernel) rfl rfl (Nat.le_of_ble_eq_true rfl) d_MO_lay_116 (fun H locs hP hS => ?_)
                  have hX := MV_set_lf9 (x1 := lfU cn9 on1 ot2 (k + 1)) hX
                  generalize va_up _ 0 _ = C at hP hX
                  refine lv_aload_n hx hb d_MO_lay_119 rfl (lv_at hl 0 rfl) ?_
                  refine lv_aload_n hx hb d_MO_lay_120 rfl (lv_at hl 0 rfl) ?_
                  refine lv_iload_n hx hb d_MO_lay_121 rfl (lv_at hl 1 rfl) ?_
                  obtain ⟨bg9, wd9, hX, hB9⟩ := hX
                  refine xc_V (n := 1) (g0 := 0) (As := [.int (nI k)]) (rest := [.ref (b + 0)]) (st0 := _) hx hb hml hown hts (c_MO_counted l D ca b _ k hX (by omega) (by omega)) km_MO_counted tb_728 tb_730 tps_30 tb_7 (by decide +kernel) rfl rfl ⟨Nat.le_of_ble_eq_true rfl, Nat.le_of_ble_eq_true rfl⟩ hK hP (MR_0 hX) (by decide) rfl rfl rfl hl rfl (Nat.le_of_ble_eq_true rfl) d_MO_lay_122 ⟨Nat.zero_le _, Nat.zero_le _⟩ hS (fun _ h => h) (fun v C H locs hp hP _ _ hS => ?_)
                  obtain ⟨z7, rfl, hz7, hX⟩ := hp
                  have hX : MV ca b C th dts tld fs9 ls9 cn9 (lfU cn9 on1 ot2 (k + 1)) (mbU cn9 on1 ot2 k) mwt mab mbe on1 ot2 lea mos yrs (upto (12 * dts) (lyF mwt mab mbe yrs) bv) := ⟨_, _, hX, hB9⟩
                  refine xz_eq (tgt := 152) hx hb d_MO_lay_125 (by decide) (tn31 _) (fun h125 => ?_) (fun h125 => ?_)
                  · skip
                    refine lv_aload_n hx hb d_MO_lay_152 rfl (lv_at hl 0 rfl) ?_
                    refine xw_get (v := .int (nI (mbU cn9 on1 ot2 k))) hx hb hts (fun w h => mw (uw_MO w h)) hown hK hP (MV_0 hX) (by decide) rfl 17 (by decide) (hts _ (mw tb_612)) (fun _ h => h) rfl d_MO_lay_153 ?_
                    refine ti (nI (mbU cn9 on1 ot2 (k + 1))) (by rw [mbU_f (fun q => (fun q9 => by have := hz7.mpr q9; rw [bf h125] at this; cases this) q.1)]) ?_
                    refine xw_put (v := .int (nI (mbU cn9 on1 ot2 (k + 1)))) (ty := t_MO 17) hx hb hts (fun w h => mw (uw_MO w h)) t_MO t_MO_ok n_MO hown hK hP hA hS (MV_0 hX) (by decide) rfl 17 (by decide) (hts _ (mw tb_612)) (fun _ h => h) rfl (by decide +kernel) rfl rfl (Nat.le_of_ble_eq_true rfl) d_MO_lay_156 (fun H locs hP hS => ?_)
                    have hX := MV_set_mb9 (x1 := mbU cn9 on1 ot2 (k + 1)) hX
                    generalize va_up _ 0 _ = C at hP hX
                    refine lv_iinc (v := nI (k + 1)) (lv' := [(1, .int (nI (k + 1))), (0, .ref (b + 0))]) hx hb d_MO_lay_159 hl (k := 1) rfl (show nI k + Int32.ofInt 1 = nI (k + 1) from nI_add _ _) (by decide) rfl (fun ls hl => ?_)
                    refine lv_goto (tgt := 76) hx hb d_MO_lay_162 (by decide) ?_
                    exact ih76 (k + 1) _ _ _ _ (by omega) (by omega) hP hS hX (lv_sub hl [1, 0] rfl)
                  · skip
                    refine lv_aload_n hx hb d_MO_lay_128 rfl (lv_at hl 0 rfl) ?_
                    refine lv_iload_n hx hb d_MO_lay_129 rfl (lv_at hl 1 rfl) ?_
                    obtain ⟨bg9, wd9, hX, hB9⟩ := hX
                    refine xc_V (n := 1) (g0 := 0) (As := [.int (nI k)]) (rest := [.ref (b + 0)]) (st0 := _) hx hb hml hown hts (c_MO_isMember l D ca b _ k hX (by omega) ho1 ho2) km_MO_isMember tb_689 tb_691 tps_23 tb_7 (by decide +kernel) rfl rfl ⟨Nat.le_of_ble_eq_true rfl, Nat.le_of_ble_eq_true rfl⟩ hK hP (MR_0 hX) (by decide) rfl rfl rfl hl rfl (Nat.le_of_ble_eq_true rfl) d_MO_lay_130 ⟨Nat.zero_le _, Nat.zero_le _⟩ hS (fun _ h => h) (fun v C H locs hp hP _ _ hS => ?_)
                    obtain ⟨z8, rfl, hz8, hX⟩ := hp
                    have hX : MV ca b C th dts tld fs9 ls9 cn9 (lfU cn9 on1 ot2 (k + 1)) (mbU cn9 on1 ot2 k) mwt mab mbe on1 ot2 lea mos yrs (upto (12 * dts) (lyF mwt mab mbe yrs) bv) := ⟨_, _, hX, hB9⟩
                    refine xz_eq (tgt := 152) hx hb d_MO_lay_133 (by decide) (tn31 _) (fun h133 => ?_) (fun h133 => ?_)
                    · skip
                      refine lv_aload_n hx hb d_MO_lay_152 rfl (lv_at hl 0 rfl) ?_
                      refine xw_get (v := .int (nI (mbU cn9 on1 ot2 k))) hx hb hts (fun w h => mw (uw_MO w h)) hown hK hP (MV_0 hX) (by decide) rfl 17 (by decide) (hts _ (mw tb_612)) (fun _ h => h) rfl d_MO_lay_153 ?_
                      refine ti (nI (mbU cn9 on1 ot2 (k + 1))) (by rw [mbU_f (fun q => (fun q9 => by have := hz8.mpr q9; rw [bf h133] at this; cases this) q.2)]) ?_
                      refine xw_put (v := .int (nI (mbU cn9 on1 ot2 (k + 1)))) (ty := t_MO 17) hx hb hts (fun w h => mw (uw_MO w h)) t_MO t_MO_ok n_MO hown hK hP hA hS (MV_0 hX) (by decide) rfl 17 (by decide) (hts _ (mw tb_612)) (fun _ h => h) rfl (by decide +kernel) rfl rfl (Nat.le_of_ble_eq_true rfl) d_MO_lay_156 (fun H locs hP hS => ?_)
                      have hX := MV_set_mb9 (x1 := mbU cn9 on1 ot2 (k + 1)) hX
                      generalize va_up _ 0 _ = C at hP hX
                      refine lv_iinc (v := nI (k + 1)) (lv' := [(1, .int (nI (k + 1))), (0, .ref (b + 0))]) hx hb d_MO_lay_159 hl (k := 1) rfl (show nI k + Int32.ofInt 1 = nI (k + 1) from nI_add _ _) (by decide) rfl (fun ls hl => ?_)
                      refine lv_goto (tgt := 76) hx hb d_MO_lay_162 (by decide) ?_
                      exact ih76 (k + 1) _ _ _ _ (by omega) (by omega) hP hS hX (lv_sub hl [1, 0] rfl)
                    · skip
                      refine lv_aload_n hx hb d_MO_lay_136 rfl (lv_at hl 0 rfl) ?_
                      refine xw_get (v := .int (nI (mbU cn9 on1 ot2 k))) hx hb hts (fun w h => mw (uw_MO w h)) hown hK hP (MV_0 hX) (by decide) rfl 17 (by decide) (hts _ (mw tb_612)) (fun _ h => h) rfl d_MO_lay_137 ?_
                      refine lv_iconst (v := nI 1) hx hb d_MO_lay_140 (by decide) ?_
                      refine lv_aload_n hx hb d_MO_lay_141 rfl (lv_at hl 0 rfl) ?_
                      refine xw_get (v := .ref (b + 4)) hx hb hts (fun w h => mw (uw_MO w h)) hown hK hP (MV_0 hX) (by decide) rfl 6 (by decide) (hts _ (mw tb_601)) (fun _ h => h) rfl d_MO_lay_142 ?_
                      refine lv_iload_n hx hb d_MO_lay_145 rfl (lv_at hl 1 rfl) ?_
                      refine xw_iald hx hb hK hP 0 (MV_4 hX) (by decide) rfl (by omega) (by decide) d_MO_lay_146 ?_
                      refine lv_ishl hx hb d_MO_lay_147 ?_
                      refine ti (nI (2 ^ (on1 k))) (sh1 (by omega)) ?_
                      refine lv_ior hx hb d_MO_lay_148 ?_
                      refine ti (nI ((mbU cn9 on1 ot2 k) ||| (2 ^ (on1 k)))) (nx_or _ _) ?_
                      refine lv_goto (tgt := 156) hx hb d_MO_lay_149 (by decide) ?_
                      refine ti (nI (mbU cn9 on1 ot2 (k + 1))) (by rw [mbU_t ⟨hz7.mp (bt h125), hz8.mp (bt h133)⟩]) ?_
                      refine xw_put (v := .int (nI (mbU cn9 on1 ot2 (k + 1)))) (ty := t_MO 17) hx hb hts (fun w h => mw (uw_MO w h)) t_MO t_MO_ok n_MO hown hK hP hA hS (MV_0 hX) (by decide) rfl 17 (by decide) (hts _ (mw tb_612)) (fun _ h => h) rfl (by decide +kernel) rfl rfl (Nat.le_of_ble_eq_true rfl) d_MO_lay_156 (fun H locs hP hS => ?_)
                      have hX := MV_set_mb9 (x1 := mbU cn9 on1 ot2 (k + 1)) hX
                      generalize va_up _ 0 _ = C at hP hX
                      refine lv_iinc (v := nI (k + 1)) (lv' := [(1, .int (nI (k + 1))), (0, .ref (b + 0))]) hx hb d_MO_lay_159 hl (k := 1) rfl (show nI k + Int32.ofInt 1 = nI (k + 1) from nI_add _ _) (by decide) rfl (fun ls hl => ?_)
                      refine lv_goto (tgt := 76) hx hb d_MO_lay_162 (by decide) ?_
                      exact ih76 (k + 1) _ _ _ _ (by omega) (by omega) hP hS hX (lv_sub hl [1, 0] rfl)
        exact loop76 (tld + 1) 0 _ _ _ _ (by omega) (by omega) hP hS hX (lv_sub hl [1, 0] rfl)
      · skip
        have hyd := hyr d (by omega)
        refine lv_iconst (v := nI 0) hx hb d_MO_lay_20 (by decide) ?_
        refine lv_istore_n (lv' := [(2, .int (nI 0)), (0, .ref (b + 0)), (1, .int (nI d))]) hx hb d_MO_lay_21 rfl hl (by decide) rfl (fun ls hl => ?_)
        have loop22 : ∀ (r : Nat) (y : Nat) (C : Nat → va_E) (H : Heap) (locs : List Loc) (ls : Array Slot), 12 < y + r → y ≤ 12 → va_P D classes (wl b 11 C) H → va_S (xr b 11) s.heap H locs → MV ca b C th dts tld fs9 ls9 cn9 0 0 mwt mab mbe on1 ot2 lea mos yrs (upto (12 * d + y) (lyF mwt mab mbe yrs) bv) → lv_has ls 3 [(0, .ref (b + 0)), (1, .int (nI d)), (2, .int (nI y))] → W p l e (headSpec (k_MO_lay :: gw) ({ frames := 2, cells := 0, slots := 0, locals := 36 })).room s m args below meth c H locs 0 0 (MQ below (xQ D b 11 (fun r C1 => r = none ∧ MV ca b C1 th dts tld fs9 ls9 cn9 (lfU cn9 on1 ot2 tld) (mbU cn9 on1 ot2 tld) mwt mab mbe on1 ot2 lea mos yrs (upto (12 * dts) (lyF mwt mab mbe yrs) bv))) args s 0 0 (xr b 11)) (F0 m 22 ls []) := by
          intro r
          induction r with
          | zero => intro y C H locs ls hms hy; exact absurd hms (by omega)
          | succ r ih22 =>
            intro y C H locs ls hms hy hP hS hX hl
            refine lv_iload_n hx hb d_MO_lay_22 rfl (lv_at hl 2 rfl) ?_
            refine lv_bipush (v := nI 12) hx hb d_MO_lay_23 (by decide) ?_
            refine xi_ge (tgt := 68) hx hb d_MO_lay_25 (by decide) (by omega) (by omega) (fun h25 => ?_) (fun h25 => ?_)
            · skip
              have ey : y = 12 := by omega
              rw [ey] at hX
              refine lv_iinc (v := nI (d + 1)) (lv' := [(1, .int (nI (d + 1))), (0, .ref (b + 0)), (2, .int (nI y))]) hx hb d_MO_lay_68 hl (k := 1) rfl (show nI d + Int32.ofInt 1 = nI (d + 1) from nI_add _ _) (by decide) rfl (fun ls hl => ?_)
              refine lv_goto (tgt := 12) hx hb d_MO_lay_71 (by decide) ?_
              exact ih12 (d + 1) _ _ _ _ (by omega) (by omega) hP hS hX (lv_sub hl [1, 0] rfl)
            · skip
              refine lv_aload_n hx hb d_MO_lay_28 rfl (lv_at hl 0 rfl) ?_
              refine lv_bipush (v := nI 12) hx hb d_MO_lay_29 (by decide) ?_
              refine lv_iload_n hx hb d_MO_lay_31 rfl (lv_at hl 1 rfl) ?_
              refine lv_imul hx hb d_MO_lay_32 ?_
              refine ti (nI (12 * d)) (pk_mul _ _) ?_
              refine lv_iload_n hx hb d_MO_lay_33 rfl (lv_at hl 2 rfl) ?_
              refine lv_iadd hx hb d_MO_lay_34 ?_
              refine ti (nI ((12 * d) + y)) (nI_add _ _) ?_
              refine lv_aload_n hx hb d_MO_lay_35 rfl (lv_at hl 0 rfl) ?_
              refine xw_get (v := .ref (b + 10)) hx hb hts (fun w h => mw (uw_MO w h)) hown hK hP (MV_0 hX) (by decide) rfl 12 (by decide) (hts _ (mw tb_607)) (fun _ h => h) rfl d_MO_lay_36 ?_
              refine lv_iload_n hx hb d_MO_lay_39 rfl (lv_at hl 1 rfl) ?_
              refine xw_iald hx hb hK hP 0 (MV_10 hX) (by decide) rfl (by omega) (by decide) d_MO_lay_40 ?_
              refine lv_iload_n hx hb d_MO_lay_41 rfl (lv_at hl 2 rfl) ?_
              refine lv_ishr hx hb d_MO_lay_42 ?_
              refine ti (nI ((yrs d) / 2 ^ y)) (shr1 (by omega) (by omega)) ?_
              refine lv_iconst (v := nI 1) hx hb d_MO_lay_43 (by decide) ?_
              refine lv_iand hx hb d_MO_lay_44 ?_
              refine ti (nI (((yrs d) / 2 ^ y) % 2)) (and1 _) ?_
              refine lv_iconst (v := nI 1) hx hb d_MO_lay_45 (by decide) ?_
              refine xi_ne (tgt := 58) hx hb d_MO_lay_46 (by decide) (by omega) (by omega) (fun h46 => ?_) (fun h46 => ?_)
              · skip
                refine lv_iconst (v := nI 0) hx hb d_MO_lay_58 (by decide) ?_
                obtain ⟨bg9, wd9, hX, hB9⟩ := hX
                refine xc_V (n := 2) (g0 := 0) (As := [.int (nI ((12 * d) + y)), .int (nI 0)]) (rest := []) (st0 := _) hx hb hml hown hts (c_MO_set l D ca b _ ((12 * d) + y) 0 hX (by omega) (by omega)) km_MO_set tb_724 tb_726 tps_29 tb_7 (by decide +kernel) rfl rfl ⟨Nat.le_of_ble_eq_true rfl, Nat.le_of_ble_eq_true rfl⟩ hK hP (MR_0 hX) (by decide) rfl rfl rfl hl rfl (Nat.le_of_ble_eq_true rfl) d_MO_lay_59 ⟨Nat.zero_le _, Nat.zero_le _⟩ hS (fun _ h => h) (fun v C H locs hp hP _ _ hS => ?_)
                obtain ⟨rfl, big1, hX, hb1, hf1⟩ := hp
                have hX : MV ca b C th dts tld fs9 ls9 cn9 0 0 mwt mab mbe on1 ot2 lea mos yrs (va_up (upto (12 * d + y) (lyF mwt mab mbe yrs) bv) ((12 * d) + y) 0) := ⟨_, _, hX, bvUp hB9 hb1 hf1⟩
                refine lv_iinc (v := nI (y + 1)) (lv' := [(2, .int (nI (y + 1))), (0, .ref (b + 0)), (1, .int (nI d))]) hx hb d_MO_lay_62 hl (k := 2) rfl (show nI y + Int32.ofInt 1 = nI (y + 1) from nI_add _ _) (by decide) rfl (fun ls hl => ?_)
                refine lv_goto (tgt := 22) hx hb d_MO_lay_65 (by decide) ?_
                have hX : MV ca b C th dts tld fs9 ls9 cn9 0 0 mwt mab mbe on1 ot2 lea mos yrs (upto (12 * d + (y + 1)) (lyF mwt mab mbe yrs) bv) := by
                  rw [← Nat.add_assoc, ← upto_s (12 * d + y) (lyF mwt mab mbe yrs) bv, lyF_at h25, if_neg (fun q9 => h46 (tbit.mpr q9))]; exact hX
                exact ih22 (y + 1) _ _ _ _ (by omega) (by omega) hP hS hX (lv_sub hl [1, 2, 0] rfl)
              · skip
                have hcl := (cnt_le hD h17 h25).2.2
                unfold cnt mw2 at hcl
                refine lv_aload_n hx hb d_MO_lay_49 rfl (lv_at hl 0 rfl) ?_
                refine lv_iload_n hx hb d_MO_lay_50 rfl (lv_at hl 1 rfl) ?_
                refine lv_iload_n hx hb d_MO_lay_51 rfl (lv_at hl 2 rfl) ?_
                obtain ⟨bg9, wd9, hX, hB9⟩ := hX
                refine xc_V (n := 2) (g0 := 0) (As := [.int (nI d), .int (nI y)]) (rest := [.int (nI ((12 * d) + y)), .ref (b + 0)]) (st0 := _) hx hb hml hown hts (c_MO_worth l D ca b _ d y hX (by omega) (by omega) (hD.2 d h17).1) km_MO_worth tb_720 tb_722 tps_28 tb_7 (by decide +kernel) rfl rfl ⟨Nat.le_of_ble_eq_true rfl, Nat.le_of_ble_eq_true rfl⟩ hK hP (MR_0 hX) (by decide) rfl rfl rfl hl rfl (Nat.le_of_ble_eq_true rfl) d_MO_lay_52 ⟨Nat.zero_le _, Nat.zero_le _⟩ hS (fun _ h => h) (fun v C H locs hp hP _ _ hS => ?_)
                obtain ⟨rfl, hX⟩ := hp
                have hX : MV ca b C th dts tld fs9 ls9 cn9 0 0 mwt mab mbe on1 ot2 lea mos yrs (upto (12 * d + y) (lyF mwt mab mbe yrs) bv) := ⟨_, _, hX, hB9⟩
                refine lv_goto (tgt := 59) hx hb d_MO_lay_55 (by decide) ?_
                obtain ⟨bg9, wd9, hX, hB9⟩ := hX
                refine xc_V (n := 2) (g0 := 0) (As := [.int (nI ((12 * d) + y)), .int (nI ((mbe d - mab d) * 12 * mwt (12 * d + y) + mab d * sm (fun k => mwt (12 * d + k)) 12))]) (rest := []) (st0 := _) hx hb hml hown hts (c_MO_set l D ca b _ ((12 * d) + y) ((mbe d - mab d) * 12 * mwt (12 * d + y) + mab d * sm (fun k => mwt (12 * d + k)) 12) hX (by omega) (by omega)) km_MO_set tb_724 tb_726 tps_29 tb_7 (by decide +kernel) rfl rfl ⟨Nat.le_of_ble_eq_true rfl, Nat.le_of_ble_eq_true rfl⟩ hK hP (MR_0 hX) (by decide) rfl rfl rfl hl rfl (Nat.le_of_ble_eq_true rfl) d_MO_lay_59 ⟨Nat.zero_le _, Nat.zero_le _⟩ hS (fun _ h => h) (fun v C H locs hp hP _ _ hS => ?_)
                obtain ⟨rfl, big1, hX, hb1, hf1⟩ := hp
                have hX : MV ca b C th dts tld fs9 ls9 cn9 0 0 mwt mab mbe on1 ot2 lea mos yrs (va_up (upto (12 * d + y) (lyF mwt mab mbe yrs) bv) ((12 * d) + y) ((mbe d - mab d) * 12 * mwt (12 * d + y) + mab d * sm (fun k => mwt (12 * d + k)) 12)) := ⟨_, _, hX, bvUp hB9 hb1 hf1⟩
                refine lv_iinc (v := nI (y + 1)) (lv' := [(2, .int (nI (y + 1))), (0, .ref (b + 0)), (1, .int (nI d))]) hx hb d_MO_lay_62 hl (k := 2) rfl (show nI y + Int32.ofInt 1 = nI (y + 1) from nI_add _ _) (by decide) rfl (fun ls hl => ?_)
                refine lv_goto (tgt := 22) hx hb d_MO_lay_65 (by decide) ?_
                have hX : MV ca b C th dts tld fs9 ls9 cn9 0 0 mwt mab mbe on1 ot2 lea mos yrs (upto (12 * d + (y + 1)) (lyF mwt mab mbe yrs) bv) := by
                  rw [← Nat.add_assoc, ← upto_s (12 * d + y) (lyF mwt mab mbe yrs) bv, lyF_at h25, if_pos (tbit.mp h46)]; exact hX
                exact ih22 (y + 1) _ _ _ _ (by omega) (by omega) hP hS hX (lv_sub hl [1, 2, 0] rfl)
        exact loop22 13 0 _ _ _ _ (by omega) (by omega) hP hS hX (lv_sub hl [1, 2, 0] rfl)
  rw [← upto_0 (lyF mwt mab mbe yrs) bv] at hX
  exact loop12 (dts + 1) 0 _ _ _ _ (by omega) (by omega) hP hS hX (lv_sub hl [1, 0] rfl)

/-- whether a row holds between the leaf's year y and the other end's year z -/
def tkc (on1 lea mos : Nat → Nat) (k f z y : Nat) : Prop := (on1 k = f ∧ y + lea k ≤ z ∧ z ≤ y + mos k) ∨ (on1 k ≠ f ∧ z + lea k ≤ y ∧ y ≤ z + mos k)
def tkM (on1 lea mos bv : Nat → Nat) (k f z : Nat) : Nat → Nat := sm (fun y => if (on1 k = f ∧ y + lea k ≤ z ∧ z ≤ y + mos k) ∨ (on1 k ≠ f ∧ z + lea k ≤ y ∧ y ≤ z + mos k) then bv (12 * f + y) else 0)
def tkT (on1 ot2 : Nat → Nat) (k f : Nat) : Nat := if on1 k = f then ot2 k else on1 k
/-- the numbers of the date to, each by what the leaf hands it; the first n are done -/
def tkB (on1 ot2 lea mos bv : Nat → Nat) (k f n : Nat) : Nat → Nat := fun x => if 12 * tkT on1 ot2 k f ≤ x ∧ x < 12 * tkT on1 ot2 k f + n then bv x * tkM on1 lea mos bv k f (x - 12 * tkT on1 ot2 k f) 12 else bv x
theorem tkB_0 (on1 ot2 lea mos bv : Nat → Nat) (k f : Nat) : tkB on1 ot2 lea mos bv k f 0 = bv := by
  funext x; unfold tkB; rw [if_neg (by omega)]
theorem tkB_s (on1 ot2 lea mos bv : Nat → Nat) (k f n : Nat) : va_up (tkB on1 ot2 lea mos bv k f n) (12 * tkT on1 ot2 k f + n) (bv (12 * tkT on1 ot2 k f + n) * tkM on1 lea mos bv k f n 12) = tkB on1 ot2 lea mos bv k f (n + 1) := by
  funext x
  by_cases q : x = 12 * tkT on1 ot2 k f + n
  · subst q; rw [va_up_self]; unfold tkB
    rw [if_pos (by omega), show 12 * tkT on1 ot2 k f + n - 12 * tkT on1 ot2 k f = n by omega]
  · rw [va_up_ne _ _ q]; unfold tkB
    by_cases q2 : 12 * tkT on1 ot2 k f ≤ x ∧ x < 12 * tkT on1 ot2 k f + n
    · rw [if_pos q2, if_pos (by omega)]
    · rw [if_neg q2, if_neg (by omega)]
theorem tkB_out {on1 ot2 lea mos bv : Nat → Nat} {k f n x : Nat} (h : ¬ (12 * tkT on1 ot2 k f ≤ x ∧ x < 12 * tkT on1 ot2 k f + n)) : tkB on1 ot2 lea mos bv k f n x = bv x := if_neg h
theorem tkM_t {on1 lea mos bv : Nat → Nat} {k f z y : Nat} (h : tkc on1 lea mos k f z y) : tkM on1 lea mos bv k f z (y + 1) = tkM on1 lea mos bv k f z y + bv (12 * f + y) := by
  unfold tkc at h
  show tkM on1 lea mos bv k f z y + (if _ then _ else 0) = _
  rw [if_pos h]
theorem tkM_f {on1 lea mos bv : Nat → Nat} {k f z y : Nat} (h : ¬ tkc on1 lea mos k f z y) : tkM on1 lea mos bv k f z (y + 1) = tkM on1 lea mos bv k f z y := by
  unfold tkc at h
  show tkM on1 lea mos bv k f z y + (if _ then _ else 0) = _
  rw [if_neg h]; rfl
set_option maxHeartbeats 4000000 in
set_option maxRecDepth 100000 in
/-- a leaf is taken -/
theorem c_MO_take (l : Launch) (D : va_G) (ca : Nat → ClassId) (b : Nat) (C0 : Nat → va_E) {th : Nat} {dts : Nat} {tld : Nat} {fs9 : Nat} {ls9 : Nat} {cn9 : Nat} {lf9 : Nat} {mb9 : Nat} {mwt : Nat → Nat} {mab : Nat → Nat} {mbe : Nat → Nat} {on1 : Nat → Nat} {ot2 : Nat → Nat} {lea : Nat → Nat} {mos : Nat → Nat} {yrs : Nat → Nat} {bv : Nat → Nat} (k f : Nat) (hX : MV ca b C0 th dts tld fs9 ls9 cn9 lf9 mb9 mwt mab mbe on1 ot2 lea mos yrs bv) (hM : MOK on1 ot2 lea mos tld) (hk : k < tld) (hf : f < 6) (hkf : on1 k = f ∨ ot2 k = f) (hne : on1 k ≠ ot2 k) : Met l y_MO_take (k_MO_take :: gw) ({ frames := 2, cells := 0, slots := 0, locals := 38 }) (xPc D ca b 11 C0 [.ref (b + 0), .int (nI k), .int (nI f)]) (xQ D b 11 (fun r C1 => r = none ∧ ∃ m1, MV ca b C1 th dts tld fs9 ls9 cn9 (clb lf9 (2 ^ k)) mb9 mwt mab mbe on1 ot2 lea mos yrs (va_up (tkB on1 ot2 lea mos bv k f 12) 72 m1))) 0 0 (xr b 11) := by
  refine Met.ofW (cc := b_MO_take) (maxL := 7) (ret := none) (by decide) rfl ?_
  intro p e s m args below meth c s₁ B hml hv
  obtain ⟨hav, hP, hK⟩ := hv
  have hx := B.exec
  have hb := B.bytes
  have hr := B.returns
  have hts := atoms_spec (ws := k_MO_take :: gw) B.pre
  have hown : s.vm.findClass R_MO = some m.cls := findClass_of_methodNamed B.named
  have hlocks := B.notSynchronized
  have hA : ∀ k, k < 11 → xr b 11 (b + k) := xr_in
  have hS : va_S (xr b 11) s.heap s.heap [] := va_S.rf
  have hl := lv_entry ([.ref (b + 0), .int (nI k), .int (nI f)]) (n := 7) (Nat.le_of_ble_eq_true rfl)
  rw [hav, lg_entry_eq]
  generalize (lg_sl ([.ref (b + 0), .int (nI k), .int (nI f)]) ++ List.replicate (7 - (lg_sl ([.ref (b + 0), .int (nI k), .int (nI f)])).length) Slot.unset).toArray = ls at hl ⊢
  have hl : lv_has ls 7 [(0, .ref (b + 0)), (1, .int (nI k)), (2, .int (nI f))] := hl
  rw [← hav]
  have hM6 := hM.1
  obtain ⟨ho1, ho2, hl1, hl2⟩ := hM.2 k hk
  have hTT : tkT on1 ot2 k f < 6 ∧ tkT on1 ot2 k f ≠ f := by
    unfold tkT
    by_cases q : on1 k = f
    · rw [if_pos q]; omega
    · rw [if_neg q]; omega
  obtain ⟨hT6, hTf⟩ := hTT
  refine lv_aload_n hx hb d_MO_take_0 rfl (lv_at hl 0 rfl) ?_
  refine xw_get (v := .ref (b + 4)) hx hb hts (fun w h => mw (uw_MO w h)) hown hK hP (MV_0 hX) (by decide) rfl 6 (by decide) (hts _ (mw tb_601)) (fun _ h => h) rfl d_MO_take_1 ?_
  refine lv_iload_n hx hb d_MO_take_4 rfl (lv_at hl 1 rfl) ?_
  refine xw_iald hx hb hK hP 0 (MV_4 hX) (by decide) rfl (by omega) (by decide) d_MO_take_5 ?_
  refine lv_iload_n hx hb d_MO_take_6 rfl (lv_at hl 2 rfl) ?_
  refine xi_ne (tgt := 19) hx hb d_MO_take_7 (by decide) (by omega) (by omega) (fun h7 => ?_) (fun h7 => ?_)
  · skip
    refine lv_aload_n hx hb d_MO_take_19 rfl (lv_at hl 0 rfl) ?_
    refine xw_get (v := .ref (b + 4)) hx hb hts (fun w h => mw (uw_MO w h)) hown hK hP (MV_0 hX) (by decide) rfl 6 (by decide) (hts _ (mw tb_601)) (fun _ h => h) rfl d_MO_take_20 ?_
    refine lv_iload_n hx hb d_MO_take_23 rfl (lv_at hl 1 rfl) ?_
    refine xw_iald hx hb hK hP 0 (MV_4 hX) (by decide) rfl (by omega) (by decide) d_MO_take_24 ?_
    refine ti (nI (tkT on1 ot2 k f)) (by rw [tkT, if_neg h7]) ?_
    refine lv_istore_n (lv' := [(3, .int (nI (tkT on1 ot2 k f))), (0, .ref (b + 0)), (1, .int (nI k)), (2, .int (nI f))]) hx hb d_MO_take_25 rfl hl (by decide) rfl (fun ls hl => ?_)
    refine lv_iconst (v := nI 0) hx hb d_MO_take_26 (by decide) ?_
    refine lv_istore (lv' := [(4, .int (nI 0)), (3, .int (nI (tkT on1 ot2 k f))), (0, .ref (b + 0)), (1, .int (nI k)), (2, .int (nI f))]) hx hb d_MO_take_27 hl (by decide) rfl (fun ls hl => ?_)
    have loop29 : ∀ (r : Nat) (z : Nat) (m0 : Nat) (C : Nat → va_E) (H : Heap) (locs : List Loc) (ls : Array Slot), 12 < z + r → z ≤ 12 → va_P D classes (wl b 11 C) H → va_S (xr b 11) s.heap H locs → MV ca b C th dts tld fs9 ls9 cn9 lf9 mb9 mwt mab mbe on1 ot2 lea mos yrs (va_up (tkB on1 ot2 lea mos bv k f z) 72 m0) → lv_has ls 7 [(0, .ref (b + 0)), (1, .int (nI k)), (2, .int (nI f)), (3, .int (nI (tkT on1 ot2 k f))), (4, .int (nI z))] → W p l e (headSpec (k_MO_take :: gw) ({ frames := 2, cells := 0, slots := 0, locals := 38 })).room s m args below meth c H locs 0 0 (MQ below (xQ D b 11 (fun r C1 => r = none ∧ ∃ m1, MV ca b C1 th dts tld fs9 ls9 cn9 (clb lf9 (2 ^ k)) mb9 mwt mab mbe on1 ot2 lea mos yrs (va_up (tkB on1 ot2 lea mos bv k f 12) 72 m1))) args s 0 0 (xr b 11)) (F0 m 29 ls []) := by
      intro r
      induction r with
      | zero => intro z m0 C H locs ls hms hz; exact absurd hms (by omega)
      | succ r ih29 =>
        intro z m0 C H locs ls hms hz hP hS hX hl
        refine lv_iload hx hb d_MO_take_29 (lv_at hl 4 rfl) ?_
        refine lv_bipush (v := nI 12) hx hb d_MO_take_31 (by decide) ?_
        refine xi_ge (tgt := 138) hx hb d_MO_take_33 (by decide) (by omega) (by omega) (fun h33 => ?_) (fun h33 => ?_)
        · skip
          have ez : z = 12 := by omega
          rw [ez] at hX
          refine lv_aload_n hx hb d_MO_take_138 rfl (lv_at hl 0 rfl) ?_
          refine lv_aload_n hx hb d_MO_take_139 rfl (lv_at hl 0 rfl) ?_
          refine xw_get (v := .int (nI lf9)) hx hb hts (fun w h => mw (uw_MO w h)) hown hK hP (MV_0 hX) (by decide) rfl 16 (by decide) (hts _ (mw tb_611)) (fun _ h => h) rfl d_MO_take_140 ?_
          refine lv_iconst (v := nI 1) hx hb d_MO_take_143 (by decide) ?_
          refine lv_iload_n hx hb d_MO_take_144 rfl (lv_at hl 1 rfl) ?_
          refine lv_ishl hx hb d_MO_take_145 ?_
          refine ti (nI (2 ^ k)) (sh1 (by omega)) ?_
          refine lv_iconst (v := (-1)) hx hb d_MO_take_146 (by decide) ?_
          refine lv_ixor hx hb d_MO_take_147 ?_
          refine lv_iand hx hb d_MO_take_148 ?_
          refine ti (nI (clb lf9 (2 ^ k))) (nx_clb _ _) ?_
          refine xw_put (v := .int (nI (clb lf9 (2 ^ k)))) (ty := t_MO 16) hx hb hts (fun w h => mw (uw_MO w h)) t_MO t_MO_ok n_MO hown hK hP hA hS (MV_0 hX) (by decide) rfl 16 (by decide) (hts _ (mw tb_611)) (fun _ h => h) rfl (by decide +kernel) rfl rfl (Nat.le_of_ble_eq_true rfl) d_MO_take_149 (fun H locs hP hS => ?_)
          have hX := MV_set_lf9 (x1 := clb lf9 (2 ^ k)) hX
          generalize va_up _ 0 _ = C at hP hX
          exact xw_vret hx hb hr hlocks hP hS ⟨rfl, _, hX⟩ d_MO_take_152
        · skip
          refine lv_aload_n hx hb d_MO_take_36 rfl (lv_at hl 0 rfl) ?_
          refine lv_bipush (v := nI 72) hx hb d_MO_take_37 (by decide) ?_
          refine lv_iconst (v := nI 0) hx hb d_MO_take_39 (by decide) ?_
          obtain ⟨bg9, wd9, hX, hB9⟩ := hX
          refine xc_V (n := 2) (g0 := 0) (As := [.int (nI 72), .int (nI 0)]) (rest := []) (st0 := _) hx hb hml hown hts (c_MO_set l D ca b _ 72 0 hX (by omega) (by omega)) km_MO_set tb_724 tb_726 tps_29 tb_7 (by decide +kernel) rfl rfl ⟨Nat.le_of_ble_eq_true rfl, Nat.le_of_ble_eq_true rfl⟩ hK hP (MR_0 hX) (by decide) rfl rfl rfl hl rfl (Nat.le_of_ble_eq_true rfl) d_MO_take_40 ⟨Nat.zero_le _, Nat.zero_le _⟩ hS (fun _ h => h) (fun v C H locs hp hP _ _ hS => ?_)
          obtain ⟨rfl, big1, hX, hb1, hf1⟩ := hp
          have hX : MV ca b C th dts tld fs9 ls9 cn9 lf9 mb9 mwt mab mbe on1 ot2 lea mos yrs (va_up (va_up (tkB on1 ot2 lea mos bv k f z) 72 m0) 72 0) := ⟨_, _, hX, bvUp hB9 hb1 hf1⟩
          refine lv_iconst (v := nI 0) hx hb d_MO_take_43 (by decide) ?_
          refine lv_istore (lv' := [(5, .int (nI 0)), (0, .ref (b + 0)), (1, .int (nI k)), (2, .int (nI f)), (3, .int (nI (tkT on1 ot2 k f))), (4, .int (nI z))]) hx hb d_MO_take_44 hl (by decide) rfl (fun ls hl => ?_)
          have loop46 : ∀ (r : Nat) (y : Nat) (C : Nat → va_E) (H : Heap) (locs : List Loc) (ls : Array Slot), 12 < y + r → y ≤ 12 → va_P D classes (wl b 11 C) H → va_S (xr b 11) s.heap H locs → MV ca b C th dts tld fs9 ls9 cn9 lf9 mb9 mwt mab mbe on1 ot2 lea mos yrs (va_up (tkB on1 ot2 lea mos bv k f z) 72 (tkM on1 lea mos bv k f z y)) → lv_has ls 7 [(0, .ref (b + 0)), (1, .int (nI k)), (2, .int (nI f)), (3, .int (nI (tkT on1 ot2 k f))), (4, .int (nI z)), (5, .int (nI y))] → W p l e (headSpec (k_MO_take :: gw) ({ frames := 2, cells := 0, slots := 0, locals := 38 })).room s m args below meth c H locs 0 0 (MQ below (xQ D b 11 (fun r C1 => r = none ∧ ∃ m1, MV ca b C1 th dts tld fs9 ls9 cn9 (clb lf9 (2 ^ k)) mb9 mwt mab mbe on1 ot2 lea mos yrs (va_up (tkB on1 ot2 lea mos bv k f 12) 72 m1))) args s 0 0 (xr b 11)) (F0 m 46 ls []) := by
            intro r
            induction r with
            | zero => intro y C H locs ls hms hy; exact absurd hms (by omega)
            | succ r ih46 =>
              intro y C H locs ls hms hy hP hS hX hl
              refine lv_iload hx hb d_MO_take_46 (lv_at hl 5 rfl) ?_
              refine lv_bipush (v := nI 12) hx hb d_MO_take_48 (by decide) ?_
              refine xi_ge (tgt := 119) hx hb d_MO_take_50 (by decide) (by omega) (by omega) (fun h50 => ?_) (fun h50 => ?_)
              · skip
                have ey : y = 12 := by omega
                rw [ey] at hX
                refine lv_aload_n hx hb d_MO_take_119 rfl (lv_at hl 0 rfl) ?_
                refine lv_bipush (v := nI 12) hx hb d_MO_take_120 (by decide) ?_
                refine lv_iload_n hx hb d_MO_take_122 rfl (lv_at hl 3 rfl) ?_
                refine lv_imul hx hb d_MO_take_123 ?_
                refine ti (nI (12 * (tkT on1 ot2 k f))) (pk_mul _ _) ?_
                refine lv_iload hx hb d_MO_take_124 (lv_at hl 4 rfl) ?_
                refine lv_iadd hx hb d_MO_take_126 ?_
                refine ti (nI ((12 * (tkT on1 ot2 k f)) + z)) (nI_add _ _) ?_
                refine lv_bipush (v := nI 72) hx hb d_MO_take_127 (by decide) ?_
                obtain ⟨bg9, wd9, hX, hB9⟩ := hX
                refine xc_V (n := 2) (g0 := 0) (As := [.int (nI ((12 * (tkT on1 ot2 k f)) + z)), .int (nI 72)]) (rest := []) (st0 := _) hx hb hml hown hts (c_MO_times l D ca b _ ((12 * (tkT on1 ot2 k f)) + z) 72 _ _ hX (by omega) (by omega) (by omega) (hB9 ((12 * (tkT on1 ot2 k f)) + z) (by omega)) (hB9 72 (by omega))) km_MO_times tb_752 tb_754 tps_36 tb_7 (by decide +kernel) rfl rfl ⟨Nat.le_of_ble_eq_true rfl, Nat.le_of_ble_eq_true rfl⟩ hK hP (MR_0 hX) (by decide) rfl rfl rfl hl rfl (Nat.le_of_ble_eq_true rfl) d_MO_take_129 ⟨Nat.zero_le _, Nat.zero_le _⟩ hS (fun _ h => h) (fun v C H locs hp hP _ _ hS => ?_)
                obtain ⟨rfl, big1, wid1, hX, hb1, hf1⟩ := hp
                have hX : MV ca b C th dts tld fs9 ls9 cn9 lf9 mb9 mwt mab mbe on1 ot2 lea mos yrs (va_up (va_up (tkB on1 ot2 lea mos bv k f z) 72 (tkM on1 lea mos bv k f z 12)) ((12 * (tkT on1 ot2 k f)) + z) ((va_up (tkB on1 ot2 lea mos bv k f z) 72 (tkM on1 lea mos bv k f z 12)) ((12 * (tkT on1 ot2 k f)) + z) * (va_up (tkB on1 ot2 lea mos bv k f z) 72 (tkM on1 lea mos bv k f z 12)) 72)) := ⟨_, _, hX, bvUp hB9 hb1 hf1⟩
                refine lv_iinc (v := nI (z + 1)) (lv' := [(4, .int (nI (z + 1))), (0, .ref (b + 0)), (1, .int (nI k)), (2, .int (nI f)), (3, .int (nI (tkT on1 ot2 k f))), (5, .int (nI y))]) hx hb d_MO_take_132 hl (k := 4) rfl (show nI z + Int32.ofInt 1 = nI (z + 1) from nI_add _ _) (by decide) rfl (fun ls hl => ?_)
                refine lv_goto (tgt := 29) hx hb d_MO_take_135 (by decide) ?_
                have hX : MV ca b C th dts tld fs9 ls9 cn9 lf9 mb9 mwt mab mbe on1 ot2 lea mos yrs (va_up (tkB on1 ot2 lea mos bv k f (z + 1)) 72 (tkM on1 lea mos bv k f z 12)) := by
                  have e : va_up (va_up (tkB on1 ot2 lea mos bv k f z) 72 (tkM on1 lea mos bv k f z 12)) ((12 * (tkT on1 ot2 k f)) + z) ((va_up (tkB on1 ot2 lea mos bv k f z) 72 (tkM on1 lea mos bv k f z 12)) ((12 * (tkT on1 ot2 k f)) + z) * (va_up (tkB on1 ot2 lea mos bv k f z) 72 (tkM on1 lea mos bv k f z 12)) 72) = va_up (tkB on1 ot2 lea mos bv k f (z + 1)) 72 (tkM on1 lea mos bv k f z 12) := by
                    rw [va_up_self, va_up_ne _ _ (show 12 * (tkT on1 ot2 k f) + z ≠ 72 by omega), tkB_out (by omega), va_up_comm (by omega), tkB_s]
                  rw [← e]; exact hX
                exact ih29 (z + 1) _ _ _ _ _ (by omega) (by omega) hP hS hX (lv_sub hl [1, 2, 3, 4, 0] rfl)
              · skip
                refine lv_aload_n hx hb d_MO_take_53 rfl (lv_at hl 0 rfl) ?_
                refine xw_get (v := .ref (b + 4)) hx hb hts (fun w h => mw (uw_MO w h)) hown hK hP (MV_0 hX) (by decide) rfl 6 (by decide) (hts _ (mw tb_601)) (fun _ h => h) rfl d_MO_take_54 ?_
                refine lv_iload_n hx hb d_MO_take_57 rfl (lv_at hl 1 rfl) ?_
                refine xw_iald hx hb hK hP 0 (MV_4 hX) (by decide) rfl (by omega) (by decide) d_MO_take_58 ?_
                refine lv_iload_n hx hb d_MO_take_59 rfl (lv_at hl 2 rfl) ?_
                refine xi_ne (tgt := 71) hx hb d_MO_take_60 (by decide) (by omega) (by omega) (fun h60 => ?_) (fun h60 => ?_)
                · skip
                  refine lv_iload hx hb d_MO_take_71 (lv_at hl 5 rfl) ?_
                  refine lv_iload hx hb d_MO_take_73 (lv_at hl 4 rfl) ?_
                  refine lv_isub hx hb d_MO_take_75 ?_
                  refine lv_istore (lv' := [(6, .int (((nI y) - (nI z)))), (0, .ref (b + 0)), (1, .int (nI k)), (2, .int (nI f)), (3, .int (nI (tkT on1 ot2 k f))), (4, .int (nI z)), (5, .int (nI y))]) hx hb d_MO_take_76 hl (by decide) rfl (fun ls hl => ?_)
                  refine lv_iload hx hb d_MO_take_78 (lv_at hl 0 rfl) ?_
                  refine lv_aload_n hx hb d_MO_take_80 rfl (lv_at hl 1 rfl) ?_
                  refine xw_get (v := .ref (b + 6)) hx hb hts (fun w h => mw (uw_MO w h)) hown hK hP (MV_0 hX) (by decide) rfl 8 (by decide) (hts _ (mw tb_603)) (fun _ h => h) rfl d_MO_take_81 ?_
                  refine lv_iload_n hx hb d_MO_take_84 rfl (lv_at hl 2 rfl) ?_
                  refine xw_iald hx hb hK hP 0 (MV_6 hX) (by decide) rfl (by omega) (by decide) d_MO_take_85 ?_
                  refine lv_icmp_lt (tgt := 113) hx hb d_MO_take_86 (by decide) (fun h86 => ?_) (fun h86 => ?_)
                  · skip
                    rw [← tkM_f (bv := bv) (fun q => q.elim (fun q => h60 q.1) (fun q => absurd ((ltsub (by omega) (by omega) (by omega)).mp h86) (by omega)))] at hX
                    refine lv_iinc (v := nI (y + 1)) (lv' := [(5, .int (nI (y + 1))), (6, .int (((nI y) - (nI z)))), (0, .ref (b + 0)), (1, .int (nI k)), (2, .int (nI f)), (3, .int (nI (tkT on1 ot2 k f))), (4, .int (nI z))]) hx hb d_MO_take_113 hl (k := 6) rfl (show nI y + Int32.ofInt 1 = nI (y + 1) from nI_add _ _) (by decide) rfl (fun ls hl => ?_)
                    refine lv_goto (tgt := 46) hx hb d_MO_take_116 (by decide) ?_
                    exact ih46 (y + 1) _ _ _ _ (by omega) (by omega) hP hS hX (lv_sub hl [2, 3, 4, 5, 6, 0] rfl)
                  · skip
                    have h86b : z + lea k ≤ y := Nat.not_lt.mp (fun q => h86 ((ltsub (by omega) (by omega) (by omega)).mpr q))
                    refine lv_iload hx hb d_MO_take_89 (lv_at hl 0 rfl) ?_
                    refine lv_aload_n hx hb d_MO_take_91 rfl (lv_at hl 1 rfl) ?_
                    refine xw_get (v := .ref (b + 7)) hx hb hts (fun w h => mw (uw_MO w h)) hown hK hP (MV_0 hX) (by decide) rfl 9 (by decide) (hts _ (mw tb_604)) (fun _ h => h) rfl d_MO_take_92 ?_
                    refine lv_iload_n hx hb d_MO_take_95 rfl (lv_at hl 2 rfl) ?_
                    refine xw_iald hx hb hK hP 0 (MV_7 hX) (by decide) rfl (by omega) (by decide) d_MO_take_96 ?_
                    refine lv_icmp_gt (tgt := 113) hx hb d_MO_take_97 (by decide) (fun h97 => ?_) (fun h97 => ?_)
                    · skip
                      rw [← tkM_f (bv := bv) (fun q => q.elim (fun q => h60 q.1) (fun q => absurd ((gtsub (by omega) (by omega) (by omega)).mp h97) (by omega)))] at hX
                      refine lv_iinc (v := nI (y + 1)) (lv' := [(5, .int (nI (y + 1))), (6, .int (((nI y) - (nI z)))), (0, .ref (b + 0)), (1, .int (nI k)), (2, .int (nI f)), (3, .int (nI (tkT on1 ot2 k f))), (4, .int (nI z))]) hx hb d_MO_take_113 hl (k := 6) rfl (show nI y + Int32.ofInt 1 = nI (y + 1) from nI_add _ _) (by decide) rfl (fun ls hl => ?_)
                      refine lv_goto (tgt := 46) hx hb d_MO_take_116 (by decide) ?_
                      exact ih46 (y + 1) _ _ _ _ (by omega) (by omega) hP hS hX (lv_sub hl [2, 3, 4, 5, 6, 0] rfl)
                    · skip
                      have h97b : y ≤ z + mos k := Nat.not_lt.mp (fun q => h97 ((gtsub (by omega) (by omega) (by omega)).mpr q))
                      refine lv_aload_n hx hb d_MO_take_100 rfl (lv_at hl 1 rfl) ?_
                      refine lv_bipush (v := nI 72) hx hb d_MO_take_101 (by decide) ?_
                      refine lv_bipush (v := nI 12) hx hb d_MO_take_103 (by decide) ?_
                      refine lv_iload_n hx hb d_MO_take_105 rfl (lv_at hl 3 rfl) ?_
                      refine lv_imul hx hb d_MO_take_106 ?_
                      refine ti (nI (12 * f)) (pk_mul _ _) ?_
                      refine lv_iload hx hb d_MO_take_107 (lv_at hl 6 rfl) ?_
                      refine lv_iadd hx hb d_MO_take_109 ?_
                      refine ti (nI ((12 * f) + y)) (nI_add _ _) ?_
                      obtain ⟨bg9, wd9, hX, hB9⟩ := hX
                      refine xc_V (n := 2) (g0 := 0) (As := [.int (nI 72), .int (nI ((12 * f) + y))]) (rest := []) (st0 := _) hx hb hml hown hts (c_MO_add l D ca b _ 72 ((12 * f) + y) _ _ hX (by omega) (by omega) (by omega) (hB9 72 (by omega)) (hB9 ((12 * f) + y) (by omega))) km_MO_add tb_748 tb_750 tps_35 tb_7 (by decide +kernel) rfl rfl ⟨Nat.le_of_ble_eq_true rfl, Nat.le_of_ble_eq_true rfl⟩ hK hP (MR_0 hX) (by decide) rfl rfl rfl hl rfl (Nat.le_of_ble_eq_true rfl) d_MO_take_110 ⟨Nat.zero_le _, Nat.zero_le _⟩ hS (fun _ h => h) (fun v C H locs hp hP _ _ hS => ?_)
                      obtain ⟨rfl, big1, hX, hb1, hf1⟩ := hp
                      have hX : MV ca b C th dts tld fs9 ls9 cn9 lf9 mb9 mwt mab mbe on1 ot2 lea mos yrs (va_up (va_up (tkB on1 ot2 lea mos bv k f z) 72 (tkM on1 lea mos bv k f z y)) 72 ((va_up (tkB on1 ot2 lea mos bv k f z) 72 (tkM on1 lea mos bv k f z y)) 72 + (va_up (tkB on1 ot2 lea mos bv k f z) 72 (tkM on1 lea mos bv k f z y)) ((12 * f) + y))) := ⟨_, _, hX, bvUp hB9 hb1 hf1⟩
                      have hX : MV ca b C th dts tld fs9 ls9 cn9 lf9 mb9 mwt mab mbe on1 ot2 lea mos yrs (va_up (tkB on1 ot2 lea mos bv k f z) 72 (tkM on1 lea mos bv k f z (y + 1))) := by
                        have e : va_up (va_up (tkB on1 ot2 lea mos bv k f z) 72 (tkM on1 lea mos bv k f z y)) 72 ((va_up (tkB on1 ot2 lea mos bv k f z) 72 (tkM on1 lea mos bv k f z y)) 72 + (va_up (tkB on1 ot2 lea mos bv k f z) 72 (tkM on1 lea mos bv k f z y)) ((12 * f) + y)) = va_up (tkB on1 ot2 lea mos bv k f z) 72 (tkM on1 lea mos bv k f z (y + 1)) := by
                          rw [up2, va_up_self, va_up_ne _ _ (by omega), tkB_out (by omega), tkM_t (Or.inr ⟨h60, by omega, by omega⟩)]
                        rw [← e]; exact hX
                      refine lv_iinc (v := nI (y + 1)) (lv' := [(5, .int (nI (y + 1))), (6, .int (((nI y) - (nI z)))), (0, .ref (b + 0)), (1, .int (nI k)), (2, .int (nI f)), (3, .int (nI (tkT on1 ot2 k f))), (4, .int (nI z))]) hx hb d_MO_take_113 hl (k := 6) rfl (show nI y + Int32.ofInt 1 = nI (y + 1) from nI_add _ _) (by decide) rfl (fun ls hl => ?_)
                      refine lv_goto (tgt := 46) hx hb d_MO_take_116 (by decide) ?_
                      exact ih46 (y + 1) _ _ _ _ (by omega) (by omega) hP hS hX (lv_sub hl [2, 3, 4, 5, 6, 0] rfl)
                · skip
                  refine lv_iload hx hb d_MO_take_63 (lv_at hl 4 rfl) ?_
                  refine lv_iload hx hb d_MO_take_65 (lv_at hl 5 rfl) ?_
                  refine lv_isub hx hb d_MO_take_67 ?_
                  refine lv_goto (tgt := 76) hx hb d_MO_take_68 (by decide) ?_
                  refine lv_istore (lv' := [(6, .int (((nI z) - (nI y)))), (0, .ref (b + 0)), (1, .int (nI k)), (2, .int (nI f)), (3, .int (nI (tkT on1 ot2 k f))), (4, .int (nI z)), (5, .int (nI y))]) hx hb d_MO_take_76 hl (by decide) rfl (fun ls hl => ?_)
                  refine lv_iload hx hb d_MO_take_78 (lv_at hl 0 rfl) ?_
                  refine lv_aload_n hx hb d_MO_take_80 rfl (lv_at hl 1 rfl) ?_
                  refine xw_get (v := .ref (b + 6)) hx hb hts (fun w h => mw (uw_MO w h)) hown hK hP (MV_0 hX) (by decide) rfl 8 (by decide) (hts _ (mw tb_603)) (fun _ h => h) rfl d_MO_take_81 ?_
                  refine lv_iload_n hx hb d_MO_take_84 rfl (lv_at hl 2 rfl) ?_
                  refine xw_iald hx hb hK hP 0 (MV_6 hX) (by decide) rfl (by omega) (by decide) d_MO_take_85 ?_
                  refine lv_icmp_lt (tgt := 113) hx hb d_MO_take_86 (by decide) (fun h86 => ?_) (fun h86 => ?_)
                  · skip
                    rw [← tkM_f (bv := bv) (fun q => q.elim (fun q => absurd ((ltsub (by omega) (by omega) (by omega)).mp h86) (by omega)) (fun q => q.1 h60))] at hX
                    refine lv_iinc (v := nI (y + 1)) (lv' := [(5, .int (nI (y + 1))), (6, .int (((nI z) - (nI y)))), (0, .ref (b + 0)), (1, .int (nI k)), (2, .int (nI f)), (3, .int (nI (tkT on1 ot2 k f))), (4, .int (nI z))]) hx hb d_MO_take_113 hl (k := 6) rfl (show nI y + Int32.ofInt 1 = nI (y + 1) from nI_add _ _) (by decide) rfl (fun ls hl => ?_)
                    refine lv_goto (tgt := 46) hx hb d_MO_take_116 (by decide) ?_
                    exact ih46 (y + 1) _ _ _ _ (by omega) (by omega) hP hS hX (lv_sub hl [2, 3, 4, 5, 6, 0] rfl)
                  · skip
                    have h86b : y + lea k ≤ z := Nat.not_lt.mp (fun q => h86 ((ltsub (by omega) (by omega) (by omega)).mpr q))
                    refine lv_iload hx hb d_MO_take_89 (lv_at hl 0 rfl) ?_
                    refine lv_aload_n hx hb d_MO_take_91 rfl (lv_at hl 1 rfl) ?_
                    refine xw_get (v := .ref (b + 7)) hx hb hts (fun w h => mw (uw_MO w h)) hown hK hP (MV_0 hX) (by decide) rfl 9 (by decide) (hts _ (mw tb_604)) (fun _ h => h) rfl d_MO_take_92 ?_
                    refine lv_iload_n hx hb d_MO_take_95 rfl (lv_at hl 2 rfl) ?_
                    refine xw_iald hx hb hK hP 0 (MV_7 hX) (by decide) rfl (by omega) (by decide) d_MO_take_96 ?_
                    refine lv_icmp_gt (tgt := 113) hx hb d_MO_take_97 (by decide) (fun h97 => ?_) (fun h97 => ?_)
                    · skip
                      rw [← tkM_f (bv := bv) (fun q => q.elim (fun q => absurd ((gtsub (by omega) (by omega) (by omega)).mp h97) (by omega)) (fun q => q.1 h60))] at hX
                      refine lv_iinc (v := nI (y + 1)) (lv' := [(5, .int (nI (y + 1))), (6, .int (((nI z) - (nI y)))), (0, .ref (b + 0)), (1, .int (nI k)), (2, .int (nI f)), (3, .int (nI (tkT on1 ot2 k f))), (4, .int (nI z))]) hx hb d_MO_take_113 hl (k := 6) rfl (show nI y + Int32.ofInt 1 = nI (y + 1) from nI_add _ _) (by decide) rfl (fun ls hl => ?_)
                      refine lv_goto (tgt := 46) hx hb d_MO_take_116 (by decide) ?_
                      exact ih46 (y + 1) _ _ _ _ (by omega) (by omega) hP hS hX (lv_sub hl [2, 3, 4, 5, 6, 0] rfl)
                    · skip
                      have h97b : z ≤ y + mos k := Nat.not_lt.mp (fun q => h97 ((gtsub (by omega) (by omega) (by omega)).mpr q))
                      refine lv_aload_n hx hb d_MO_take_100 rfl (lv_at hl 1 rfl) ?_
                      refine lv_bipush (v := nI 72) hx hb d_MO_take_101 (by decide) ?_
                      refine lv_bipush (v := nI 12) hx hb d_MO_take_103 (by decide) ?_
                      refine lv_iload_n hx hb d_MO_take_105 rfl (lv_at hl 3 rfl) ?_
                      refine lv_imul hx hb d_MO_take_106 ?_
                      refine ti (nI (12 * f)) (pk_mul _ _) ?_
                      refine lv_iload hx hb d_MO_take_107 (lv_at hl 6 rfl) ?_
                      refine lv_iadd hx hb d_MO_take_109 ?_
                      refine ti (nI ((12 * f) + y)) (nI_add _ _) ?_
                      obtain ⟨bg9, wd9, hX, hB9⟩ := hX
                      refine xc_V (n := 2) (g0 := 0) (As := [.int (nI 72), .int (nI ((12 * f) + y))]) (rest := []) (st0 := _) hx hb hml hown hts (c_MO_add l D ca b _ 72 ((12 * f) + y) _ _ hX (by omega) (by omega) (by omega) (hB9 72 (by omega)) (hB9 ((12 * f) + y) (by omega))) km_MO_add tb_748 tb_750 tps_35 tb_7 (by decide +kernel) rfl rfl ⟨Nat.le_of_ble_eq_true rfl, Nat.le_of_ble_eq_true rfl⟩ hK hP (MR_0 hX) (by decide) rfl rfl rfl hl rfl (Nat.le_of_ble_eq_true rfl) d_MO_take_110 ⟨Nat.zero_le _, Nat.zero_le _⟩ hS (fun _ h => h) (fun v C H locs hp hP _ _ hS => ?_)
                      obtain ⟨rfl, big1, hX, hb1, hf1⟩ := hp
                      have hX : MV ca b C th dts tld fs9 ls9 cn9 lf9 mb9 mwt mab mbe on1 ot2 lea mos yrs (va_up (va_up (tkB on1 ot2 lea mos bv k f z) 72 (tkM on1 lea mos bv k f z y)) 72 ((va_up (tkB on1 ot2 lea mos bv k f z) 72 (tkM on1 lea mos bv k f z y)) 72 + (va_up (tkB on1 ot2 lea mos bv k f z) 72 (tkM on1 lea mos bv k f z y)) ((12 * f) + y))) := ⟨_, _, hX, bvUp hB9 hb1 hf1⟩
                      have hX : MV ca b C th dts tld fs9 ls9 cn9 lf9 mb9 mwt mab mbe on1 ot2 lea mos yrs (va_up (tkB on1 ot2 lea mos bv k f z) 72 (tkM on1 lea mos bv k f z (y + 1))) := by
                        have e : va_up (va_up (tkB on1 ot2 lea mos bv k f z) 72 (tkM on1 lea mos bv k f z y)) 72 ((va_up (tkB on1 ot2 lea mos bv k f z) 72 (tkM on1 lea mos bv k f z y)) 72 + (va_up (tkB on1 ot2 lea mos bv k f z) 72 (tkM on1 lea mos bv k f z y)) ((12 * f) + y)) = va_up (tkB on1 ot2 lea mos bv k f z) 72 (tkM on1 lea mos bv k f z (y + 1)) := by
                          rw [up2, va_up_self, va_up_ne _ _ (by omega), tkB_out (by omega), tkM_t (Or.inl ⟨h60, by omega, by omega⟩)]
                        rw [← e]; exact hX
                      refine lv_iinc (v := nI (y + 1)) (lv' := [(5, .int (nI (y + 1))), (6, .int (((nI z) - (nI y)))), (0, .ref (b + 0)), (1, .int (nI k)), (2, .int (nI f)), (3, .int (nI (tkT on1 ot2 k f))), (4, .int (nI z))]) hx hb d_MO_take_113 hl (k := 6) rfl (show nI y + Int32.ofInt 1 = nI (y + 1) from nI_add _ _) (by decide) rfl (fun ls hl => ?_)
                      refine lv_goto (tgt := 46) hx hb d_MO_take_116 (by decide) ?_
                      exact ih46 (y + 1) _ _ _ _ (by omega) (by omega) hP hS hX (lv_sub hl [2, 3, 4, 5, 6, 0] rfl)
          have hX : MV ca b C th dts tld fs9 ls9 cn9 lf9 mb9 mwt mab mbe on1 ot2 lea mos yrs (va_up (tkB on1 ot2 lea mos bv k f z) 72 (tkM on1 lea mos bv k f z 0)) := by
            rw [← up2 (tkB on1 ot2 lea mos bv k f z) 72 m0 (tkM on1 lea mos bv k f z 0)]; exact hX
          exact loop46 13 0 _ _ _ _ (by omega) (by omega) hP hS hX (lv_sub hl [1, 2, 3, 4, 5, 0] rfl)
    have hX : MV ca b C0 th dts tld fs9 ls9 cn9 lf9 mb9 mwt mab mbe on1 ot2 lea mos yrs (va_up (tkB on1 ot2 lea mos bv k f 0) 72 (bv 72)) := by
      have e : va_up (tkB on1 ot2 lea mos bv k f 0) 72 (bv 72) = bv := by
        rw [tkB_0]; funext x; by_cases q : x = 72
        · rw [q, va_up_self]
        · rw [va_up_ne _ _ q]
      rw [e]; exact hX
    exact loop29 13 0 (bv 72) _ _ _ _ (by omega) (by omega) hP hS hX (lv_sub hl [2, 3, 4, 1, 0] rfl)
  · skip
    refine lv_aload_n hx hb d_MO_take_10 rfl (lv_at hl 0 rfl) ?_
    refine xw_get (v := .ref (b + 5)) hx hb hts (fun w h => mw (uw_MO w h)) hown hK hP (MV_0 hX) (by decide) rfl 7 (by decide) (hts _ (mw tb_602)) (fun _ h => h) rfl d_MO_take_11 ?_
    refine lv_iload_n hx hb d_MO_take_14 rfl (lv_at hl 1 rfl) ?_
    refine xw_iald hx hb hK hP 0 (MV_5 hX) (by decide) rfl (by omega) (by decide) d_MO_take_15 ?_
    refine lv_goto (tgt := 25) hx hb d_MO_take_16 (by decide) ?_
    refine ti (nI (tkT on1 ot2 k f)) (by rw [tkT, if_pos h7]) ?_
    refine lv_istore_n (lv' := [(3, .int (nI (tkT on1 ot2 k f))), (0, .ref (b + 0)), (1, .int (nI k)), (2, .int (nI f))]) hx hb d_MO_take_25 rfl hl (by decide) rfl (fun ls hl => ?_)
    refine lv_iconst (v := nI 0) hx hb d_MO_take_26 (by decide) ?_
    refine lv_istore (lv' := [(4, .int (nI 0)), (3, .int (nI (tkT on1 ot2 k f))), (0, .ref (b + 0)), (1, .int (nI k)), (2, .int (nI f))]) hx hb d_MO_take_27 hl (by decide) rfl (fun ls hl => ?_)
    have loop29 : ∀ (r : Nat) (z : Nat) (m0 : Nat) (C : Nat → va_E) (H : Heap) (locs : List Loc) (ls : Array Slot), 12 < z + r → z ≤ 12 → va_P D classes (wl b 11 C) H → va_S (xr b 11) s.heap H locs → MV ca b C th dts tld fs9 ls9 cn9 lf9 mb9 mwt mab mbe on1 ot2 lea mos yrs (va_up (tkB on1 ot2 lea mos bv k f z) 72 m0) → lv_has ls 7 [(0, .ref (b + 0)), (1, .int (nI k)), (2, .int (nI f)), (3, .int (nI (tkT on1 ot2 k f))), (4, .int (nI z))] → W p l e (headSpec (k_MO_take :: gw) ({ frames := 2, cells := 0, slots := 0, locals := 38 })).room s m args below meth c H locs 0 0 (MQ below (xQ D b 11 (fun r C1 => r = none ∧ ∃ m1, MV ca b C1 th dts tld fs9 ls9 cn9 (clb lf9 (2 ^ k)) mb9 mwt mab mbe on1 ot2 lea mos yrs (va_up (tkB on1 ot2 lea mos bv k f 12) 72 m1))) args s 0 0 (xr b 11)) (F0 m 29 ls []) := by
      intro r
      induction r with
      | zero => intro z m0 C H locs ls hms hz; exact absurd hms (by omega)
      | succ r ih29 =>
        intro z m0 C H locs ls hms hz hP hS hX hl
        refine lv_iload hx hb d_MO_take_29 (lv_at hl 4 rfl) ?_
        refine lv_bipush (v := nI 12) hx hb d_MO_take_31 (by decide) ?_
        refine xi_ge (tgt := 138) hx hb d_MO_take_33 (by decide) (by omega) (by omega) (fun h33 => ?_) (fun h33 => ?_)
        · skip
          have ez : z = 12 := by omega
          rw [ez] at hX
          refine lv_aload_n hx hb d_MO_take_138 rfl (lv_at hl 0 rfl) ?_
          refine lv_aload_n hx hb d_MO_take_139 rfl (lv_at hl 0 rfl) ?_
          refine xw_get (v := .int (nI lf9)) hx hb hts (fun w h => mw (uw_MO w h)) hown hK hP (MV_0 hX) (by decide) rfl 16 (by decide) (hts _ (mw tb_611)) (fun _ h => h) rfl d_MO_take_140 ?_
          refine lv_iconst (v := nI 1) hx hb d_MO_take_143 (by decide) ?_
          refine lv_iload_n hx hb d_MO_take_144 rfl (lv_at hl 1 rfl) ?_
          refine lv_ishl hx hb d_MO_take_145 ?_
          refine ti (nI (2 ^ k)) (sh1 (by omega)) ?_
          refine lv_iconst (v := (-1)) hx hb d_MO_take_146 (by decide) ?_
          refine lv_ixor hx hb d_MO_take_147 ?_
          refine lv_iand hx hb d_MO_take_148 ?_
          refine ti (nI (clb lf9 (2 ^ k))) (nx_clb _ _) ?_
          refine xw_put (v := .int (nI (clb lf9 (2 ^ k)))) (ty := t_MO 16) hx hb hts (fun w h => mw (uw_MO w h)) t_MO t_MO_ok n_MO hown hK hP hA hS (MV_0 hX) (by decide) rfl 16 (by decide) (hts _ (mw tb_611)) (fun _ h => h) rfl (by decide +kernel) rfl rfl (Nat.le_of_ble_eq_true rfl) d_MO_take_149 (fun H locs hP hS => ?_)
          have hX := MV_set_lf9 (x1 := clb lf9 (2 ^ k)) hX
          generalize va_up _ 0 _ = C at hP hX
          exact xw_vret hx hb hr hlocks hP hS ⟨rfl, _, hX⟩ d_MO_take_152
        · skip
          refine lv_aload_n hx hb d_MO_take_36 rfl (lv_at hl 0 rfl) ?_
          refine lv_bipush (v := nI 72) hx hb d_MO_take_37 (by decide) ?_
          refine lv_iconst (v := nI 0) hx hb d_MO_take_39 (by decide) ?_
          obtain ⟨bg9, wd9, hX, hB9⟩ := hX
          refine xc_V (n := 2) (g0 := 0) (As := [.int (nI 72), .int (nI 0)]) (rest := []) (st0 := _) hx hb hml hown hts (c_MO_set l D ca b _ 72 0 hX (by omega) (by omega)) km_MO_set tb_724 tb_726 tps_29 tb_7 (by decide +kernel) rfl rfl ⟨Nat.le_of_ble_eq_true rfl, Nat.le_of_ble_eq_true rfl⟩ hK hP (MR_0 hX) (by decide) rfl rfl rfl hl rfl (Nat.le_of_ble_eq_true rfl) d_MO_take_40 ⟨Nat.zero_le _, Nat.zero_le _⟩ hS (fun _ h => h) (fun v C H locs hp hP _ _ hS => ?_)
          obtain ⟨rfl, big1, hX, hb1, hf1⟩ := hp
          have hX : MV ca b C th dts tld fs9 ls9 cn9 lf9 mb9 mwt mab mbe on1 ot2 lea mos yrs (va_up (va_up (tkB on1 ot2 lea mos bv k f z) 72 m0) 72 0) := ⟨_, _, hX, bvUp hB9 hb1 hf1⟩
          refine lv_iconst (v := nI 0) hx hb d_MO_take_43 (by decide) ?_
          refine lv_istore (lv' := [(5, .int (nI 0)), (0, .ref (b + 0)), (1, .int (nI k)), (2, .int (nI f)), (3, .int (nI (tkT on1 ot2 k f))), (4, .int (nI z))]) hx hb d_MO_take_44 hl (by decide) rfl (fun ls hl => ?_)
          have loop46 : ∀ (r : Nat) (y : Nat) (C : Nat → va_E) (H : Heap) (locs : List Loc) (ls : Array Slot), 12 < y + r → y ≤ 12 → va_P D classes (wl b 11 C) H → va_S (xr b 11) s.heap H locs → MV ca b C th dts tld fs9 ls9 cn9 lf9 mb9 mwt mab mbe on1 ot2 lea mos yrs (va_up (tkB on1 ot2 lea mos bv k f z) 72 (tkM on1 lea mos bv k f z y)) → lv_has ls 7 [(0, .ref (b + 0)), (1, .int (nI k)), (2, .int (nI f)), (3, .int (nI (tkT on1 ot2 k f))), (4, .int (nI z)), (5, .int (nI y))] → W p l e (headSpec (k_MO_take :: gw) ({ frames := 2, cells := 0, slots := 0, locals := 38 })).room s m args below meth c H locs 0 0 (MQ below (xQ D b 11 (fun r C1 => r = none ∧ ∃ m1, MV ca b C1 th dts tld fs9 ls9 cn9 (clb lf9 (2 ^ k)) mb9 mwt mab mbe on1 ot2 lea mos yrs (va_up (tkB on1 ot2 lea mos bv k f 12) 72 m1))) args s 0 0 (xr b 11)) (F0 m 46 ls []) := by
            intro r
            induction r with
            | zero => intro y C H locs ls hms hy; exact absurd hms (by omega)
            | succ r ih46 =>
              intro y C H locs ls hms hy hP hS hX hl
              refine lv_iload hx hb d_MO_take_46 (lv_at hl 5 rfl) ?_
              refine lv_bipush (v := nI 12) hx hb d_MO_take_48 (by decide) ?_
              refine xi_ge (tgt := 119) hx hb d_MO_take_50 (by decide) (by omega) (by omega) (fun h50 => ?_) (fun h50 => ?_)
              · skip
                have ey : y = 12 := by omega
                rw [ey] at hX
                refine lv_aload_n hx hb d_MO_take_119 rfl (lv_at hl 0 rfl) ?_
                refine lv_bipush (v := nI 12) hx hb d_MO_take_120 (by decide) ?_
                refine lv_iload_n hx hb d_MO_take_122 rfl (lv_at hl 3 rfl) ?_
                refine lv_imul hx hb d_MO_take_123 ?_
                refine ti (nI (12 * (tkT on1 ot2 k f))) (pk_mul _ _) ?_
                refine lv_iload hx hb d_MO_take_124 (lv_at hl 4 rfl) ?_
                refine lv_iadd hx hb d_MO_take_126 ?_
                refine ti (nI ((12 * (tkT on1 ot2 k f)) + z)) (nI_add _ _) ?_
                refine lv_bipush (v := nI 72) hx hb d_MO_take_127 (by decide) ?_
                obtain ⟨bg9, wd9, hX, hB9⟩ := hX
                refine xc_V (n := 2) (g0 := 0) (As := [.int (nI ((12 * (tkT on1 ot2 k f)) + z)), .int (nI 72)]) (rest := []) (st0 := _) hx hb hml hown hts (c_MO_times l D ca b _ ((12 * (tkT on1 ot2 k f)) + z) 72 _ _ hX (by omega) (by omega) (by omega) (hB9 ((12 * (tkT on1 ot2 k f)) + z) (by omega)) (hB9 72 (by omega))) km_MO_times tb_752 tb_754 tps_36 tb_7 (by decide +kernel) rfl rfl ⟨Nat.le_of_ble_eq_true rfl, Nat.le_of_ble_eq_true rfl⟩ hK hP (MR_0 hX) (by decide) rfl rfl rfl hl rfl (Nat.le_of_ble_eq_true rfl) d_MO_take_129 ⟨Nat.zero_le _, Nat.zero_le _⟩ hS (fun _ h => h) (fun v C H locs hp hP _ _ hS => ?_)
                obtain ⟨rfl, big1, wid1, hX, hb1, hf1⟩ := hp
                have hX : MV ca b C th dts tld fs9 ls9 cn9 lf9 mb9 mwt mab mbe on1 ot2 lea mos yrs (va_up (va_up (tkB on1 ot2 lea mos bv k f z) 72 (tkM on1 lea mos bv k f z 12)) ((12 * (tkT on1 ot2 k f)) + z) ((va_up (tkB on1 ot2 lea mos bv k f z) 72 (tkM on1 lea mos bv k f z 12)) ((12 * (tkT on1 ot2 k f)) + z) * (va_up (tkB on1 ot2 lea mos bv k f z) 72 (tkM on1 lea mos bv k f z 12)) 72)) := ⟨_, _, hX, bvUp hB9 hb1 hf1⟩
                refine lv_iinc (v := nI (z + 1)) (lv' := [(4, .int (nI (z + 1))), (0, .ref (b + 0)), (1, .int (nI k)), (2, .int (nI f)), (3, .int (nI (tkT on1 ot2 k f))), (5, .int (nI y))]) hx hb d_MO_take_132 hl (k := 4) rfl (show nI z + Int32.ofInt 1 = nI (z + 1) from nI_add _ _) (by decide) rfl (fun ls hl => ?_)
                refine lv_goto (tgt := 29) hx hb d_MO_take_135 (by decide) ?_
                have hX : MV ca b C th dts tld fs9 ls9 cn9 lf9 mb9 mwt mab mbe on1 ot2 lea mos yrs (va_up (tkB on1 ot2 lea mos bv k f (z + 1)) 72 (tkM on1 lea mos bv k f z 12)) := by
                  have e : va_up (va_up (tkB on1 ot2 lea mos bv k f z) 72 (tkM on1 lea mos bv k f z 12)) ((12 * (tkT on1 ot2 k f)) + z) ((va_up (tkB on1 ot2 lea mos bv k f z) 72 (tkM on1 lea mos bv k f z 12)) ((12 * (tkT on1 ot2 k f)) + z) * (va_up (tkB on1 ot2 lea mos bv k f z) 72 (tkM on1 lea mos bv k f z 12)) 72) = va_up (tkB on1 ot2 lea mos bv k f (z + 1)) 72 (tkM on1 lea mos bv k f z 12) := by
                    rw [va_up_self, va_up_ne _ _ (show 12 * (tkT on1 ot2 k f) + z ≠ 72 by omega), tkB_out (by omega), va_up_comm (by omega), tkB_s]
                  rw [← e]; exact hX
                exact ih29 (z + 1) _ _ _ _ _ (by omega) (by omega) hP hS hX (lv_sub hl [1, 2, 3, 4, 0] rfl)
              · skip
                refine lv_aload_n hx hb d_MO_take_53 rfl (lv_at hl 0 rfl) ?_
                refine xw_get (v := .ref (b + 4)) hx hb hts (fun w h => mw (uw_MO w h)) hown hK hP (MV_0 hX) (by decide) rfl 6 (by decide) (hts _ (mw tb_601)) (fun _ h => h) rfl d_MO_take_54 ?_
                refine lv_iload_n hx hb d_MO_take_57 rfl (lv_at hl 1 rfl) ?_
                refine xw_iald hx hb hK hP 0 (MV_4 hX) (by decide) rfl (by omega) (by decide) d_MO_take_58 ?_
                refine lv_iload_n hx hb d_MO_take_59 rfl (lv_at hl 2 rfl) ?_
                refine xi_ne (tgt := 71) hx hb d_MO_take_60 (by decide) (by omega) (by omega) (fun h60 => ?_) (fun h60 => ?_)
                · skip
                  refine lv_iload hx hb d_MO_take_71 (lv_at hl 5 rfl) ?_
                  refine lv_iload hx hb d_MO_take_73 (lv_at hl 4 rfl) ?_
                  refine lv_isub hx hb d_MO_take_75 ?_
                  refine lv_istore (lv' := [(6, .int (((nI y) - (nI z)))), (0, .ref (b + 0)), (1, .int (nI k)), (2, .int (nI f)), (3, .int (nI (tkT on1 ot2 k f))), (4, .int (nI z)), (5, .int (nI y))]) hx hb d_MO_take_76 hl (by decide) rfl (fun ls hl => ?_)
                  refine lv_iload hx hb d_MO_take_78 (lv_at hl 0 rfl) ?_
                  refine lv_aload_n hx hb d_MO_take_80 rfl (lv_at hl 1 rfl) ?_
                  refine xw_get (v := .ref (b + 6)) hx hb hts (fun w h => mw (uw_MO w h)) hown hK hP (MV_0 hX) (by decide) rfl 8 (by decide) (hts _ (mw tb_603)) (fun _ h => h) rfl d_MO_take_81 ?_
                  refine lv_iload_n hx hb d_MO_take_84 rfl (lv_at hl 2 rfl) ?_
                  refine xw_iald hx hb hK hP 0 (MV_6 hX) (by decide) rfl (by omega) (by decide) d_MO_take_85 ?_
                  refine lv_icmp_lt (tgt := 113) hx hb d_MO_take_86 (by decide) (fun h86 => ?_) (fun h86 => ?_)
                  · skip
                    rw [← tkM_f (bv := bv) (fun q => q.elim (fun q => h60 q.1) (fun q => absurd ((ltsub (by omega) (by omega) (by omega)).mp h86) (by omega)))] at hX
                    refine lv_iinc (v := nI (y + 1)) (lv' := [(5, .int (nI (y + 1))), (6, .int (((nI y) - (nI z)))), (0, .ref (b + 0)), (1, .int (nI k)), (2, .int (nI f)), (3, .int (nI (tkT on1 ot2 k f))), (4, .int (nI z))]) hx hb d_MO_take_113 hl (k := 6) rfl (show nI y + Int32.ofInt 1 = nI (y + 1) from nI_add _ _) (by decide) rfl (fun ls hl => ?_)
                    refine lv_goto (tgt := 46) hx hb d_MO_take_116 (by decide) ?_
                    exact ih46 (y + 1) _ _ _ _ (by omega) (by omega) hP hS hX (lv_sub hl [2, 3, 4, 5, 6, 0] rfl)
                  · skip
                    have h86b : z + lea k ≤ y := Nat.not_lt.mp (fun q => h86 ((ltsub (by omega) (by omega) (by omega)).mpr q))
                    refine lv_iload hx hb d_MO_take_89 (lv_at hl 0 rfl) ?_
                    refine lv_aload_n hx hb d_MO_take_91 rfl (lv_at hl 1 rfl) ?_
                    refine xw_get (v := .ref (b + 7)) hx hb hts (fun w h => mw (uw_MO w h)) hown hK hP (MV_0 hX) (by decide) rfl 9 (by decide) (hts _ (mw tb_604)) (fun _ h => h) rfl d_MO_take_92 ?_
                    refine lv_iload_n hx hb d_MO_take_95 rfl (lv_at hl 2 rfl) ?_
                    refine xw_iald hx hb hK hP 0 (MV_7 hX) (by decide) rfl (by omega) (by decide) d_MO_take_96 ?_
                    refine lv_icmp_gt (tgt := 113) hx hb d_MO_take_97 (by decide) (fun h97 => ?_) (fun h97 => ?_)
                    · skip
                      rw [← tkM_f (bv := bv) (fun q => q.elim (fun q => h60 q.1) (fun q => absurd ((gtsub (by omega) (by omega) (by omega)).mp h97) (by omega)))] at hX
                      refine lv_iinc (v := nI (y + 1)) (lv' := [(5, .int (nI (y + 1))), (6, .int (((nI y) - (nI z)))), (0, .ref (b + 0)), (1, .int (nI k)), (2, .int (nI f)), (3, .int (nI (tkT on1 ot2 k f))), (4, .int (nI z))]) hx hb d_MO_take_113 hl (k := 6) rfl (show nI y + Int32.ofInt 1 = nI (y + 1) from nI_add _ _) (by decide) rfl (fun ls hl => ?_)
                      refine lv_goto (tgt := 46) hx hb d_MO_take_116 (by decide) ?_
                      exact ih46 (y + 1) _ _ _ _ (by omega) (by omega) hP hS hX (lv_sub hl [2, 3, 4, 5, 6, 0] rfl)
                    · skip
                      have h97b : y ≤ z + mos k := Nat.not_lt.mp (fun q => h97 ((gtsub (by omega) (by omega) (by omega)).mpr q))
                      refine lv_aload_n hx hb d_MO_take_100 rfl (lv_at hl 1 rfl) ?_
                      refine lv_bipush (v := nI 72) hx hb d_MO_take_101 (by decide) ?_
                      refine lv_bipush (v := nI 12) hx hb d_MO_take_103 (by decide) ?_
                      refine lv_iload_n hx hb d_MO_take_105 rfl (lv_at hl 3 rfl) ?_
                      refine lv_imul hx hb d_MO_take_106 ?_
                      refine ti (nI (12 * f)) (pk_mul _ _) ?_
                      refine lv_iload hx hb d_MO_take_107 (lv_at hl 6 rfl) ?_
                      refine lv_iadd hx hb d_MO_take_109 ?_
                      refine ti (nI ((12 * f) + y)) (nI_add _ _) ?_
                      obtain ⟨bg9, wd9, hX, hB9⟩ := hX
                      refine xc_V (n := 2) (g0 := 0) (As := [.int (nI 72), .int (nI ((12 * f) + y))]) (rest := []) (st0 := _) hx hb hml hown hts (c_MO_add l D ca b _ 72 ((12 * f) + y) _ _ hX (by omega) (by omega) (by omega) (hB9 72 (by omega)) (hB9 ((12 * f) + y) (by omega))) km_MO_add tb_748 tb_750 tps_35 tb_7 (by decide +kernel) rfl rfl ⟨Nat.le_of_ble_eq_true rfl, Nat.le_of_ble_eq_true rfl⟩ hK hP (MR_0 hX) (by decide) rfl rfl rfl hl rfl (Nat.le_of_ble_eq_true rfl) d_MO_take_110 ⟨Nat.zero_le _, Nat.zero_le _⟩ hS (fun _ h => h) (fun v C H locs hp hP _ _ hS => ?_)
                      obtain ⟨rfl, big1, hX, hb1, hf1⟩ := hp
                      have hX : MV ca b C th dts tld fs9 ls9 cn9 lf9 mb9 mwt mab mbe on1 ot2 lea mos yrs (va_up (va_up (tkB on1 ot2 lea mos bv k f z) 72 (tkM on1 lea mos bv k f z y)) 72 ((va_up (tkB on1 ot2 lea mos bv k f z) 72 (tkM on1 lea mos bv k f z y)) 72 + (va_up (tkB on1 ot2 lea mos bv k f z) 72 (tkM on1 lea mos bv k f z y)) ((12 * f) + y))) := ⟨_, _, hX, bvUp hB9 hb1 hf1⟩
                      have hX : MV ca b C th dts tld fs9 ls9 cn9 lf9 mb9 mwt mab mbe on1 ot2 lea mos yrs (va_up (tkB on1 ot2 lea mos bv k f z) 72 (tkM on1 lea mos bv k f z (y + 1))) := by
                        have e : va_up (va_up (tkB on1 ot2 lea mos bv k f z) 72 (tkM on1 lea mos bv k f z y)) 72 ((va_up (tkB on1 ot2 lea mos bv k f z) 72 (tkM on1 lea mos bv k f z y)) 72 + (va_up (tkB on1 ot2 lea mos bv k f z) 72 (tkM on1 lea mos bv k f z y)) ((12 * f) + y)) = va_up (tkB on1 ot2 lea mos bv k f z) 72 (tkM on1 lea mos bv k f z (y + 1)) := by
                          rw [up2, va_up_self, va_up_ne _ _ (by omega), tkB_out (by omega), tkM_t (Or.inr ⟨h60, by omega, by omega⟩)]
                        rw [← e]; exact hX
                      refine lv_iinc (v := nI (y + 1)) (lv' := [(5, .int (nI (y + 1))), (6, .int (((nI y) - (nI z)))), (0, .ref (b + 0)), (1, .int (nI k)), (2, .int (nI f)), (3, .int (nI (tkT on1 ot2 k f))), (4, .int (nI z))]) hx hb d_MO_take_113 hl (k := 6) rfl (show nI y + Int32.ofInt 1 = nI (y + 1) from nI_add _ _) (by decide) rfl (fun ls hl => ?_)
                      refine lv_goto (tgt := 46) hx hb d_MO_take_116 (by decide) ?_
                      exact ih46 (y + 1) _ _ _ _ (by omega) (by omega) hP hS hX (lv_sub hl [2, 3, 4, 5, 6, 0] rfl)
                · skip
                  refine lv_iload hx hb d_MO_take_63 (lv_at hl 4 rfl) ?_
                  refine lv_iload hx hb d_MO_take_65 (lv_at hl 5 rfl) ?_
                  refine lv_isub hx hb d_MO_take_67 ?_
                  refine lv_goto (tgt := 76) hx hb d_MO_take_68 (by decide) ?_
                  refine lv_istore (lv' := [(6, .int (((nI z) - (nI y)))), (0, .ref (b + 0)), (1, .int (nI k)), (2, .int (nI f)), (3, .int (nI (tkT on1 ot2 k f))), (4, .int (nI z)), (5, .int (nI y))]) hx hb d_MO_take_76 hl (by decide) rfl (fun ls hl => ?_)
                  refine lv_iload hx hb d_MO_take_78 (lv_at hl 0 rfl) ?_
                  refine lv_aload_n hx hb d_MO_take_80 rfl (lv_at hl 1 rfl) ?_
                  refine xw_get (v := .ref (b + 6)) hx hb hts (fun w h => mw (uw_MO w h)) hown hK hP (MV_0 hX) (by decide) rfl 8 (by decide) (hts _ (mw tb_603)) (fun _ h => h) rfl d_MO_take_81 ?_
                  refine lv_iload_n hx hb d_MO_take_84 rfl (lv_at hl 2 rfl) ?_
                  refine xw_iald hx hb hK hP 0 (MV_6 hX) (by decide) rfl (by omega) (by decide) d_MO_take_85 ?_
                  refine lv_icmp_lt (tgt := 113) hx hb d_MO_take_86 (by decide) (fun h86 => ?_) (fun h86 => ?_)
                  · skip
                    rw [← tkM_f (bv := bv) (fun q => q.elim (fun q => absurd ((ltsub (by omega) (by omega) (by omega)).mp h86) (by omega)) (fun q => q.1 h60))] at hX
                    refine lv_iinc (v := nI (y + 1)) (lv' := [(5, .int (nI (y + 1))), (6, .int (((nI z) - (nI y)))), (0, .ref (b + 0)), (1, .int (nI k)), (2, .int (nI f)), (3, .int (nI (tkT on1 ot2 k f))), (4, .int (nI z))]) hx hb d_MO_take_113 hl (k := 6) rfl (show nI y + Int32.ofInt 1 = nI (y + 1) from nI_add _ _) (by decide) rfl (fun ls hl => ?_)
                    refine lv_goto (tgt := 46) hx hb d_MO_take_116 (by decide) ?_
                    exact ih46 (y + 1) _ _ _ _ (by omega) (by omega) hP hS hX (lv_sub hl [2, 3, 4, 5, 6, 0] rfl)
                  · skip
                    have h86b : y + lea k ≤ z := Nat.not_lt.mp (fun q => h86 ((ltsub (by omega) (by omega) (by omega)).mpr q))
                    refine lv_iload hx hb d_MO_take_89 (lv_at hl 0 rfl) ?_
                    refine lv_aload_n hx hb d_MO_take_91 rfl (lv_at hl 1 rfl) ?_
                    refine xw_get (v := .ref (b + 7)) hx hb hts (fun w h => mw (uw_MO w h)) hown hK hP (MV_0 hX) (by decide) rfl 9 (by decide) (hts _ (mw tb_604)) (fun _ h => h) rfl d_MO_take_92 ?_
                    refine lv_iload_n hx hb d_MO_take_95 rfl (lv_at hl 2 rfl) ?_
                    refine xw_iald hx hb hK hP 0 (MV_7 hX) (by decide) rfl (by omega) (by decide) d_MO_take_96 ?_
                    refine lv_icmp_gt (tgt := 113) hx hb d_MO_take_97 (by decide) (fun h97 => ?_) (fun h97 => ?_)
                    · skip
                      rw [← tkM_f (bv := bv) (fun q => q.elim (fun q => absurd ((gtsub (by omega) (by omega) (by omega)).mp h97) (by omega)) (fun q => q.1 h60))] at hX
                      refine lv_iinc (v := nI (y + 1)) (lv' := [(5, .int (nI (y + 1))), (6, .int (((nI z) - (nI y)))), (0, .ref (b + 0)), (1, .int (nI k)), (2, .int (nI f)), (3, .int (nI (tkT on1 ot2 k f))), (4, .int (nI z))]) hx hb d_MO_take_113 hl (k := 6) rfl (show nI y + Int32.ofInt 1 = nI (y + 1) from nI_add _ _) (by decide) rfl (fun ls hl => ?_)
                      refine lv_goto (tgt := 46) hx hb d_MO_take_116 (by decide) ?_
                      exact ih46 (y + 1) _ _ _ _ (by omega) (by omega) hP hS hX (lv_sub hl [2, 3, 4, 5, 6, 0] rfl)
                    · skip
                      have h97b : z ≤ y + mos k := Nat.not_lt.mp (fun q => h97 ((gtsub (by omega) (by omega) (by omega)).mpr q))
                      refine lv_aload_n hx hb d_MO_take_100 rfl (lv_at hl 1 rfl) ?_
                      refine lv_bipush (v := nI 72) hx hb d_MO_take_101 (by decide) ?_
                      refine lv_bipush (v := nI 12) hx hb d_MO_take_103 (by decide) ?_
                      refine lv_iload_n hx hb d_MO_take_105 rfl (lv_at hl 3 rfl) ?_
                      refine lv_imul hx hb d_MO_take_106 ?_
                      refine ti (nI (12 * f)) (pk_mul _ _) ?_
                      refine lv_iload hx hb d_MO_take_107 (lv_at hl 6 rfl) ?_
                      refine lv_iadd hx hb d_MO_take_109 ?_
                      refine ti (nI ((12 * f) + y)) (nI_add _ _) ?_
                      obtain ⟨bg9, wd9, hX, hB9⟩ := hX
                      refine xc_V (n := 2) (g0 := 0) (As := [.int (nI 72), .int (nI ((12 * f) + y))]) (rest := []) (st0 := _) hx hb hml hown hts (c_MO_add l D ca b _ 72 ((12 * f) + y) _ _ hX (by omega) (by omega) (by omega) (hB9 72 (by omega)) (hB9 ((12 * f) + y) (by omega))) km_MO_add tb_748 tb_750 tps_35 tb_7 (by decide +kernel) rfl rfl ⟨Nat.le_of_ble_eq_true rfl, Nat.le_of_ble_eq_true rfl⟩ hK hP (MR_0 hX) (by decide) rfl rfl rfl hl rfl (Nat.le_of_ble_eq_true rfl) d_MO_take_110 ⟨Nat.zero_le _, Nat.zero_le _⟩ hS (fun _ h => h) (fun v C H locs hp hP _ _ hS => ?_)
                      obtain ⟨rfl, big1, hX, hb1, hf1⟩ := hp
                      have hX : MV ca b C th dts tld fs9 ls9 cn9 lf9 mb9 mwt mab mbe on1 ot2 lea mos yrs (va_up (va_up (tkB on1 ot2 lea mos bv k f z) 72 (tkM on1 lea mos bv k f z y)) 72 ((va_up (tkB on1 ot2 lea mos bv k f z) 72 (tkM on1 lea mos bv k f z y)) 72 + (va_up (tkB on1 ot2 lea mos bv k f z) 72 (tkM on1 lea mos bv k f z y)) ((12 * f) + y))) := ⟨_, _, hX, bvUp hB9 hb1 hf1⟩
                      have hX : MV ca b C th dts tld fs9 ls9 cn9 lf9 mb9 mwt mab mbe on1 ot2 lea mos yrs (va_up (tkB on1 ot2 lea mos bv k f z) 72 (tkM on1 lea mos bv k f z (y + 1))) := by
                        have e : va_up (va_up (tkB on1 ot2 lea mos bv k f z) 72 (tkM on1 lea mos bv k f z y)) 72 ((va_up (tkB on1 ot2 lea mos bv k f z) 72 (tkM on1 lea mos bv k f z y)) 72 + (va_up (tkB on1 ot2 lea mos bv k f z) 72 (tkM on1 lea mos bv k f z y)) ((12 * f) + y)) = va_up (tkB on1 ot2 lea mos bv k f z) 72 (tkM on1 lea mos bv k f z (y + 1)) := by
                          rw [up2, va_up_self, va_up_ne _ _ (by omega), tkB_out (by omega), tkM_t (Or.inl ⟨h60, by omega, by omega⟩)]
                        rw [← e]; exact hX
                      refine lv_iinc (v := nI (y + 1)) (lv' := [(5, .int (nI (y + 1))), (6, .int (((nI z) - (nI y)))), (0, .ref (b + 0)), (1, .int (nI k)), (2, .int (nI f)), (3, .int (nI (tkT on1 ot2 k f))), (4, .int (nI z))]) hx hb d_MO_take_113 hl (k := 6) rfl (show nI y + Int32.ofInt 1 = nI (y + 1) from nI_add _ _) (by decide) rfl (fun ls hl => ?_)
                      refine lv_goto (tgt := 46) hx hb d_MO_take_116 (by decide) ?_
                      exact ih46 (y + 1) _ _ _ _ (by omega) (by omega) hP hS hX (lv_sub hl [2, 3, 4, 5, 6, 0] rfl)
          have hX : MV ca b C th dts tld fs9 ls9 cn9 lf9 mb9 mwt mab mbe on1 ot2 lea mos yrs (va_up (tkB on1 ot2 lea mos bv k f z) 72 (tkM on1 lea mos bv k f z 0)) := by
            rw [← up2 (tkB on1 ot2 lea mos bv k f z) 72 m0 (tkM on1 lea mos bv k f z 0)]; exact hX
          exact loop46 13 0 _ _ _ _ (by omega) (by omega) hP hS hX (lv_sub hl [1, 2, 3, 4, 5, 0] rfl)
    have hX : MV ca b C0 th dts tld fs9 ls9 cn9 lf9 mb9 mwt mab mbe on1 ot2 lea mos yrs (va_up (tkB on1 ot2 lea mos bv k f 0) 72 (bv 72)) := by
      have e : va_up (tkB on1 ot2 lea mos bv k f 0) 72 (bv 72) = bv := by
        rw [tkB_0]; funext x; by_cases q : x = 72
        · rw [q, va_up_self]
        · rw [va_up_ne _ _ q]
      rw [e]; exact hX
    exact loop29 13 0 (bv 72) _ _ _ _ (by omega) (by omega) hP hS hX (lv_sub hl [2, 3, 4, 1, 0] rfl)

