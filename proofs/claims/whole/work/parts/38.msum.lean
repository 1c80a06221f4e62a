/-! The Model: sum -/
theorem rng_congr {F G : Nat → Nat} {lo hi : Nat} (h : ∀ x, lo ≤ x → x < hi → F x = G x) : rng F lo hi = rng G lo hi := sm_congr (fun i hi2 => h _ (by omega) (by omega))
def sR (bv : Nat → Nat) (al mb : Nat) : Nat → Nat
  | 0 => 1
  | d + 1 => if al.testBit d = true ∧ mb.testBit d = false then sR bv al mb d * rng (fun y => bv (12 * d + y)) 0 12 else sR bv al mb d
def sPn (bv : Nat → Nat) (mb rs n : Nat) : Nat → Nat
  | 0 => rs
  | d + 1 => if mb.testBit d = true then sPn bv mb rs n d * rng (fun y => bv (12 * d + y)) (n / 12) (n % 12 + 1) else sPn bv mb rs n d
def sCn (mb fs ls n : Nat) : Prop := (mb = 0 ∧ n = 0) ∨ (mb ≠ 0 ∧ n / 12 ≤ n % 12 ∧ fs.testBit (n / 12) = true ∧ ls.testBit (n % 12) = true)
def sT (bv : Nat → Nat) (mb rs dts fs ls : Nat) : Nat → Nat
  | 0 => 0
  | n + 1 => if (mb = 0 ∧ n = 0) ∨ (mb ≠ 0 ∧ n / 12 ≤ n % 12 ∧ fs.testBit (n / 12) = true ∧ ls.testBit (n % 12) = true) then sT bv mb rs dts fs ls n + sPn bv mb rs n dts else sT bv mb rs dts fs ls n
theorem sR_t {bv : Nat → Nat} {al mb d : Nat} (h : al.testBit d = true ∧ mb.testBit d = false) : sR bv al mb (d + 1) = sR bv al mb d * rng (fun y => bv (12 * d + y)) 0 12 := if_pos h
theorem sR_f {bv : Nat → Nat} {al mb d : Nat} (h : ¬ (al.testBit d = true ∧ mb.testBit d = false)) : sR bv al mb (d + 1) = sR bv al mb d := if_neg h
theorem sPn_t {bv : Nat → Nat} {mb rs n d : Nat} (h : mb.testBit d = true) : sPn bv mb rs n (d + 1) = sPn bv mb rs n d * rng (fun y => bv (12 * d + y)) (n / 12) (n % 12 + 1) := if_pos h
theorem sPn_f {bv : Nat → Nat} {mb rs n d : Nat} (h : ¬ mb.testBit d = true) : sPn bv mb rs n (d + 1) = sPn bv mb rs n d := if_neg h
theorem sT_t {bv : Nat → Nat} {mb rs dts fs ls n : Nat} (h : sCn mb fs ls n) : sT bv mb rs dts fs ls (n + 1) = sT bv mb rs dts fs ls n + sPn bv mb rs n dts := if_pos h
theorem sT_f {bv : Nat → Nat} {mb rs dts fs ls n : Nat} (h : ¬ sCn mb fs ls n) : sT bv mb rs dts fs ls (n + 1) = sT bv mb rs dts fs ls n := if_neg h
theorem tb0 {a k : Nat} (h : a / 2 ^ k % 2 = 0) : a.testBit k = false := by
  cases q : a.testBit k with
  | false => rfl
  | true => have := tbit.mpr q; omega
theorem tb1 {a k : Nat} (h : a / 2 ^ k % 2 ≠ 0) : a.testBit k = true := tbit.mp (by omega)
set_option maxHeartbeats 4000000 in
set_option maxRecDepth 100000 in
/-- the sum of all ways -/
theorem c_MO_sum (l : Launch) (D : va_G) (ca : Nat → ClassId) (b : Nat) (C0 : Nat → va_E) {th : Nat} {dts : Nat} {tld : Nat} {fs9 : Nat} {ls9 : Nat} {cn9 : Nat} {lf9 : Nat} {mb9 : Nat} {mwt : Nat → Nat} {mab : Nat → Nat} {mbe : Nat → Nat} {on1 : Nat → Nat} {ot2 : Nat → Nat} {lea : Nat → Nat} {mos : Nat → Nat} {yrs : Nat → Nat} {bv : Nat → Nat} (J : Nat → (Nat → Nat) → Nat → Prop) (hX : MV ca b C0 th dts tld fs9 ls9 cn9 lf9 mb9 mwt mab mbe on1 ot2 lea mos yrs bv) (hM : MOK on1 ot2 lea mos tld) (hD : DOK (mw2 mwt) mab mbe dts) (hyr : ∀ d, d < 6 → yrs d < 4096) (hcn : cn9 < 2 ^ 31) (hfs : fs9 < 2 ^ 31) (hls : ls9 < 2 ^ 31) (hJ0 : J (lfU cn9 on1 ot2 tld) (upto (12 * dts) (lyF mwt mab mbe yrs) bv) (2 ^ dts - 1)) (hJs : ∀ lf bv al k f m1, J lf bv al → fnd on1 ot2 (mbU cn9 on1 ot2 tld) tld lf k f → J (clb lf (2 ^ k)) (va_up (tkB on1 ot2 lea mos bv k f 12) 72 m1) (clb al (2 ^ f))) (hJl : ∀ lf bv al, J lf bv al → lf ≠ 0 → ∃ k, k < tld ∧ lf.testBit k = true ∧ (isLf on1 ot2 (mbU cn9 on1 ot2 tld) tld lf (on1 k) ∨ isLf on1 ot2 (mbU cn9 on1 ot2 tld) tld lf (ot2 k))) (hJr : ∀ lf bv al, J lf bv al → lf < 2 ^ 31 ∧ al < 2 ^ 31 ∧ ∀ k, k < tld → lf.testBit k = true → on1 k ≠ ot2 k) (hJp : ∀ bv1 al, J 0 bv1 al → ∀ x, 72 < x → bv1 x = bv x) : Met l y_MO_sum (k_MO_sum :: gw) ({ frames := 4, cells := 0, slots := 0, locals := 88 }) (xPc D ca b 11 C0 [.ref (b + 0)]) (xQ D b 11 (fun r C1 => r = none ∧ ∃ al bv1 bv2, J 0 bv1 al ∧ MV ca b C1 th dts tld fs9 ls9 cn9 0 ((mbU cn9 on1 ot2 tld)) mwt mab mbe on1 ot2 lea mos yrs bv2 ∧ bv2 74 = sT bv1 (mbU cn9 on1 ot2 tld) (sR bv1 al (mbU cn9 on1 ot2 tld) dts) dts fs9 ls9 144 ∧ ∀ x, 75 ≤ x → x < 91 → x ≠ 77 → bv2 x = bv x)) 0 0 (xr b 11) := by
  refine Met.ofW (cc := b_MO_sum) (maxL := 5) (ret := none) (by decide) rfl ?_
  intro p e s m args below meth c s₁ B hml hv
  obtain ⟨hav, hP, hK⟩ := hv
  have hx := B.exec
  have hb := B.bytes
  have hr := B.returns
  have hts := atoms_spec (ws := k_MO_sum :: gw) B.pre
  have hown : s.vm.findClass R_MO = some m.cls := findClass_of_methodNamed B.named
  have hlocks := B.notSynchronized
  have hA : ∀ k, k < 11 → xr b 11 (b + k) := xr_in
  have hS : va_S (xr b 11) s.heap s.heap [] := va_S.rf
  have hl := lv_entry ([.ref (b + 0)]) (n := 5) (Nat.le_of_ble_eq_true rfl)
  rw [hav, lg_entry_eq]
  generalize (lg_sl ([.ref (b + 0)]) ++ List.replicate (5 - (lg_sl ([.ref (b + 0)])).length) Slot.unset).toArray = ls at hl ⊢
  have hl : lv_has ls 5 [(0, .ref (b + 0))] := hl
  rw [← hav]
  have hM6 := hM.1
  have hD6 := hD.1
  have hmb6 : (mbU cn9 on1 ot2 tld) < 2 ^ 6 := mbU_lt hM tld (Nat.le_refl _)
  have hmb31 : (mbU cn9 on1 ot2 tld) < 2 ^ 31 := Nat.lt_trans hmb6 (by decide)
  refine lv_aload_n hx hb d_MO_sum_0 rfl (lv_at hl 0 rfl) ?_
  refine xc_V (n := 0) (g0 := 0) (As := []) (rest := []) (st0 := _) hx hb hml hown hts (c_MO_lay l D ca b _  hX hM hD hyr hcn) km_MO_lay tb_716 tb_718 tps_27 tb_7 (by decide +kernel) rfl rfl ⟨Nat.le_of_ble_eq_true rfl, Nat.le_of_ble_eq_true rfl⟩ hK hP (MV_0 hX) (by decide) rfl rfl rfl hl rfl (Nat.le_of_ble_eq_true rfl) d_MO_sum_1 ⟨Nat.zero_le _, Nat.zero_le _⟩ hS (fun _ h => h) (fun v C H locs hp hP _ _ hS => ?_)
  obtain ⟨rfl, hX⟩ := hp
  refine lv_aload_n hx hb d_MO_sum_4 rfl (lv_at hl 0 rfl) ?_
  refine xc_V (n := 0) (g0 := 0) (As := []) (rest := []) (st0 := _) hx hb hml hown hts (c_MO_roots l D ca b _ J hX hM hD6 hmb31 hJ0 hJs hJl hJr) km_MO_roots tb_732 tb_734 tps_31 tb_7 (by decide +kernel) rfl rfl ⟨Nat.le_of_ble_eq_true rfl, Nat.le_of_ble_eq_true rfl⟩ hK hP (MV_0 hX) (by decide) rfl rfl rfl hl rfl (Nat.le_of_ble_eq_true rfl) d_MO_sum_5 ⟨Nat.zero_le _, Nat.zero_le _⟩ hS (fun _ h => h) (fun v C H locs hp hP _ _ hS => ?_)
  obtain ⟨al, bv1, rfl, hJ1, hX⟩ := hp
  obtain ⟨-, hal31, -⟩ := hJr _ _ _ hJ1
  refine lv_istore_n (lv' := [(1, .int (nI al)), (0, .ref (b + 0))]) hx hb d_MO_sum_8 rfl hl (by decide) rfl (fun ls hl => ?_)
  refine lv_aload_n hx hb d_MO_sum_9 rfl (lv_at hl 1 rfl) ?_
  refine lv_bipush (v := nI 77) hx hb d_MO_sum_10 (by decide) ?_
  refine lv_iconst (v := nI 1) hx hb d_MO_sum_12 (by decide) ?_
  obtain ⟨bg9, wd9, hX, hB9⟩ := hX
  refine xc_V (n := 2) (g0 := 0) (As := [.int (nI 77), .int (nI 1)]) (rest := []) (st0 := _) hx hb hml hown hts (c_MO_set l D ca b _ 77 1 hX (by omega) (by omega)) km_MO_set tb_724 tb_726 tps_29 tb_7 (by decide +kernel) rfl rfl ⟨Nat.le_of_ble_eq_true rfl, Nat.le_of_ble_eq_true rfl⟩ hK hP (MR_0 hX) (by decide) rfl rfl rfl hl rfl (Nat.le_of_ble_eq_true rfl) d_MO_sum_13 ⟨Nat.zero_le _, Nat.zero_le _⟩ hS (fun _ h => h) (fun v C H locs hp hP _ _ hS => ?_)
  obtain ⟨rfl, big1, hX, hb1, hf1⟩ := hp
  have hX : MV ca b C th dts tld fs9 ls9 cn9 0 (mbU cn9 on1 ot2 tld) mwt mab mbe on1 ot2 lea mos yrs (va_up bv1 77 1) := ⟨_, _, hX, bvUp hB9 hb1 hf1⟩
  refine lv_iconst (v := nI 0) hx hb d_MO_sum_16 (by decide) ?_
  refine lv_istore_n (lv' := [(2, .int (nI 0)), (1, .int (nI al)), (0, .ref (b + 0))]) hx hb d_MO_sum_17 rfl hl (by decide) rfl (fun ls hl => ?_)
  have loop18 : ∀ (r : Nat) (d : Nat) (bw : Nat → Nat) (C : Nat → va_E) (H : Heap) (locs : List Loc) (ls : Array Slot), dts < d + r → d ≤ dts → (∀ x, x ≠ 72 → x ≠ 77 → bw x = bv1 x) → bw 77 = sR bv1 al (mbU cn9 on1 ot2 tld) d → va_P D classes (wl b 11 C) H → va_S (xr b 11) s.heap H locs → MV ca b C th dts tld fs9 ls9 cn9 0 (mbU cn9 on1 ot2 tld) mwt mab mbe on1 ot2 lea mos yrs bw → lv_has ls 5 [(0, .ref (b + 0)), (1, .int (nI al)), (2, .int (nI d))] → W p l e (headSpec (k_MO_sum :: gw) ({ frames := 4, cells := 0, slots := 0, locals := 88 })).room s m args below meth c H locs 0 0 (MQ below (xQ D b 11 (fun r C1 => r = none ∧ ∃ al bv1 bv2, J 0 bv1 al ∧ MV ca b C1 th dts tld fs9 ls9 cn9 0 ((mbU cn9 on1 ot2 tld)) mwt mab mbe on1 ot2 lea mos yrs bv2 ∧ bv2 74 = sT bv1 (mbU cn9 on1 ot2 tld) (sR bv1 al (mbU cn9 on1 ot2 tld) dts) dts fs9 ls9 144 ∧ ∀ x, 75 ≤ x → x < 91 → x ≠ 77 → bv2 x = bv x)) args s 0 0 (xr b 11)) (F0 m 18 ls []) := by
    intro r
    induction r with
    | zero => intro d bw C H locs ls hms hd hb0 h77; exact absurd hms (by omega)
    | succ r ih18 =>
      intro d bw C H locs ls hms hd hb0 h77 hP hS hX hl
      refine lv_iload_n hx hb d_MO_sum_18 rfl (lv_at hl 2 rfl) ?_
      refine lv_aload_n hx hb d_MO_sum_19 rfl (lv_at hl 0 rfl) ?_
      refine xw_get (v := .int (nI dts)) hx hb hts (fun w h => mw (uw_MO w h)) hown hK hP (MV_0 hX) (by decide) rfl 1 (by decide) (hts _ (mw tb_596)) (fun _ h => h) rfl d_MO_sum_20 ?_
      refine xi_ge (tgt := 62) hx hb d_MO_sum_23 (by decide) (by omega) (by omega) (fun h23 => ?_) (fun h23 => ?_)
      · skip
        have ed : d = dts := by omega
        rw [ed] at h77
        refine lv_aload_n hx hb d_MO_sum_62 rfl (lv_at hl 0 rfl) ?_
        refine lv_bipush (v := nI 74) hx hb d_MO_sum_63 (by decide) ?_
        refine lv_iconst (v := nI 0) hx hb d_MO_sum_65 (by decide) ?_
        obtain ⟨bg9, wd9, hX, hB9⟩ := hX
        refine xc_V (n := 2) (g0 := 0) (As := [.int (nI 74), .int (nI 0)]) (rest := []) (st0 := _) hx hb hml hown hts (c_MO_set l D ca b _ 74 0 hX (by omega) (by omega)) km_MO_set tb_724 tb_726 tps_29 tb_7 (by decide +kernel) rfl rfl ⟨Nat.le_of_ble_eq_true rfl, Nat.le_of_ble_eq_true rfl⟩ hK hP (MR_0 hX) (by decide) rfl rfl rfl hl rfl (Nat.le_of_ble_eq_true rfl) d_MO_sum_66 ⟨Nat.zero_le _, Nat.zero_le _⟩ hS (fun _ h => h) (fun v C H locs hp hP _ _ hS => ?_)
        obtain ⟨rfl, big1, hX, hb1, hf1⟩ := hp
        have hX : MV ca b C th dts tld fs9 ls9 cn9 0 (mbU cn9 on1 ot2 tld) mwt mab mbe on1 ot2 lea mos yrs (va_up bw 74 0) := ⟨_, _, hX, bvUp hB9 hb1 hf1⟩
        refine lv_iconst (v := nI 0) hx hb d_MO_sum_69 (by decide) ?_
        refine lv_istore_n (lv' := [(2, .int (nI 0)), (0, .ref (b + 0)), (1, .int (nI al))]) hx hb d_MO_sum_70 rfl hl (by decide) rfl (fun ls hl => ?_)
        have loop71 : ∀ (r : Nat) (n : Nat) (bw : Nat → Nat) (C : Nat → va_E) (H : Heap) (locs : List Loc) (ls : Array Slot), 144 < n + r → n ≤ 144 → (∀ x, x < 72 → bw x = bv1 x) → bw 77 = (sR bv1 al (mbU cn9 on1 ot2 tld) dts) → bw 74 = sT bv1 (mbU cn9 on1 ot2 tld) (sR bv1 al (mbU cn9 on1 ot2 tld) dts) dts fs9 ls9 n → (∀ x, 75 ≤ x → x ≠ 77 → bw x = bv1 x) → va_P D classes (wl b 11 C) H → va_S (xr b 11) s.heap H locs → MV ca b C th dts tld fs9 ls9 cn9 0 (mbU cn9 on1 ot2 tld) mwt mab mbe on1 ot2 lea mos yrs bw → lv_has ls 5 [(0, .ref (b + 0)), (1, .int (nI al)), (2, .int (nI n))] → W p l e (headSpec (k_MO_sum :: gw) ({ frames := 4, cells := 0, slots := 0, locals := 88 })).room s m args below meth c H locs 0 0 (MQ below (xQ D b 11 (fun r C1 => r = none ∧ ∃ al bv1 bv2, J 0 bv1 al ∧ MV ca b C1 th dts tld fs9 ls9 cn9 0 ((mbU cn9 on1 ot2 tld)) mwt mab mbe on1 ot2 lea mos yrs bv2 ∧ bv2 74 = sT bv1 (mbU cn9 on1 ot2 tld) (sR bv1 al (mbU cn9 on1 ot2 tld) dts) dts fs9 ls9 144 ∧ ∀ x, 75 ≤ x → x < 91 → x ≠ 77 → bv2 x = bv x)) args s 0 0 (xr b 11)) (F0 m 71 ls []) := by
          intro r
          induction r with
          | zero => intro n bw C H locs ls hms hn hbl h77b h74 hk; exact absurd hms (by omega)
          | succ r ih71 =>
            intro n bw C H locs ls hms hn hbl h77b h74 hk hP hS hX hl
            refine lv_iload_n hx hb d_MO_sum_71 rfl (lv_at hl 2 rfl) ?_
            refine lv_sipush (v := nI 144) hx hb d_MO_sum_72 (by decide) ?_
            refine xi_ge (tgt := 212) hx hb d_MO_sum_75 (by decide) (by omega) (by omega) (fun h75 => ?_) (fun h75 => ?_)
            · skip
              exact xw_vret hx hb hr hlocks hP hS ⟨rfl, al, bv1, bw, hJ1, hX, by rw [h74, show n = 144 by omega], fun x q1 q2 q3 => (hk x q1 q3).trans (hJp _ _ hJ1 x (by omega))⟩ d_MO_sum_212
            · skip
              refine lv_iload_n hx hb d_MO_sum_78 rfl (lv_at hl 2 rfl) ?_
              refine lv_bipush (v := nI 12) hx hb d_MO_sum_79 (by decide) ?_
              refine lv_idiv hx hb d_MO_sum_81 (by decide) ?_
              refine ti (nI (n / 12)) (pk_div (by omega) (by decide) (by decide)) ?_
              refine lv_iload_n hx hb d_MO_sum_82 rfl (lv_at hl 2 rfl) ?_
              refine lv_bipush (v := nI 12) hx hb d_MO_sum_83 (by decide) ?_
              refine lv_irem hx hb d_MO_sum_85 (by decide) ?_
              refine ti (nI (n % 12)) (pk_rem (by omega) (by decide) (by decide)) ?_
              have j124 : ∀ (z : Bool), (z = true ↔ (n / 12 ≤ n % 12 ∧ fs9.testBit (n / 12) = true ∧ ls9.testBit (n % 12) = true)) → W p l e (headSpec (k_MO_sum :: gw) ({ frames := 4, cells := 0, slots := 0, locals := 88 })).room s m args below meth c H locs 0 0 (MQ below (xQ D b 11 (fun r C1 => r = none ∧ ∃ al bv1 bv2, J 0 bv1 al ∧ MV ca b C1 th dts tld fs9 ls9 cn9 0 ((mbU cn9 on1 ot2 tld)) mwt mab mbe on1 ot2 lea mos yrs bv2 ∧ bv2 74 = sT bv1 (mbU cn9 on1 ot2 tld) (sR bv1 al (mbU cn9 on1 ot2 tld) dts) dts fs9 ls9 144 ∧ ∀ x, 75 ≤ x → x < 91 → x ≠ 77 → bv2 x = bv x)) args s 0 0 (xr b 11)) (F0 m 124 ls [.int (nI z.toNat)]) := by
                intro z hz
                refine lv_istore_n (lv' := [(3, .int (nI z.toNat)), (0, .ref (b + 0)), (1, .int (nI al)), (2, .int (nI n))]) hx hb d_MO_sum_124 rfl hl (by decide) rfl (fun ls hl => ?_)
                have j143 : sCn (mbU cn9 on1 ot2 tld) fs9 ls9 n → n < 144 → W p l e (headSpec (k_MO_sum :: gw) ({ frames := 4, cells := 0, slots := 0, locals := 88 })).room s m args below meth c H locs 0 0 (MQ below (xQ D b 11 (fun r C1 => r = none ∧ ∃ al bv1 bv2, J 0 bv1 al ∧ MV ca b C1 th dts tld fs9 ls9 cn9 0 ((mbU cn9 on1 ot2 tld)) mwt mab mbe on1 ot2 lea mos yrs bv2 ∧ bv2 74 = sT bv1 (mbU cn9 on1 ot2 tld) (sR bv1 al (mbU cn9 on1 ot2 tld) dts) dts fs9 ls9 144 ∧ ∀ x, 75 ≤ x → x < 91 → x ≠ 77 → bv2 x = bv x)) args s 0 0 (xr b 11)) (F0 m 143 ls []) := by
                  intro h143 hn144
                  refine lv_aload_n hx hb d_MO_sum_143 rfl (lv_at hl 1 rfl) ?_
                  refine lv_bipush (v := nI 73) hx hb d_MO_sum_144 (by decide) ?_
                  refine lv_bipush (v := nI 77) hx hb d_MO_sum_146 (by decide) ?_
                  obtain ⟨bg9, wd9, hX, hB9⟩ := hX
                  refine xc_V (n := 2) (g0 := 0) (As := [.int (nI 73), .int (nI 77)]) (rest := []) (st0 := _) hx hb hml hown hts (c_MO_copy l D ca b _ 73 77 hX (by omega) (by omega) (by omega) (hB9 77 (by omega)).1) km_MO_copy tb_760 tb_762 tps_38 tb_7 (by decide +kernel) rfl rfl ⟨Nat.le_of_ble_eq_true rfl, Nat.le_of_ble_eq_true rfl⟩ hK hP (MR_0 hX) (by decide) rfl rfl rfl hl rfl (Nat.le_of_ble_eq_true rfl) d_MO_sum_148 ⟨Nat.zero_le _, Nat.zero_le _⟩ hS (fun _ h => h) (fun v C H locs hp hP _ _ hS => ?_)
                  obtain ⟨rfl, big1, hX, hb1, hf1⟩ := hp
                  have hX : MV ca b C th dts tld fs9 ls9 cn9 0 (mbU cn9 on1 ot2 tld) mwt mab mbe on1 ot2 lea mos yrs (va_up bw 73 (bw 77)) := ⟨_, _, hX, bvCp hB9 (by omega) hb1 hf1⟩
                  refine lv_iconst (v := nI 0) hx hb d_MO_sum_151 (by decide) ?_
                  refine lv_istore (lv' := [(4, .int (nI 0)), (3, .int (nI z.toNat)), (0, .ref (b + 0)), (1, .int (nI al)), (2, .int (nI n))]) hx hb d_MO_sum_152 hl (by decide) rfl (fun ls hl => ?_)
                  have loop154 : ∀ (r : Nat) (d : Nat) (bx : Nat → Nat) (C : Nat → va_E) (H : Heap) (locs : List Loc) (ls : Array Slot), dts < d + r → d ≤ dts → (∀ x, x ≠ 72 → x ≠ 73 → bx x = bw x) → bx 73 = sPn bv1 (mbU cn9 on1 ot2 tld) (sR bv1 al (mbU cn9 on1 ot2 tld) dts) n d → va_P D classes (wl b 11 C) H → va_S (xr b 11) s.heap H locs → MV ca b C th dts tld fs9 ls9 cn9 0 (mbU cn9 on1 ot2 tld) mwt mab mbe on1 ot2 lea mos yrs bx → lv_has ls 5 [(0, .ref (b + 0)), (1, .int (nI al)), (2, .int (nI n)), (4, .int (nI d))] → W p l e (headSpec (k_MO_sum :: gw) ({ frames := 4, cells := 0, slots := 0, locals := 88 })).room s m args below meth c H locs 0 0 (MQ below (xQ D b 11 (fun r C1 => r = none ∧ ∃ al bv1 bv2, J 0 bv1 al ∧ MV ca b C1 th dts tld fs9 ls9 cn9 0 ((mbU cn9 on1 ot2 tld)) mwt mab mbe on1 ot2 lea mos yrs bv2 ∧ bv2 74 = sT bv1 (mbU cn9 on1 ot2 tld) (sR bv1 al (mbU cn9 on1 ot2 tld) dts) dts fs9 ls9 144 ∧ ∀ x, 75 ≤ x → x < 91 → x ≠ 77 → bv2 x = bv x)) args s 0 0 (xr b 11)) (F0 m 154 ls []) := by
                    intro r
                    induction r with
                    | zero => intro d bx C H locs ls hms hd2 hb2 h73; exact absurd hms (by omega)
                    | succ r ih154 =>
                      intro d bx C H locs ls hms hd2 hb2 h73 hP hS hX hl
                      refine lv_iload hx hb d_MO_sum_154 (lv_at hl 3 rfl) ?_
                      refine lv_aload_n hx hb d_MO_sum_156 rfl (lv_at hl 0 rfl) ?_
                      refine xw_get (v := .int (nI dts)) hx hb hts (fun w h => mw (uw_MO w h)) hown hK hP (MV_0 hX) (by decide) rfl 1 (by decide) (hts _ (mw tb_596)) (fun _ h => h) rfl d_MO_sum_157 ?_
                      refine xi_ge (tgt := 198) hx hb d_MO_sum_160 (by decide) (by omega) (by omega) (fun h160 => ?_) (fun h160 => ?_)
                      · skip
                        refine lv_aload_n hx hb d_MO_sum_198 rfl (lv_at hl 0 rfl) ?_
                        refine lv_bipush (v := nI 74) hx hb d_MO_sum_199 (by decide) ?_
                        refine lv_bipush (v := nI 73) hx hb d_MO_sum_201 (by decide) ?_
                        obtain ⟨bg9, wd9, hX, hB9⟩ := hX
                        refine xc_V (n := 2) (g0 := 0) (As := [.int (nI 74), .int (nI 73)]) (rest := []) (st0 := _) hx hb hml hown hts (c_MO_add l D ca b _ 74 73 _ _ hX (by omega) (by omega) (by omega) (hB9 74 (by omega)) (hB9 73 (by omega))) km_MO_add tb_748 tb_750 tps_35 tb_7 (by decide +kernel) rfl rfl ⟨Nat.le_of_ble_eq_true rfl, Nat.le_of_ble_eq_true rfl⟩ hK hP (MR_0 hX) (by decide) rfl rfl rfl hl rfl (Nat.le_of_ble_eq_true rfl) d_MO_sum_203 ⟨Nat.zero_le _, Nat.zero_le _⟩ hS (fun _ h => h) (fun v C H locs hp hP _ _ hS => ?_)
                        obtain ⟨rfl, big1, hX, hb1, hf1⟩ := hp
                        have hX : MV ca b C th dts tld fs9 ls9 cn9 0 (mbU cn9 on1 ot2 tld) mwt mab mbe on1 ot2 lea mos yrs (va_up bx 74 (bx 74 + bx 73)) := ⟨_, _, hX, bvUp hB9 hb1 hf1⟩
                        refine lv_iinc (v := nI (n + 1)) (lv' := [(2, .int (nI (n + 1))), (0, .ref (b + 0)), (1, .int (nI al)), (4, .int (nI d))]) hx hb d_MO_sum_206 hl (k := 2) rfl (show nI n + Int32.ofInt 1 = nI (n + 1) from nI_add _ _) (by decide) rfl (fun ls hl => ?_)
                        refine lv_goto (tgt := 71) hx hb d_MO_sum_209 (by decide) ?_
                        exact ih71 (n + 1) (va_up bx 74 (bx 74 + bx 73)) _ _ _ _ (by omega) (by omega) (fun x hx => by rw [va_up_ne _ _ (by omega), hb2 x (by omega) (by omega)]; exact hbl x hx) (by rw [va_up_ne _ _ (by decide), hb2 77 (by decide) (by decide)]; exact h77b) (by rw [va_up_self, hb2 74 (by decide) (by decide), h74, h73, sT_t h143, show d = dts by omega]) (fun x q1 q2 => by rw [va_up_ne _ _ (by omega), hb2 x (by omega) (by omega)]; exact hk x q1 q2) hP hS hX (lv_sub hl [1, 2, 0] rfl)
                      · skip
                        refine lv_aload_n hx hb d_MO_sum_163 rfl (lv_at hl 0 rfl) ?_
                        refine xw_get (v := .int (nI (mbU cn9 on1 ot2 tld))) hx hb hts (fun w h => mw (uw_MO w h)) hown hK hP (MV_0 hX) (by decide) rfl 17 (by decide) (hts _ (mw tb_612)) (fun _ h => h) rfl d_MO_sum_164 ?_
                        refine lv_iload hx hb d_MO_sum_167 (lv_at hl 3 rfl) ?_
                        refine lv_ishr hx hb d_MO_sum_169 ?_
                        refine ti (nI ((mbU cn9 on1 ot2 tld) / 2 ^ d)) (shr1 hmb31 (by omega)) ?_
                        refine lv_iconst (v := nI 1) hx hb d_MO_sum_170 (by decide) ?_
                        refine lv_iand hx hb d_MO_sum_171 ?_
                        refine ti (nI (((mbU cn9 on1 ot2 tld) / 2 ^ d) % 2)) (and1 _) ?_
                        refine lv_iconst (v := nI 1) hx hb d_MO_sum_172 (by decide) ?_
                        refine xi_ne (tgt := 192) hx hb d_MO_sum_173 (by decide) (by omega) (by omega) (fun h173 => ?_) (fun h173 => ?_)
                        · skip
                          refine lv_iinc (v := nI (d + 1)) (lv' := [(4, .int (nI (d + 1))), (0, .ref (b + 0)), (1, .int (nI al)), (2, .int (nI n))]) hx hb d_MO_sum_192 hl (k := 3) rfl (show nI d + Int32.ofInt 1 = nI (d + 1) from nI_add _ _) (by decide) rfl (fun ls hl => ?_)
                          refine lv_goto (tgt := 154) hx hb d_MO_sum_195 (by decide) ?_
                          exact ih154 (d + 1) bx _ _ _ _ (by omega) (by omega) hb2 (by rw [sPn_f (fun q => h173 (tbit.mpr q))]; exact h73) hP hS hX (lv_sub hl [1, 2, 3, 0] rfl)
                        · skip
                          refine lv_aload_n hx hb d_MO_sum_176 rfl (lv_at hl 0 rfl) ?_
                          refine lv_bipush (v := nI 73) hx hb d_MO_sum_177 (by decide) ?_
                          refine lv_iload hx hb d_MO_sum_179 (lv_at hl 3 rfl) ?_
                          refine lv_iload_n hx hb d_MO_sum_181 rfl (lv_at hl 2 rfl) ?_
                          refine lv_bipush (v := nI 12) hx hb d_MO_sum_182 (by decide) ?_
                          refine lv_idiv hx hb d_MO_sum_184 (by decide) ?_
                          refine ti (nI (n / 12)) (pk_div (by omega) (by decide) (by decide)) ?_
                          refine lv_iload_n hx hb d_MO_sum_185 rfl (lv_at hl 2 rfl) ?_
                          refine lv_bipush (v := nI 12) hx hb d_MO_sum_186 (by decide) ?_
                          refine lv_irem hx hb d_MO_sum_188 (by decide) ?_
                          refine ti (nI (n % 12)) (pk_rem (by omega) (by decide) (by decide)) ?_
                          refine xc_V (n := 4) (g0 := 0) (As := [.int (nI 73), .int (nI d), .int (nI (n / 12)), .int (nI (n % 12))]) (rest := []) (st0 := _) hx hb hml hown hts (c_MO_multiply l D ca b _ 73 d (n / 12) (n % 12) hX ⟨by omega, by omega⟩ (by omega) (by omega) (by omega)) km_MO_multiply tb_756 tb_758 tps_37 tb_7 (by decide +kernel) rfl rfl ⟨Nat.le_of_ble_eq_true rfl, Nat.le_of_ble_eq_true rfl⟩ hK hP (MV_0 hX) (by decide) rfl rfl rfl hl rfl (Nat.le_of_ble_eq_true rfl) d_MO_sum_189 ⟨Nat.zero_le _, Nat.zero_le _⟩ hS (fun _ h => h) (fun v C H locs hp hP _ _ hS => ?_)
                          obtain ⟨rfl, m1, hX⟩ := hp
                          refine lv_iinc (v := nI (d + 1)) (lv' := [(4, .int (nI (d + 1))), (0, .ref (b + 0)), (1, .int (nI al)), (2, .int (nI n))]) hx hb d_MO_sum_192 hl (k := 3) rfl (show nI d + Int32.ofInt 1 = nI (d + 1) from nI_add _ _) (by decide) rfl (fun ls hl => ?_)
                          refine lv_goto (tgt := 154) hx hb d_MO_sum_195 (by decide) ?_
                          exact ih154 (d + 1) (va_up (va_up bx 72 m1) 73 (bx 73 * rng (fun y => bx (12 * d + y)) (n / 12) (n % 12 + 1))) _ _ _ _ (by omega) (by omega) (fun x q1 q2 => by rw [va_up_ne _ _ q2, va_up_ne _ _ q1]; exact hb2 x q1 q2) (by rw [va_up_self, h73, sPn_t (tbit.mp h173), rng_congr (G := fun y => bv1 (12 * d + y)) (fun x q1 q2 => (hb2 _ (by omega) (by omega)).trans (hbl _ (by omega)))]) hP hS hX (lv_sub hl [1, 2, 3, 0] rfl)
                  exact loop154 (dts + 1) 0 (va_up bw 73 (bw 77)) _ _ _ _ (by omega) (by omega) (fun x q1 q2 => va_up_ne _ _ q2) (by rw [va_up_self]; exact h77b) hP hS hX (lv_sub hl [2, 3, 4, 0] rfl)
                refine lv_aload_n hx hb d_MO_sum_125 rfl (lv_at hl 1 rfl) ?_
                refine xw_get (v := .int (nI (mbU cn9 on1 ot2 tld))) hx hb hts (fun w h => mw (uw_MO w h)) hown hK hP (MV_0 hX) (by decide) rfl 17 (by decide) (hts _ (mw tb_612)) (fun _ h => h) rfl d_MO_sum_126 ?_
                refine xz_ne (tgt := 139) hx hb d_MO_sum_129 (by decide) (by omega) (fun h129 => ?_) (fun h129 => ?_)
                · skip
                  refine lv_iload_n hx hb d_MO_sum_139 rfl (lv_at hl 0 rfl) ?_
                  refine xz_eq (tgt := 206) hx hb d_MO_sum_140 (by decide) (tn31 _) (fun h140 => ?_) (fun h140 => ?_)
                  · skip
                    refine lv_iinc (v := nI (n + 1)) (lv' := [(2, .int (nI (n + 1))), (3, .int (nI z.toNat)), (0, .ref (b + 0)), (1, .int (nI al))]) hx hb d_MO_sum_206 hl (k := 3) rfl (show nI n + Int32.ofInt 1 = nI (n + 1) from nI_add _ _) (by decide) rfl (fun ls hl => ?_)
                    refine lv_goto (tgt := 71) hx hb d_MO_sum_209 (by decide) ?_
                    exact ih71 (n + 1) bw _ _ _ _ (by omega) (by omega) hbl h77b (by rw [sT_f (fun q => q.elim (fun q => h129 q.1) (fun q => by have := hz.mpr q.2; rw [bf h140] at this; cases this))]; exact h74) hk hP hS hX (lv_sub hl [2, 3, 0] rfl)
                  · skip
                    exact j143 (Or.inr ⟨h129, hz.mp (bt h140)⟩) (by omega)
                · skip
                  refine lv_iload_n hx hb d_MO_sum_132 rfl (lv_at hl 3 rfl) ?_
                  refine xz_ne (tgt := 206) hx hb d_MO_sum_133 (by decide) (by omega) (fun h133 => ?_) (fun h133 => ?_)
                  · skip
                    refine lv_iinc (v := nI (n + 1)) (lv' := [(2, .int (nI (n + 1))), (3, .int (nI z.toNat)), (0, .ref (b + 0)), (1, .int (nI al))]) hx hb d_MO_sum_206 hl (k := 3) rfl (show nI n + Int32.ofInt 1 = nI (n + 1) from nI_add _ _) (by decide) rfl (fun ls hl => ?_)
                    refine lv_goto (tgt := 71) hx hb d_MO_sum_209 (by decide) ?_
                    exact ih71 (n + 1) bw _ _ _ _ (by omega) (by omega) hbl h77b (by rw [sT_f (fun q => q.elim (fun q => h133 q.2) (fun q => q.1 h129))]; exact h74) hk hP hS hX (lv_sub hl [2, 3, 0] rfl)
                  · skip
                    refine lv_goto (tgt := 143) hx hb d_MO_sum_136 (by decide) ?_
                    exact j143 (Or.inl ⟨h129, h133⟩) (by omega)
              refine xi_gt (tgt := 123) hx hb d_MO_sum_86 (by decide) (by omega) (by omega) (fun h86 => ?_) (fun h86 => ?_)
              · skip
                refine lv_iconst (v := nI 0) hx hb d_MO_sum_123 (by decide) ?_
                exact j124 false ⟨fun q => (by cases q), fun q => absurd q.1 (by omega)⟩
              · skip
                refine lv_aload_n hx hb d_MO_sum_89 rfl (lv_at hl 0 rfl) ?_
                refine xw_get (v := .int (nI fs9)) hx hb hts (fun w h => mw (uw_MO w h)) hown hK hP (MV_0 hX) (by decide) rfl 13 (by decide) (hts _ (mw tb_608)) (fun _ h => h) rfl d_MO_sum_90 ?_
                refine lv_iload_n hx hb d_MO_sum_93 rfl (lv_at hl 2 rfl) ?_
                refine lv_bipush (v := nI 12) hx hb d_MO_sum_94 (by decide) ?_
                refine lv_idiv hx hb d_MO_sum_96 (by decide) ?_
                refine ti (nI (n / 12)) (pk_div (by omega) (by decide) (by decide)) ?_
                refine lv_ishr hx hb d_MO_sum_97 ?_
                refine ti (nI (fs9 / 2 ^ (n / 12))) (shr1 hfs (by omega)) ?_
                refine lv_iconst (v := nI 1) hx hb d_MO_sum_98 (by decide) ?_
                refine lv_iand hx hb d_MO_sum_99 ?_
                refine ti (nI ((fs9 / 2 ^ (n / 12)) % 2)) (and1 _) ?_
                refine lv_iconst (v := nI 1) hx hb d_MO_sum_100 (by decide) ?_
                refine xi_ne (tgt := 123) hx hb d_MO_sum_101 (by decide) (by omega) (by omega) (fun h101 => ?_) (fun h101 => ?_)
                · skip
                  refine lv_iconst (v := nI 0) hx hb d_MO_sum_123 (by decide) ?_
                  exact j124 false ⟨fun q => (by cases q), fun q => absurd (tbit.mpr q.2.1) h101⟩
                · skip
                  refine lv_aload_n hx hb d_MO_sum_104 rfl (lv_at hl 0 rfl) ?_
                  refine xw_get (v := .int (nI ls9)) hx hb hts (fun w h => mw (uw_MO w h)) hown hK hP (MV_0 hX) (by decide) rfl 14 (by decide) (hts _ (mw tb_609)) (fun _ h => h) rfl d_MO_sum_105 ?_
                  refine lv_iload_n hx hb d_MO_sum_108 rfl (lv_at hl 2 rfl) ?_
                  refine lv_bipush (v := nI 12) hx hb d_MO_sum_109 (by decide) ?_
                  refine lv_irem hx hb d_MO_sum_111 (by decide) ?_
                  refine ti (nI (n % 12)) (pk_rem (by omega) (by decide) (by decide)) ?_
                  refine lv_ishr hx hb d_MO_sum_112 ?_
                  refine ti (nI (ls9 / 2 ^ (n % 12))) (shr1 hls (by omega)) ?_
                  refine lv_iconst (v := nI 1) hx hb d_MO_sum_113 (by decide) ?_
                  refine lv_iand hx hb d_MO_sum_114 ?_
                  refine ti (nI ((ls9 / 2 ^ (n % 12)) % 2)) (and1 _) ?_
                  refine lv_iconst (v := nI 1) hx hb d_MO_sum_115 (by decide) ?_
                  refine xi_ne (tgt := 123) hx hb d_MO_sum_116 (by decide) (by omega) (by omega) (fun h116 => ?_) (fun h116 => ?_)
                  · skip
                    refine lv_iconst (v := nI 0) hx hb d_MO_sum_123 (by decide) ?_
                    exact j124 false ⟨fun q => (by cases q), fun q => absurd (tbit.mpr q.2.2) h116⟩
                  · skip
                    refine lv_iconst (v := nI 1) hx hb d_MO_sum_119 (by decide) ?_
                    refine lv_goto (tgt := 124) hx hb d_MO_sum_120 (by decide) ?_
                    exact j124 true ⟨fun _ => ⟨by omega, tbit.mp h101, tbit.mp h116⟩, fun _ => rfl⟩
        exact loop71 145 0 (va_up bw 74 0) _ _ _ _ (by omega) (by omega) (fun x hx => by rw [va_up_ne _ _ (by omega)]; exact hb0 x (by omega) (by omega)) (by rw [va_up_ne _ _ (by decide)]; exact h77) (va_up_self _ _ _) (fun x q1 q2 => by rw [va_up_ne _ _ (by omega)]; exact hb0 x (by omega) q2) hP hS hX (lv_sub hl [1, 2, 0] rfl)
      · skip
        refine lv_iload_n hx hb d_MO_sum_26 rfl (lv_at hl 1 rfl) ?_
        refine lv_iload_n hx hb d_MO_sum_27 rfl (lv_at hl 2 rfl) ?_
        refine lv_ishr hx hb d_MO_sum_28 ?_
        refine ti (nI (al / 2 ^ d)) (shr1 hal31 (by omega)) ?_
        refine lv_iconst (v := nI 1) hx hb d_MO_sum_29 (by decide) ?_
        refine lv_iand hx hb d_MO_sum_30 ?_
        refine ti (nI ((al / 2 ^ d) % 2)) (and1 _) ?_
        refine lv_iconst (v := nI 1) hx hb d_MO_sum_31 (by decide) ?_
        refine xi_ne (tgt := 56) hx hb d_MO_sum_32 (by decide) (by omega) (by omega) (fun h32 => ?_) (fun h32 => ?_)
        · skip
          refine lv_iinc (v := nI (d + 1)) (lv' := [(2, .int (nI (d + 1))), (0, .ref (b + 0)), (1, .int (nI al))]) hx hb d_MO_sum_56 hl (k := 2) rfl (show nI d + Int32.ofInt 1 = nI (d + 1) from nI_add _ _) (by decide) rfl (fun ls hl => ?_)
          refine lv_goto (tgt := 18) hx hb d_MO_sum_59 (by decide) ?_
          exact ih18 (d + 1) bw _ _ _ _ (by omega) (by omega) hb0 (by rw [sR_f (fun q => h32 (tbit.mpr q.1))]; exact h77) hP hS hX (lv_sub hl [1, 2, 0] rfl)
        · skip
          refine lv_aload_n hx hb d_MO_sum_35 rfl (lv_at hl 0 rfl) ?_
          refine xw_get (v := .int (nI (mbU cn9 on1 ot2 tld))) hx hb hts (fun w h => mw (uw_MO w h)) hown hK hP (MV_0 hX) (by decide) rfl 17 (by decide) (hts _ (mw tb_612)) (fun _ h => h) rfl d_MO_sum_36 ?_
          refine lv_iload_n hx hb d_MO_sum_39 rfl (lv_at hl 2 rfl) ?_
          refine lv_ishr hx hb d_MO_sum_40 ?_
          refine ti (nI ((mbU cn9 on1 ot2 tld) / 2 ^ d)) (shr1 hmb31 (by omega)) ?_
          refine lv_iconst (v := nI 1) hx hb d_MO_sum_41 (by decide) ?_
          refine lv_iand hx hb d_MO_sum_42 ?_
          refine ti (nI (((mbU cn9 on1 ot2 tld) / 2 ^ d) % 2)) (and1 _) ?_
          refine xz_ne (tgt := 56) hx hb d_MO_sum_43 (by decide) (by omega) (fun h43 => ?_) (fun h43 => ?_)
          · skip
            refine lv_iinc (v := nI (d + 1)) (lv' := [(2, .int (nI (d + 1))), (0, .ref (b + 0)), (1, .int (nI al))]) hx hb d_MO_sum_56 hl (k := 2) rfl (show nI d + Int32.ofInt 1 = nI (d + 1) from nI_add _ _) (by decide) rfl (fun ls hl => ?_)
            refine lv_goto (tgt := 18) hx hb d_MO_sum_59 (by decide) ?_
            exact ih18 (d + 1) bw _ _ _ _ (by omega) (by omega) hb0 (by rw [sR_f (fun q => by rw [tb1 h43] at q; cases q.2)]; exact h77) hP hS hX (lv_sub hl [1, 2, 0] rfl)
          · skip
            refine lv_aload_n hx hb d_MO_sum_46 rfl (lv_at hl 0 rfl) ?_
            refine lv_bipush (v := nI 77) hx hb d_MO_sum_47 (by decide) ?_
            refine lv_iload_n hx hb d_MO_sum_49 rfl (lv_at hl 2 rfl) ?_
            refine lv_iconst (v := nI 0) hx hb d_MO_sum_50 (by decide) ?_
            refine lv_bipush (v := nI 11) hx hb d_MO_sum_51 (by decide) ?_
            refine xc_V (n := 4) (g0 := 0) (As := [.int (nI 77), .int (nI d), .int (nI 0), .int (nI 11)]) (rest := []) (st0 := _) hx hb hml hown hts (c_MO_multiply l D ca b _ 77 d 0 11 hX ⟨by omega, by omega⟩ (by omega) (by omega) (by omega)) km_MO_multiply tb_756 tb_758 tps_37 tb_7 (by decide +kernel) rfl rfl ⟨Nat.le_of_ble_eq_true rfl, Nat.le_of_ble_eq_true rfl⟩ hK hP (MV_0 hX) (by decide) rfl rfl rfl hl rfl (Nat.le_of_ble_eq_true rfl) d_MO_sum_53 ⟨Nat.zero_le _, Nat.zero_le _⟩ hS (fun _ h => h) (fun v C H locs hp hP _ _ hS => ?_)
            obtain ⟨rfl, m2, hX⟩ := hp
            refine lv_iinc (v := nI (d + 1)) (lv' := [(2, .int (nI (d + 1))), (0, .ref (b + 0)), (1, .int (nI al))]) hx hb d_MO_sum_56 hl (k := 2) rfl (show nI d + Int32.ofInt 1 = nI (d + 1) from nI_add _ _) (by decide) rfl (fun ls hl => ?_)
            refine lv_goto (tgt := 18) hx hb d_MO_sum_59 (by decide) ?_
            exact ih18 (d + 1) (va_up (va_up bw 72 m2) 77 (bw 77 * rng (fun y => bw (12 * d + y)) 0 (11 + 1))) _ _ _ _ (by omega) (by omega) (fun x q1 q2 => by rw [va_up_ne _ _ q2, va_up_ne _ _ q1]; exact hb0 x q1 q2) (by rw [va_up_self, h77, sR_t ⟨tbit.mp h32, tb0 h43⟩, rng_congr (G := fun y => bv1 (12 * d + y)) (fun x q1 q2 => hb0 _ (by omega) (by omega))]) hP hS hX (lv_sub hl [1, 2, 0] rfl)
  exact loop18 (dts + 1) 0 (va_up bv1 77 1) _ _ _ _ (by omega) (by omega) (fun x q1 q2 => va_up_ne _ _ q2) (va_up_self _ _ _) hP hS hX (lv_sub hl [2, 1, 0] rfl)

