/-! Passing: sumOverBounds, passPhase, passTo -/
theorem sBi_t {od : Nat → Nat} {im : Nat → Bool} {S : Nat → Nat → Nat} {hm n : Nat} {fb : Nat → Option Nat} {f : Nat} {q : Q3} {t : Nat} (h : fb 1 = none ∨ fb 1 = some (f + t)) : sBi od im S hm n fb f q (t + 1) = ((mI od im S (f + t) hm (sBi od im S hm n fb f q t).1 n).1, adP (sBi od im S hm n fb f q t).2.1 f (t + 1) (mI od im S (f + t) hm (sBi od im S hm n fb f q t).1 n).2, (sBi od im S hm n fb f q t).2.2 + (mI od im S (f + t) hm (sBi od im S hm n fb f q t).1 n).2) := if_pos h
theorem sBi_f {od : Nat → Nat} {im : Nat → Bool} {S : Nat → Nat → Nat} {hm n : Nat} {fb : Nat → Option Nat} {f : Nat} {q : Q3} {t : Nat} (h : ¬ (fb 1 = none ∨ fb 1 = some (f + t))) : sBi od im S hm n fb f q (t + 1) = ((mI od im S (f + t) hm (sBi od im S hm n fb f q t).1 n).1, (sBi od im S hm n fb f q t).2.1, (sBi od im S hm n fb f q t).2.2) := if_neg h
theorem sBo_t {od : Nat → Nat} {im : Nat → Bool} {S : Nat → Nat → Nat} {hm n : Nat} {fb : Nat → Option Nat} {q : Q3} {f : Nat} (h : fb 0 = none ∨ fb 0 = some f) : sBo od im S hm n fb q (f + 1) = sBi od im S hm n fb f (upto 6 Z0 (sBo od im S hm n fb q f).1, (sBo od im S hm n fb q f).2.1, (sBo od im S hm n fb q f).2.2) (12 - f) := if_pos h
theorem sBo_f {od : Nat → Nat} {im : Nat → Bool} {S : Nat → Nat → Nat} {hm n : Nat} {fb : Nat → Option Nat} {q : Q3} {f : Nat} (h : ¬ (fb 0 = none ∨ fb 0 = some f)) : sBo od im S hm n fb q (f + 1) = sBo od im S hm n fb q f := if_neg h
theorem ltm1 {a b : Nat} (ha : a < 2 ^ 30) (hb : b < 2 ^ 30) : nI a - nI 1 < nI b ↔ a ≤ b := by
  rcases Nat.eq_zero_or_pos a with q | q
  · subst q
    refine ⟨fun _ => Nat.zero_le _, fun _ => ?_⟩
    exact Int32.lt_of_lt_of_le (pk_sneg (a := 0) (b := 1) (by decide) (by decide)) (nI_pos' (by omega))
  · rw [pk_sub q, nI_ltI (by omega) (by omega)]
    omega
set_option maxHeartbeats 4000000 in
set_option maxRecDepth 100000 in
/-- the sums over the bounds -/
theorem c_PA_sumOverBounds (l : Launch) (D : va_G) (ca : Nat → ClassId) (b : Nat) (C0 : Nat → va_E) {wt : Nat → Nat → Nat} {ab : Nat → Nat} {be : Nat → Nat} {nd : Nat} {fr : Nat → Nat} {tt : Nat → Option Nat} {le : Nat → Nat} {mo : Nat → Nat} {nf : Nat → Bool} {tr : Nat → Nat} {nt : Nat} {nm : Nat} {fy : Nat → Option Nat} {fb : Nat → Option Nat} {od : Nat → Nat} {pa : Nat → Option Nat} {rp : Nat → Option Nat} {se : Nat → Bool} {im : Nat → Bool} {qd : Nat} {hm : Nat} {S : Nat → Nat → Nat} {I : Nat → Nat} {P : Nat → Nat} {pt : Nat} {ap : Nat} {fa : Nat} {wh : Nat} {st : Nat}  (hX : XS ca b C0 wt ab be nd fr tt le mo nf tr nt nm fy fb od pa rp se im qd hm (gvOf S I P pt ap fa wh st)) (hq6 : qd ≤ 6) (hhq : hm ≤ qd) (hod : ∀ j, j < qd → od j < 6) (hfb : ∀ w, w < 2 → ∀ y, fb w = some y → y < 2 ^ 31) : Met l y_PA_sumOverBounds (k_PA_sumOverBounds :: gw) ({ frames := 3, cells := 0, slots := 0, locals := 83 }) (xPc D ca b 219 C0 [.ref (b + 18)]) (xQ D b 219 (fun r C1 => r = none ∧ ∃ p1, XS ca b C1 wt ab be nd fr tt le mo nf tr nt nm fy fb od pa rp se im qd hm (gvOf S ((sBo od im S hm (qd - hm) fb (I, upto 12 Z0 P, 0) 12).1) ((sBo od im S hm (qd - hm) fb (I, upto 12 Z0 P, 0) 12).2.1) p1 ((sBo od im S hm (qd - hm) fb (I, upto 12 Z0 P, 0) 12).2.2) fa wh st))) 0 0 (xr b 219) := by
  refine Met.ofW (cc := b_PA_sumOverBounds) (maxL := 3) (ret := none) (by decide) rfl ?_
  intro p e s m args below meth c s₁ B hml hv
  obtain ⟨hav, hP, hK⟩ := hv
  have hx := B.exec
  have hb := B.bytes
  have hr := B.returns
  have hts := atoms_spec (ws := k_PA_sumOverBounds :: gw) B.pre
  have hown : s.vm.findClass R_PA = some m.cls := findClass_of_methodNamed B.named
  have hlocks := B.notSynchronized
  have hA : ∀ k, k < 219 → xr b 219 (b + k) := xr_in
  have hS : va_S (xr b 219) s.heap s.heap [] := va_S.rf
  have hl := lv_entry ([.ref (b + 18)]) (n := 3) (Nat.le_of_ble_eq_true rfl)
  rw [hav, lg_entry_eq]
  generalize (lg_sl ([.ref (b + 18)]) ++ List.replicate (3 - (lg_sl ([.ref (b + 18)])).length) Slot.unset).toArray = ls at hl ⊢
  have hl : lv_has ls 3 [(0, .ref (b + 18))] := hl
  rw [← hav]
  refine lv_aload_n hx hb d_PA_sumOverBounds_0 rfl (lv_at hl 0 rfl) ?_
  refine xw_get (v := .ref (b + 24)) hx hb hts (fun w h => mw (uw_PA w h)) hown hK hP (XS_18 hX) (by decide) rfl 4 (by decide) (hts _ (mw tb_105)) (fun _ h => h) rfl d_PA_sumOverBounds_1 ?_
  refine lv_iconst (v := nI 0) hx hb d_PA_sumOverBounds_4 (by decide) ?_
  have hgi1 : gid 24 := (by unfold gid; decide)
  obtain ⟨ga1, gn1, hga1, hgb1, hgc1⟩ := XS_g hX 24 hgi1
  rw [gv_ap] at hgc1
  refine xc_V (n := 1) (As := [.int (nI 0)]) (rest := []) (st0 := _) hx hb hml hown hts (c_GR_set l D ca b 219 _ 24 gn1 _ ga1 0 hga1 hgb1 (by unfold gid at hgi1; omega) hgc1 (by decide)) km_GR_set tb_202 tb_178 tb_179 tb_5 (by decide +kernel) rfl rfl ⟨Nat.le_of_ble_eq_true rfl, Nat.le_of_ble_eq_true rfl⟩ hK hP hga1 (by unfold gid at hgi1; omega) rfl rfl rfl hl rfl (Nat.le_of_ble_eq_true rfl) d_PA_sumOverBounds_5 ⟨Nat.zero_le _, Nat.zero_le _⟩ hS (fun _ h => h) (fun v C H locs hp hP _ _ hS => ?_)
  obtain ⟨rfl, hG1, hG2⟩ := hp
  have hX := XS_set_gv hX hgi1 hG1 hG2
  have hX := gs_ap hX
  refine lv_iconst (v := nI 0) hx hb d_PA_sumOverBounds_8 (by decide) ?_
  refine lv_istore_n (lv' := [(1, .int (nI 0)), (0, .ref (b + 18))]) hx hb d_PA_sumOverBounds_9 rfl hl (by decide) rfl (fun ls hl => ?_)
  have loop10 : ∀ (r : Nat) (y : Nat) (C : Nat → va_E) (H : Heap) (locs : List Loc) (ls : Array Slot), 12 < y + r → y ≤ 12 → va_P D classes (wl b 219 C) H → va_S (xr b 219) s.heap H locs → XS ca b C wt ab be nd fr tt le mo nf tr nt nm fy fb od pa rp se im qd hm (gvOf S I (upto y Z0 P) pt 0 fa wh st) → lv_has ls 3 [(0, .ref (b + 18)), (1, .int (nI y))] → W p l e (headSpec (k_PA_sumOverBounds :: gw) ({ frames := 3, cells := 0, slots := 0, locals := 83 })).room s m args below meth c H locs 0 0 (MQ below (xQ D b 219 (fun r C1 => r = none ∧ ∃ p1, XS ca b C1 wt ab be nd fr tt le mo nf tr nt nm fy fb od pa rp se im qd hm (gvOf S ((sBo od im S hm (qd - hm) fb (I, upto 12 Z0 P, 0) 12).1) ((sBo od im S hm (qd - hm) fb (I, upto 12 Z0 P, 0) 12).2.1) p1 ((sBo od im S hm (qd - hm) fb (I, upto 12 Z0 P, 0) 12).2.2) fa wh st))) args s 0 0 (xr b 219)) (F0 m 10 ls []) := by
    intro r
    induction r with
    | zero => intro y C H locs ls hms hy; exact absurd hms (by omega)
    | succ r ih10 =>
      intro y C H locs ls hms hy hP hS hX hl
      refine lv_iload_n hx hb d_PA_sumOverBounds_10 rfl (lv_at hl 1 rfl) ?_
      refine lv_bipush (v := nI 12) hx hb d_PA_sumOverBounds_11 (by decide) ?_
      refine xi_ge (tgt := 32) hx hb d_PA_sumOverBounds_13 (by decide) (by omega) (by omega) (fun h13 => ?_) (fun h13 => ?_)
      · skip
        have ey : y = 12 := by omega
        rw [ey] at hX
        refine lv_iconst (v := nI 0) hx hb d_PA_sumOverBounds_32 (by decide) ?_
        refine lv_istore_n (lv' := [(1, .int (nI 0)), (0, .ref (b + 18))]) hx hb d_PA_sumOverBounds_33 rfl hl (by decide) rfl (fun ls hl => ?_)
        have loop34 : ∀ (r : Nat) (f : Nat) (p0 : Nat) (C : Nat → va_E) (H : Heap) (locs : List Loc) (ls : Array Slot), 12 < f + r → f ≤ 12 → va_P D classes (wl b 219 C) H → va_S (xr b 219) s.heap H locs → XS ca b C wt ab be nd fr tt le mo nf tr nt nm fy fb od pa rp se im qd hm (gvOf S ((sBo od im S hm (qd - hm) fb (I, upto 12 Z0 P, 0) f).1) ((sBo od im S hm (qd - hm) fb (I, upto 12 Z0 P, 0) f).2.1) p0 ((sBo od im S hm (qd - hm) fb (I, upto 12 Z0 P, 0) f).2.2) fa wh st) → lv_has ls 3 [(0, .ref (b + 18)), (1, .int (nI f))] → W p l e (headSpec (k_PA_sumOverBounds :: gw) ({ frames := 3, cells := 0, slots := 0, locals := 83 })).room s m args below meth c H locs 0 0 (MQ below (xQ D b 219 (fun r C1 => r = none ∧ ∃ p1, XS ca b C1 wt ab be nd fr tt le mo nf tr nt nm fy fb od pa rp se im qd hm (gvOf S ((sBo od im S hm (qd - hm) fb (I, upto 12 Z0 P, 0) 12).1) ((sBo od im S hm (qd - hm) fb (I, upto 12 Z0 P, 0) 12).2.1) p1 ((sBo od im S hm (qd - hm) fb (I, upto 12 Z0 P, 0) 12).2.2) fa wh st))) args s 0 0 (xr b 219)) (F0 m 34 ls []) := by
          intro r
          induction r with
          | zero => intro f p0 C H locs ls hms hf; exact absurd hms (by omega)
          | succ r ih34 =>
            intro f p0 C H locs ls hms hf hP hS hX hl
            have j63 : (fb 0 = none ∨ fb 0 = some f) → f < 12 → W p l e (headSpec (k_PA_sumOverBounds :: gw) ({ frames := 3, cells := 0, slots := 0, locals := 83 })).room s m args below meth c H locs 0 0 (MQ below (xQ D b 219 (fun r C1 => r = none ∧ ∃ p1, XS ca b C1 wt ab be nd fr tt le mo nf tr nt nm fy fb od pa rp se im qd hm (gvOf S ((sBo od im S hm (qd - hm) fb (I, upto 12 Z0 P, 0) 12).1) ((sBo od im S hm (qd - hm) fb (I, upto 12 Z0 P, 0) 12).2.1) p1 ((sBo od im S hm (qd - hm) fb (I, upto 12 Z0 P, 0) 12).2.2) fa wh st))) args s 0 0 (xr b 219)) (F0 m 63 ls []) := by
              intro h63 hf12
              refine lv_iconst (v := nI 0) hx hb d_PA_sumOverBounds_63 (by decide) ?_
              refine lv_istore_n (lv' := [(2, .int (nI 0)), (0, .ref (b + 18)), (1, .int (nI f))]) hx hb d_PA_sumOverBounds_64 rfl hl (by decide) rfl (fun ls hl => ?_)
              have loop65 : ∀ (r : Nat) (d : Nat) (C : Nat → va_E) (H : Heap) (locs : List Loc) (ls : Array Slot), 6 < d + r → d ≤ 6 → va_P D classes (wl b 219 C) H → va_S (xr b 219) s.heap H locs → XS ca b C wt ab be nd fr tt le mo nf tr nt nm fy fb od pa rp se im qd hm (gvOf S (upto d Z0 (sBo od im S hm (qd - hm) fb (I, upto 12 Z0 P, 0) f).1) ((sBo od im S hm (qd - hm) fb (I, upto 12 Z0 P, 0) f).2.1) p0 ((sBo od im S hm (qd - hm) fb (I, upto 12 Z0 P, 0) f).2.2) fa wh st) → lv_has ls 3 [(0, .ref (b + 18)), (1, .int (nI f)), (2, .int (nI d))] → W p l e (headSpec (k_PA_sumOverBounds :: gw) ({ frames := 3, cells := 0, slots := 0, locals := 83 })).room s m args below meth c H locs 0 0 (MQ below (xQ D b 219 (fun r C1 => r = none ∧ ∃ p1, XS ca b C1 wt ab be nd fr tt le mo nf tr nt nm fy fb od pa rp se im qd hm (gvOf S ((sBo od im S hm (qd - hm) fb (I, upto 12 Z0 P, 0) 12).1) ((sBo od im S hm (qd - hm) fb (I, upto 12 Z0 P, 0) 12).2.1) p1 ((sBo od im S hm (qd - hm) fb (I, upto 12 Z0 P, 0) 12).2.2) fa wh st))) args s 0 0 (xr b 219)) (F0 m 65 ls []) := by
                intro r
                induction r with
                | zero => intro d C H locs ls hms hd; exact absurd hms (by omega)
                | succ r ih65 =>
                  intro d C H locs ls hms hd hP hS hX hl
                  refine lv_iload_n hx hb d_PA_sumOverBounds_65 rfl (lv_at hl 2 rfl) ?_
                  refine lv_bipush (v := nI 6) hx hb d_PA_sumOverBounds_66 (by decide) ?_
                  refine xi_ge (tgt := 87) hx hb d_PA_sumOverBounds_68 (by decide) (by omega) (by omega) (fun h68 => ?_) (fun h68 => ?_)
                  · skip
                    have ed : d = 6 := by omega
                    rw [ed] at hX
                    refine lv_iload_n hx hb d_PA_sumOverBounds_87 rfl (lv_at hl 1 rfl) ?_
                    refine lv_istore_n (lv' := [(2, .int (nI f)), (0, .ref (b + 18)), (1, .int (nI f))]) hx hb d_PA_sumOverBounds_88 rfl hl (by decide) rfl (fun ls hl => ?_)
                    have loop89 : ∀ (r : Nat) (t : Nat) (p2 : Nat) (C : Nat → va_E) (H : Heap) (locs : List Loc) (ls : Array Slot), 12 < f + t + r → f + t ≤ 12 → va_P D classes (wl b 219 C) H → va_S (xr b 219) s.heap H locs → XS ca b C wt ab be nd fr tt le mo nf tr nt nm fy fb od pa rp se im qd hm (gvOf S ((sBi od im S hm (qd - hm) fb f (upto 6 Z0 (sBo od im S hm (qd - hm) fb (I, upto 12 Z0 P, 0) f).1, (sBo od im S hm (qd - hm) fb (I, upto 12 Z0 P, 0) f).2.1, (sBo od im S hm (qd - hm) fb (I, upto 12 Z0 P, 0) f).2.2) t).1) ((sBi od im S hm (qd - hm) fb f (upto 6 Z0 (sBo od im S hm (qd - hm) fb (I, upto 12 Z0 P, 0) f).1, (sBo od im S hm (qd - hm) fb (I, upto 12 Z0 P, 0) f).2.1, (sBo od im S hm (qd - hm) fb (I, upto 12 Z0 P, 0) f).2.2) t).2.1) p2 ((sBi od im S hm (qd - hm) fb f (upto 6 Z0 (sBo od im S hm (qd - hm) fb (I, upto 12 Z0 P, 0) f).1, (sBo od im S hm (qd - hm) fb (I, upto 12 Z0 P, 0) f).2.1, (sBo od im S hm (qd - hm) fb (I, upto 12 Z0 P, 0) f).2.2) t).2.2) fa wh st) → lv_has ls 3 [(0, .ref (b + 18)), (1, .int (nI f)), (2, .int (nI (f + t)))] → W p l e (headSpec (k_PA_sumOverBounds :: gw) ({ frames := 3, cells := 0, slots := 0, locals := 83 })).room s m args below meth c H locs 0 0 (MQ below (xQ D b 219 (fun r C1 => r = none ∧ ∃ p1, XS ca b C1 wt ab be nd fr tt le mo nf tr nt nm fy fb od pa rp se im qd hm (gvOf S ((sBo od im S hm (qd - hm) fb (I, upto 12 Z0 P, 0) 12).1) ((sBo od im S hm (qd - hm) fb (I, upto 12 Z0 P, 0) 12).2.1) p1 ((sBo od im S hm (qd - hm) fb (I, upto 12 Z0 P, 0) 12).2.2) fa wh st))) args s 0 0 (xr b 219)) (F0 m 89 ls []) := by
                      intro r
                      induction r with
                      | zero => intro t p2 C H locs ls hms ht; exact absurd hms (by omega)
                      | succ r ih89 =>
                        intro t p2 C H locs ls hms ht hP hS hX hl
                        refine lv_iload_n hx hb d_PA_sumOverBounds_89 rfl (lv_at hl 2 rfl) ?_
                        refine lv_bipush (v := nI 12) hx hb d_PA_sumOverBounds_90 (by decide) ?_
                        refine xi_ge (tgt := 132) hx hb d_PA_sumOverBounds_92 (by decide) (by omega) (by omega) (fun h92 => ?_) (fun h92 => ?_)
                        · skip
                          have et : t = 12 - f := by omega
                          rw [et, ← sBo_t (od := od) (im := im) (S := S) (hm := hm) (n := qd - hm) (q := (I, upto 12 Z0 P, 0)) h63] at hX
                          refine lv_iinc (v := nI (f + 1)) (lv' := [(1, .int (nI (f + 1))), (0, .ref (b + 18)), (2, .int (nI (f + t)))]) hx hb d_PA_sumOverBounds_132 hl (k := 1) rfl (show nI f + Int32.ofInt 1 = nI (f + 1) from nI_add _ _) (by decide) rfl (fun ls hl => ?_)
                          refine lv_goto (tgt := 34) hx hb d_PA_sumOverBounds_135 (by decide) ?_
                          exact ih34 (f + 1) _ _ _ _ _ (by omega) (by omega) hP hS hX (lv_sub hl [1, 0] rfl)
                        · skip
                          refine lv_aload_n hx hb d_PA_sumOverBounds_95 rfl (lv_at hl 0 rfl) ?_
                          refine lv_iload_n hx hb d_PA_sumOverBounds_96 rfl (lv_at hl 2 rfl) ?_
                          refine xc_V (n := 1) (As := [.int (nI (f + t))]) (rest := []) (st0 := _) hx hb hml hown hts (c_PA_multiplyInside l D ca b _ (f + t) hX (by omega) hq6 hhq hod) km_PA_multiplyInside tb_274 tb_276 tps_10 tb_4 (by decide +kernel) rfl rfl ⟨Nat.le_of_ble_eq_true rfl, Nat.le_of_ble_eq_true rfl⟩ hK hP (XS_18 hX) (by decide) rfl rfl rfl hl rfl (Nat.le_of_ble_eq_true rfl) d_PA_sumOverBounds_97 ⟨Nat.zero_le _, Nat.zero_le _⟩ hS (fun _ h => h) (fun v C H locs hp hP _ _ hS => ?_)
                          obtain ⟨rfl, hX⟩ := hp
                          have j120 : (fb 1 = none ∨ fb 1 = some (f + t)) → W p l e (headSpec (k_PA_sumOverBounds :: gw) ({ frames := 3, cells := 0, slots := 0, locals := 83 })).room s m args below meth c H locs 0 0 (MQ below (xQ D b 219 (fun r C1 => r = none ∧ ∃ p1, XS ca b C1 wt ab be nd fr tt le mo nf tr nt nm fy fb od pa rp se im qd hm (gvOf S ((sBo od im S hm (qd - hm) fb (I, upto 12 Z0 P, 0) 12).1) ((sBo od im S hm (qd - hm) fb (I, upto 12 Z0 P, 0) 12).2.1) p1 ((sBo od im S hm (qd - hm) fb (I, upto 12 Z0 P, 0) 12).2.2) fa wh st))) args s 0 0 (xr b 219)) (F0 m 120 ls []) := by
                            intro h120
                            refine lv_aload_n hx hb d_PA_sumOverBounds_120 rfl (lv_at hl 0 rfl) ?_
                            refine lv_iload_n hx hb d_PA_sumOverBounds_121 rfl (lv_at hl 1 rfl) ?_
                            refine lv_iload_n hx hb d_PA_sumOverBounds_122 rfl (lv_at hl 2 rfl) ?_
                            refine xc_V (n := 2) (As := [.int (nI f), .int (nI (f + t))]) (rest := []) (st0 := _) hx hb hml hown hts (c_PA_addPair l D ca b _ f (f + t) hX (by omega) (by omega)) km_PA_addPair tb_278 tb_280 tps_11 tb_4 (by decide +kernel) rfl rfl ⟨Nat.le_of_ble_eq_true rfl, Nat.le_of_ble_eq_true rfl⟩ hK hP (XS_18 hX) (by decide) rfl rfl rfl hl rfl (Nat.le_of_ble_eq_true rfl) d_PA_sumOverBounds_123 ⟨Nat.zero_le _, Nat.zero_le _⟩ hS (fun _ h => h) (fun v C H locs hp hP _ _ hS => ?_)
                            obtain ⟨rfl, hX⟩ := hp
                            have hX : XS ca b C wt ab be nd fr tt le mo nf tr nt nm fy fb od pa rp se im qd hm (gvOf S ((sBi od im S hm (qd - hm) fb f (upto 6 Z0 (sBo od im S hm (qd - hm) fb (I, upto 12 Z0 P, 0) f).1, (sBo od im S hm (qd - hm) fb (I, upto 12 Z0 P, 0) f).2.1, (sBo od im S hm (qd - hm) fb (I, upto 12 Z0 P, 0) f).2.2) (t + 1)).1) ((sBi od im S hm (qd - hm) fb f (upto 6 Z0 (sBo od im S hm (qd - hm) fb (I, upto 12 Z0 P, 0) f).1, (sBo od im S hm (qd - hm) fb (I, upto 12 Z0 P, 0) f).2.1, (sBo od im S hm (qd - hm) fb (I, upto 12 Z0 P, 0) f).2.2) (t + 1)).2.1) ((mI od im S (f + t) hm ((sBi od im S hm (qd - hm) fb f (upto 6 Z0 (sBo od im S hm (qd - hm) fb (I, upto 12 Z0 P, 0) f).1, (sBo od im S hm (qd - hm) fb (I, upto 12 Z0 P, 0) f).2.1, (sBo od im S hm (qd - hm) fb (I, upto 12 Z0 P, 0) f).2.2) t).1) (qd - hm)).2) ((sBi od im S hm (qd - hm) fb f (upto 6 Z0 (sBo od im S hm (qd - hm) fb (I, upto 12 Z0 P, 0) f).1, (sBo od im S hm (qd - hm) fb (I, upto 12 Z0 P, 0) f).2.1, (sBo od im S hm (qd - hm) fb (I, upto 12 Z0 P, 0) f).2.2) (t + 1)).2.2) fa wh st) := by rw [sBi_t h120, show t + 1 = f + t + 1 - f by omega]; exact hX
                            refine lv_iinc (v := nI (f + t + 1)) (lv' := [(2, .int (nI (f + t + 1))), (0, .ref (b + 18)), (1, .int (nI f))]) hx hb d_PA_sumOverBounds_126 hl (k := 2) rfl (show nI (f + t) + Int32.ofInt 1 = nI (f + t + 1) from nI_add _ _) (by decide) rfl (fun ls hl => ?_)
                            refine lv_goto (tgt := 89) hx hb d_PA_sumOverBounds_129 (by decide) ?_
                            exact ih89 (t + 1) _ _ _ _ _ (by omega) (by omega) hP hS hX (lv_sub hl [1, 2, 0] rfl)
                          refine lv_aload_n hx hb d_PA_sumOverBounds_100 rfl (lv_at hl 0 rfl) ?_
                          refine xw_get (v := .ref (b + 29)) hx hb hts (fun w h => mw (uw_PA w h)) hown hK hP (XS_18 hX) (by decide) rfl 7 (by decide) (hts _ (mw tb_108)) (fun _ h => h) rfl d_PA_sumOverBounds_101 ?_
                          refine lv_iconst (v := nI 1) hx hb d_PA_sumOverBounds_104 (by decide) ?_
                          refine xw_iald hx hb hK hP 0 (XS_29 hX) (by decide) rfl (by omega) (by decide) d_PA_sumOverBounds_105 ?_
                          refine lv_iconst (v := (-1)) hx hb d_PA_sumOverBounds_106 (by decide) ?_
                          refine xo_eq (tgt := 120) hx hb d_PA_sumOverBounds_107 (by decide) (hfb 1 (by decide)) (fun h107 => ?_) (fun d107 h107 => ?_)
                          · skip
                            exact j120 (Or.inl h107)
                          · skip
                            have hbl1 := hfb 1 (by decide) _ h107
                            refine lv_aload_n hx hb d_PA_sumOverBounds_110 rfl (lv_at hl 0 rfl) ?_
                            refine xw_get (v := .ref (b + 29)) hx hb hts (fun w h => mw (uw_PA w h)) hown hK hP (XS_18 hX) (by decide) rfl 7 (by decide) (hts _ (mw tb_108)) (fun _ h => h) rfl d_PA_sumOverBounds_111 ?_
                            refine lv_iconst (v := nI 1) hx hb d_PA_sumOverBounds_114 (by decide) ?_
                            refine xw_iald hx hb hK hP 0 (XS_29 hX) (by decide) rfl (by omega) (by decide) d_PA_sumOverBounds_115 ?_
                            refine ti (nI d107) (by rw [h107]; rfl) ?_
                            refine lv_iload_n hx hb d_PA_sumOverBounds_116 rfl (lv_at hl 2 rfl) ?_
                            refine xi_ne (tgt := 126) hx hb d_PA_sumOverBounds_117 (by decide) (by omega) (by omega) (fun h117 => ?_) (fun h117 => ?_)
                            · skip
                              have hX : XS ca b C wt ab be nd fr tt le mo nf tr nt nm fy fb od pa rp se im qd hm (gvOf S ((sBi od im S hm (qd - hm) fb f (upto 6 Z0 (sBo od im S hm (qd - hm) fb (I, upto 12 Z0 P, 0) f).1, (sBo od im S hm (qd - hm) fb (I, upto 12 Z0 P, 0) f).2.1, (sBo od im S hm (qd - hm) fb (I, upto 12 Z0 P, 0) f).2.2) (t + 1)).1) ((sBi od im S hm (qd - hm) fb f (upto 6 Z0 (sBo od im S hm (qd - hm) fb (I, upto 12 Z0 P, 0) f).1, (sBo od im S hm (qd - hm) fb (I, upto 12 Z0 P, 0) f).2.1, (sBo od im S hm (qd - hm) fb (I, upto 12 Z0 P, 0) f).2.2) (t + 1)).2.1) ((mI od im S (f + t) hm ((sBi od im S hm (qd - hm) fb f (upto 6 Z0 (sBo od im S hm (qd - hm) fb (I, upto 12 Z0 P, 0) f).1, (sBo od im S hm (qd - hm) fb (I, upto 12 Z0 P, 0) f).2.1, (sBo od im S hm (qd - hm) fb (I, upto 12 Z0 P, 0) f).2.2) t).1) (qd - hm)).2) ((sBi od im S hm (qd - hm) fb f (upto 6 Z0 (sBo od im S hm (qd - hm) fb (I, upto 12 Z0 P, 0) f).1, (sBo od im S hm (qd - hm) fb (I, upto 12 Z0 P, 0) f).2.1, (sBo od im S hm (qd - hm) fb (I, upto 12 Z0 P, 0) f).2.2) (t + 1)).2.2) fa wh st) := by rw [sBi_f (fun q => q.elim (fun q => by rw [h107] at q; cases q) (fun q => by rw [h107] at q; exact absurd (Option.some.inj q) h117))]; exact hX
                              refine lv_iinc (v := nI (f + t + 1)) (lv' := [(2, .int (nI (f + t + 1))), (0, .ref (b + 18)), (1, .int (nI f))]) hx hb d_PA_sumOverBounds_126 hl (k := 2) rfl (show nI (f + t) + Int32.ofInt 1 = nI (f + t + 1) from nI_add _ _) (by decide) rfl (fun ls hl => ?_)
                              refine lv_goto (tgt := 89) hx hb d_PA_sumOverBounds_129 (by decide) ?_
                              exact ih89 (t + 1) _ _ _ _ _ (by omega) (by omega) hP hS hX (lv_sub hl [1, 2, 0] rfl)
                            · skip
                              exact j120 (Or.inr (by rw [h107, h117]))
                    exact loop89 13 0 _ _ _ _ _ (by omega) (by omega) hP hS hX (lv_sub hl [1, 2, 0] rfl)
                  · skip
                    refine lv_aload_n hx hb d_PA_sumOverBounds_71 rfl (lv_at hl 0 rfl) ?_
                    refine xw_get (v := .ref (b + 20)) hx hb hts (fun w h => mw (uw_PA w h)) hown hK hP (XS_18 hX) (by decide) rfl 1 (by decide) (hts _ (mw tb_102)) (fun _ h => h) rfl d_PA_sumOverBounds_72 ?_
                    refine lv_iload_n hx hb d_PA_sumOverBounds_75 rfl (lv_at hl 2 rfl) ?_
                    refine xw_aald (q := b + (179 + 2 * d)) hx hb hK hP 3 (XS_20 hX) (by decide) rfl (by omega) (by decide) rfl d_PA_sumOverBounds_76 ?_
                    refine lv_iconst (v := nI 0) hx hb d_PA_sumOverBounds_77 (by decide) ?_
                    have hgi2 : gid ((179 + 2 * d)) := (by unfold gid; omega)
                    obtain ⟨ga2, gn2, hga2, hgb2, hgc2⟩ := XS_g hX ((179 + 2 * d)) hgi2
                    rw [gv_I (by omega)] at hgc2
                    refine xc_V (n := 1) (As := [.int (nI 0)]) (rest := []) (st0 := _) hx hb hml hown hts (c_GR_set l D ca b 219 _ ((179 + 2 * d)) gn2 _ ga2 0 hga2 hgb2 (by unfold gid at hgi2; omega) hgc2 (by decide)) km_GR_set tb_202 tb_178 tb_179 tb_5 (by decide +kernel) rfl rfl ⟨Nat.le_of_ble_eq_true rfl, Nat.le_of_ble_eq_true rfl⟩ hK hP hga2 (by unfold gid at hgi2; omega) rfl rfl rfl hl rfl (Nat.le_of_ble_eq_true rfl) d_PA_sumOverBounds_78 ⟨Nat.zero_le _, Nat.zero_le _⟩ hS (fun _ h => h) (fun v C H locs hp hP _ _ hS => ?_)
                    obtain ⟨rfl, hG1, hG2⟩ := hp
                    have hX := XS_set_gv hX hgi2 hG1 hG2
                    have hX := gs_I (k := d) (by omega) hX
                    refine lv_iinc (v := nI (d + 1)) (lv' := [(2, .int (nI (d + 1))), (0, .ref (b + 18)), (1, .int (nI f))]) hx hb d_PA_sumOverBounds_81 hl (k := 2) rfl (show nI d + Int32.ofInt 1 = nI (d + 1) from nI_add _ _) (by decide) rfl (fun ls hl => ?_)
                    refine lv_goto (tgt := 65) hx hb d_PA_sumOverBounds_84 (by decide) ?_
                    have hX : XS ca b C wt ab be nd fr tt le mo nf tr nt nm fy fb od pa rp se im qd hm (gvOf S (upto (d + 1) Z0 (sBo od im S hm (qd - hm) fb (I, upto 12 Z0 P, 0) f).1) ((sBo od im S hm (qd - hm) fb (I, upto 12 Z0 P, 0) f).2.1) p0 ((sBo od im S hm (qd - hm) fb (I, upto 12 Z0 P, 0) f).2.2) fa wh st) := by rw [← upto_s d Z0 (sBo od im S hm (qd - hm) fb (I, upto 12 Z0 P, 0) f).1]; exact hX
                    exact ih65 (d + 1) _ _ _ _ (by omega) (by omega) hP hS hX (lv_sub hl [1, 2, 0] rfl)
              rw [← upto_0 Z0 (sBo od im S hm (qd - hm) fb (I, upto 12 Z0 P, 0) f).1] at hX
              exact loop65 7 0 _ _ _ _ (by omega) (by omega) hP hS hX (lv_sub hl [1, 2, 0] rfl)
            refine lv_iload_n hx hb d_PA_sumOverBounds_34 rfl (lv_at hl 1 rfl) ?_
            refine lv_bipush (v := nI 12) hx hb d_PA_sumOverBounds_35 (by decide) ?_
            refine xi_ge (tgt := 138) hx hb d_PA_sumOverBounds_37 (by decide) (by omega) (by omega) (fun h37 => ?_) (fun h37 => ?_)
            · skip
              have ef : f = 12 := by omega
              rw [ef] at hX
              exact xw_vret hx hb hr hlocks hP hS ⟨rfl, _, hX⟩ d_PA_sumOverBounds_138
            · skip
              refine lv_aload_n hx hb d_PA_sumOverBounds_40 rfl (lv_at hl 0 rfl) ?_
              refine xw_get (v := .ref (b + 29)) hx hb hts (fun w h => mw (uw_PA w h)) hown hK hP (XS_18 hX) (by decide) rfl 7 (by decide) (hts _ (mw tb_108)) (fun _ h => h) rfl d_PA_sumOverBounds_41 ?_
              refine lv_iconst (v := nI 0) hx hb d_PA_sumOverBounds_44 (by decide) ?_
              refine xw_iald hx hb hK hP 0 (XS_29 hX) (by decide) rfl (by omega) (by decide) d_PA_sumOverBounds_45 ?_
              refine lv_iconst (v := (-1)) hx hb d_PA_sumOverBounds_46 (by decide) ?_
              refine xo_eq (tgt := 63) hx hb d_PA_sumOverBounds_47 (by decide) (hfb 0 (by decide)) (fun h47 => ?_) (fun d47 h47 => ?_)
              · skip
                exact j63 (Or.inl h47) (by omega)
              · skip
                have hbl := hfb 0 (by decide) _ h47
                refine lv_aload_n hx hb d_PA_sumOverBounds_50 rfl (lv_at hl 0 rfl) ?_
                refine xw_get (v := .ref (b + 29)) hx hb hts (fun w h => mw (uw_PA w h)) hown hK hP (XS_18 hX) (by decide) rfl 7 (by decide) (hts _ (mw tb_108)) (fun _ h => h) rfl d_PA_sumOverBounds_51 ?_
                refine lv_iconst (v := nI 0) hx hb d_PA_sumOverBounds_54 (by decide) ?_
                refine xw_iald hx hb hK hP 0 (XS_29 hX) (by decide) rfl (by omega) (by decide) d_PA_sumOverBounds_55 ?_
                refine ti (nI d47) (by rw [h47]; rfl) ?_
                refine lv_iload_n hx hb d_PA_sumOverBounds_56 rfl (lv_at hl 1 rfl) ?_
                refine xi_eq (tgt := 63) hx hb d_PA_sumOverBounds_57 (by decide) (by omega) (by omega) (fun h57 => ?_) (fun h57 => ?_)
                · skip
                  exact j63 (Or.inr (by rw [h47, h57])) (by omega)
                · skip
                  have hn57 : ¬ (fb 0 = none ∨ fb 0 = some f) := fun q => q.elim (fun q => by rw [h47] at q; cases q) (fun q => by rw [h47] at q; exact absurd (Option.some.inj q) h57)
                  rw [← sBo_f (od := od) (im := im) (S := S) (hm := hm) (n := qd - hm) (q := (I, upto 12 Z0 P, 0)) hn57] at hX
                  refine lv_goto (tgt := 132) hx hb d_PA_sumOverBounds_60 (by decide) ?_
                  refine lv_iinc (v := nI (f + 1)) (lv' := [(1, .int (nI (f + 1))), (0, .ref (b + 18))]) hx hb d_PA_sumOverBounds_132 hl (k := 1) rfl (show nI f + Int32.ofInt 1 = nI (f + 1) from nI_add _ _) (by decide) rfl (fun ls hl => ?_)
                  refine lv_goto (tgt := 34) hx hb d_PA_sumOverBounds_135 (by decide) ?_
                  exact ih34 (f + 1) _ _ _ _ _ (by omega) (by omega) hP hS hX (lv_sub hl [1, 0] rfl)
        exact loop34 13 0 pt _ _ _ _ (by omega) (by omega) hP hS hX (lv_sub hl [1, 0] rfl)
      · skip
        refine lv_aload_n hx hb d_PA_sumOverBounds_16 rfl (lv_at hl 0 rfl) ?_
        refine xw_get (v := .ref (b + 21)) hx hb hts (fun w h => mw (uw_PA w h)) hown hK hP (XS_18 hX) (by decide) rfl 2 (by decide) (hts _ (mw tb_103)) (fun _ h => h) rfl d_PA_sumOverBounds_17 ?_
        refine lv_iload_n hx hb d_PA_sumOverBounds_20 rfl (lv_at hl 1 rfl) ?_
        refine xw_aald (q := b + (191 + 2 * y)) hx hb hK hP 3 (XS_21 hX) (by decide) rfl (by omega) (by decide) rfl d_PA_sumOverBounds_21 ?_
        refine lv_iconst (v := nI 0) hx hb d_PA_sumOverBounds_22 (by decide) ?_
        have hgi3 : gid ((191 + 2 * y)) := (by unfold gid; omega)
        obtain ⟨ga3, gn3, hga3, hgb3, hgc3⟩ := XS_g hX ((191 + 2 * y)) hgi3
        rw [gv_P (by omega)] at hgc3
        refine xc_V (n := 1) (As := [.int (nI 0)]) (rest := []) (st0 := _) hx hb hml hown hts (c_GR_set l D ca b 219 _ ((191 + 2 * y)) gn3 _ ga3 0 hga3 hgb3 (by unfold gid at hgi3; omega) hgc3 (by decide)) km_GR_set tb_202 tb_178 tb_179 tb_5 (by decide +kernel) rfl rfl ⟨Nat.le_of_ble_eq_true rfl, Nat.le_of_ble_eq_true rfl⟩ hK hP hga3 (by unfold gid at hgi3; omega) rfl rfl rfl hl rfl (Nat.le_of_ble_eq_true rfl) d_PA_sumOverBounds_23 ⟨Nat.zero_le _, Nat.zero_le _⟩ hS (fun _ h => h) (fun v C H locs hp hP _ _ hS => ?_)
        obtain ⟨rfl, hG1, hG2⟩ := hp
        have hX := XS_set_gv hX hgi3 hG1 hG2
        have hX := gs_P (k := y) (by omega) hX
        refine lv_iinc (v := nI (y + 1)) (lv' := [(1, .int (nI (y + 1))), (0, .ref (b + 18))]) hx hb d_PA_sumOverBounds_26 hl (k := 1) rfl (show nI y + Int32.ofInt 1 = nI (y + 1) from nI_add _ _) (by decide) rfl (fun ls hl => ?_)
        refine lv_goto (tgt := 10) hx hb d_PA_sumOverBounds_29 (by decide) ?_
        have hX : XS ca b C wt ab be nd fr tt le mo nf tr nt nm fy fb od pa rp se im qd hm (gvOf S I (upto (y + 1) Z0 P) pt 0 fa wh st) := by rw [← upto_s y Z0 P]; exact hX
        exact ih10 (y + 1) _ _ _ _ (by omega) (by omega) hP hS hX (lv_sub hl [1, 0] rfl)
  rw [← upto_0 Z0 P] at hX
  exact loop10 13 0 _ _ _ _ (by omega) (by omega) hP hS hX (lv_sub hl [1, 0] rfl)

set_option maxHeartbeats 4000000 in
set_option maxRecDepth 100000 in
/-- the phase -/
theorem c_PA_passPhase (l : Launch) (D : va_G) (ca : Nat → ClassId) (b : Nat) (C0 : Nat → va_E) {wt : Nat → Nat → Nat} {ab : Nat → Nat} {be : Nat → Nat} {nd : Nat} {fr : Nat → Nat} {tt : Nat → Option Nat} {le : Nat → Nat} {mo : Nat → Nat} {nf : Nat → Bool} {tr : Nat → Nat} {nt : Nat} {nm : Nat} {fy : Nat → Option Nat} {fb : Nat → Option Nat} {od : Nat → Nat} {pa : Nat → Option Nat} {rp : Nat → Option Nat} {se : Nat → Bool} {im : Nat → Bool} {qd : Nat} {hm : Nat} {S : Nat → Nat → Nat} {I : Nat → Nat} {P : Nat → Nat} {pt : Nat} {ap : Nat} {fa : Nat} {wh : Nat} {st : Nat}  (hX : XS ca b C0 wt ab be nd fr tt le mo nf tr nt nm fy fb od pa rp se im qd hm (gvOf S I P pt ap fa wh st)) (hq6 : qd ≤ 6) (hhq : hm ≤ qd) (hod : ∀ j, j < qd → od j < 6) (hfb : ∀ w, w < 2 → ∀ y, fb w = some y → y < 2 ^ 31) : Met l y_PA_passPhase (k_PA_passPhase :: gw) ({ frames := 4, cells := 0, slots := 0, locals := 105 }) (xPc D ca b 219 C0 [.ref (b + 18)]) (xQ D b 219 (fun r C1 => r = none ∧ ∃ I1 P1 p1 a1, XS ca b C1 wt ab be nd fr tt le mo nf tr nt nm fy fb od pa rp se im qd hm (gvOf ((pPh od im hm qd fb I P (S, fa)).1) I1 P1 p1 a1 ((pPh od im hm qd fb I P (S, fa)).2) wh st))) 0 0 (xr b 219) := by
  refine Met.ofW (cc := b_PA_passPhase) (maxL := 4) (ret := none) (by decide) rfl ?_
  intro p e s m args below meth c s₁ B hml hv
  obtain ⟨hav, hP, hK⟩ := hv
  have hx := B.exec
  have hb := B.bytes
  have hr := B.returns
  have hts := atoms_spec (ws := k_PA_passPhase :: gw) B.pre
  have hown : s.vm.findClass R_PA = some m.cls := findClass_of_methodNamed B.named
  have hlocks := B.notSynchronized
  have hA : ∀ k, k < 219 → xr b 219 (b + k) := xr_in
  have hS : va_S (xr b 219) s.heap s.heap [] := va_S.rf
  have hl := lv_entry ([.ref (b + 18)]) (n := 4) (Nat.le_of_ble_eq_true rfl)
  rw [hav, lg_entry_eq]
  generalize (lg_sl ([.ref (b + 18)]) ++ List.replicate (4 - (lg_sl ([.ref (b + 18)])).length) Slot.unset).toArray = ls at hl ⊢
  have hl : lv_has ls 4 [(0, .ref (b + 18))] := hl
  rw [← hav]
  refine lv_iconst (v := nI 0) hx hb d_PA_passPhase_0 (by decide) ?_
  refine lv_istore_n (lv' := [(1, .int (nI 0)), (0, .ref (b + 18))]) hx hb d_PA_passPhase_1 rfl hl (by decide) rfl (fun ls hl => ?_)
  refine lv_iconst (v := (-1)) hx hb d_PA_passPhase_2 (by decide) ?_
  refine lv_istore_n (lv' := [(2, .int ((-1))), (1, .int (nI 0)), (0, .ref (b + 18))]) hx hb d_PA_passPhase_3 rfl hl (by decide) rfl (fun ls hl => ?_)
  refine lv_iconst (v := nI 0) hx hb d_PA_passPhase_4 (by decide) ?_
  refine lv_istore_n (lv' := [(3, .int (nI 0)), (2, .int ((-1))), (1, .int (nI 0)), (0, .ref (b + 18))]) hx hb d_PA_passPhase_5 rfl hl (by decide) rfl (fun ls hl => ?_)
  rw [show (-1 : Int32) = eo (mhU od im hm 0) from rfl] at hl
  have loop6 : ∀ (r : Nat) (i : Nat) (z : Bool) (C : Nat → va_E) (H : Heap) (locs : List Loc) (ls : Array Slot), qd < i + r → i ≤ qd → z = anyU od im i → va_P D classes (wl b 219 C) H → va_S (xr b 219) s.heap H locs → XS ca b C wt ab be nd fr tt le mo nf tr nt nm fy fb od pa rp se im qd hm (gvOf S I P pt ap fa wh st) → lv_has ls 4 [(0, .ref (b + 18)), (1, .int (nI z.toNat)), (2, .int (eo (mhU od im hm i))), (3, .int (nI i))] → W p l e (headSpec (k_PA_passPhase :: gw) ({ frames := 4, cells := 0, slots := 0, locals := 105 })).room s m args below meth c H locs 0 0 (MQ below (xQ D b 219 (fun r C1 => r = none ∧ ∃ I1 P1 p1 a1, XS ca b C1 wt ab be nd fr tt le mo nf tr nt nm fy fb od pa rp se im qd hm (gvOf ((pPh od im hm qd fb I P (S, fa)).1) I1 P1 p1 a1 ((pPh od im hm qd fb I P (S, fa)).2) wh st))) args s 0 0 (xr b 219)) (F0 m 6 ls []) := by
    intro r
    induction r with
    | zero => intro i z C H locs ls hms hi hz; exact absurd hms (by omega)
    | succ r ih6 =>
      intro i z C H locs ls hms hi hz hP hS hX hl
      refine lv_iload_n hx hb d_PA_passPhase_6 rfl (lv_at hl 3 rfl) ?_
      refine lv_aload_n hx hb d_PA_passPhase_7 rfl (lv_at hl 0 rfl) ?_
      refine xw_get (v := .int (nI qd)) hx hb hts (fun w h => mw (uw_PA w h)) hown hK hP (XS_18 hX) (by decide) rfl 13 (by decide) (hts _ (mw tb_114)) (fun _ h => h) rfl d_PA_passPhase_8 ?_
      refine xi_ge (tgt := 55) hx hb d_PA_passPhase_11 (by decide) (by omega) (by omega) (fun h11 => ?_) (fun h11 => ?_)
      · skip
        have ei : i = qd := by omega
        rw [ei] at hl hz
        refine lv_iload_n hx hb d_PA_passPhase_55 rfl (lv_at hl 1 rfl) ?_
        refine xz_ne (tgt := 60) hx hb d_PA_passPhase_56 (by decide) (tn31 _) (fun h56 => ?_) (fun h56 => ?_)
        · skip
          refine lv_aload_n hx hb d_PA_passPhase_60 rfl (lv_at hl 0 rfl) ?_
          refine xc_V (n := 0) (As := []) (rest := []) (st0 := _) hx hb hml hown hts (c_PA_sumOverBounds l D ca b _  hX hq6 hhq hod hfb) km_PA_sumOverBounds tb_270 tb_272 tps_9 tb_4 (by decide +kernel) rfl rfl ⟨Nat.le_of_ble_eq_true rfl, Nat.le_of_ble_eq_true rfl⟩ hK hP (XS_18 hX) (by decide) rfl rfl rfl hl rfl (Nat.le_of_ble_eq_true rfl) d_PA_passPhase_61 ⟨Nat.zero_le _, Nat.zero_le _⟩ hS (fun _ h => h) (fun v C H locs hp hP _ _ hS => ?_)
          obtain ⟨rfl, p1, hX⟩ := hp
          refine lv_iload_n hx hb d_PA_passPhase_64 rfl (lv_at hl 2 rfl) ?_
          refine lv_iconst (v := (-1)) hx hb d_PA_passPhase_65 (by decide) ?_
          refine xo_ne (tgt := 81) hx hb d_PA_passPhase_66 (by decide) (fun z hz => by have := mhU_lt (im := im) (hm := hm) hod qd (Nat.le_refl _) z hz; omega) (fun d66 h66 => ?_) (fun h66 => ?_)
          · skip
            have hd6 := mhU_lt (im := im) (hm := hm) hod qd (Nat.le_refl _) _ h66
            refine lv_iconst (v := nI 0) hx hb d_PA_passPhase_81 (by decide) ?_
            refine lv_istore_n (lv' := [(3, .int (nI 0)), (0, .ref (b + 18)), (1, .int (nI z.toNat)), (2, .int (eo (mhU od im hm qd)))]) hx hb d_PA_passPhase_82 rfl hl (by decide) rfl (fun ls hl => ?_)
            have loop83 : ∀ (r : Nat) (y : Nat) (C : Nat → va_E) (H : Heap) (locs : List Loc) (ls : Array Slot), 12 < y + r → y ≤ 12 → va_P D classes (wl b 219 C) H → va_S (xr b 219) s.heap H locs → XS ca b C wt ab be nd fr tt le mo nf tr nt nm fy fb od pa rp se im qd hm (gvOf (rowS S d66 y (fun y => S d66 y * (sBo od im S hm (qd - hm) fb (I, upto 12 Z0 P, 0) 12).2.1 y)) ((sBo od im S hm (qd - hm) fb (I, upto 12 Z0 P, 0) 12).1) ((sBo od im S hm (qd - hm) fb (I, upto 12 Z0 P, 0) 12).2.1) p1 ((sBo od im S hm (qd - hm) fb (I, upto 12 Z0 P, 0) 12).2.2) fa wh st) → lv_has ls 4 [(0, .ref (b + 18)), (2, .int (eo (mhU od im hm qd))), (3, .int (nI y))] → W p l e (headSpec (k_PA_passPhase :: gw) ({ frames := 4, cells := 0, slots := 0, locals := 105 })).room s m args below meth c H locs 0 0 (MQ below (xQ D b 219 (fun r C1 => r = none ∧ ∃ I1 P1 p1 a1, XS ca b C1 wt ab be nd fr tt le mo nf tr nt nm fy fb od pa rp se im qd hm (gvOf ((pPh od im hm qd fb I P (S, fa)).1) I1 P1 p1 a1 ((pPh od im hm qd fb I P (S, fa)).2) wh st))) args s 0 0 (xr b 219)) (F0 m 83 ls []) := by
              intro r
              induction r with
              | zero => intro y C H locs ls hms hy; exact absurd hms (by omega)
              | succ r ih83 =>
                intro y C H locs ls hms hy hP hS hX hl
                refine lv_iload_n hx hb d_PA_passPhase_83 rfl (lv_at hl 2 rfl) ?_
                refine lv_bipush (v := nI 12) hx hb d_PA_passPhase_84 (by decide) ?_
                refine xi_ge (tgt := 110) hx hb d_PA_passPhase_86 (by decide) (by omega) (by omega) (fun h86 => ?_) (fun h86 => ?_)
                · skip
                  have ey : y = 12 := by omega
                  rw [ey] at hX
                  exact xw_vret hx hb hr hlocks hP hS ⟨rfl, _, _, _, _, by rw [pPh, if_pos (by rw [← hz]; exact bt h56), h66]; exact hX⟩ d_PA_passPhase_110
                · skip
                  refine lv_aload_n hx hb d_PA_passPhase_89 rfl (lv_at hl 0 rfl) ?_
                  refine lv_iload_n hx hb d_PA_passPhase_90 rfl (lv_at hl 1 rfl) ?_
                  refine ti (nI d66) (by rw [h66]; rfl) ?_
                  refine lv_iload_n hx hb d_PA_passPhase_91 rfl (lv_at hl 2 rfl) ?_
                  refine xc_V (n := 2) (As := [.int (nI d66), .int (nI y)]) (rest := []) (st0 := _) hx hb hml hown hts (c_PA_sumAt l D ca b _ d66 y hX (by omega) (by omega)) km_PA_sumAt tb_194 tb_195 tb_196 tb_4 (by decide +kernel) rfl rfl ⟨Nat.le_of_ble_eq_true rfl, Nat.le_of_ble_eq_true rfl⟩ hK hP (XS_18 hX) (by decide) rfl rfl rfl hl rfl (Nat.le_of_ble_eq_true rfl) d_PA_passPhase_92 ⟨Nat.zero_le _, Nat.zero_le _⟩ hS (fun _ h => h) (fun v C H locs hp hP _ _ hS => ?_)
                  obtain ⟨rfl, hX⟩ := hp
                  refine lv_aload_n hx hb d_PA_passPhase_95 rfl (lv_at hl 0 rfl) ?_
                  refine xw_get (v := .ref (b + 21)) hx hb hts (fun w h => mw (uw_PA w h)) hown hK hP (XS_18 hX) (by decide) rfl 2 (by decide) (hts _ (mw tb_103)) (fun _ h => h) rfl d_PA_passPhase_96 ?_
                  refine lv_iload_n hx hb d_PA_passPhase_99 rfl (lv_at hl 2 rfl) ?_
                  refine xw_aald (q := b + (191 + 2 * y)) hx hb hK hP 3 (XS_21 hX) (by decide) rfl (by omega) (by decide) rfl d_PA_passPhase_100 ?_
                  have hgi1 : gid ((35 + 2 * (d66 * 12 + y))) := (by unfold gid; omega)
                  obtain ⟨ga1, gn1, hga1, hgb1, hgc1⟩ := XS_g hX ((35 + 2 * (d66 * 12 + y))) hgi1
                  rw [gv_S (by omega) (by omega)] at hgc1
                  have hoi1 : gid ((191 + 2 * y)) := (by unfold gid; omega)
                  obtain ⟨oa1, on1, hoa1, hob1, hoc1⟩ := XS_g hX ((191 + 2 * y)) hoi1
                  rw [gv_P (by omega)] at hoc1
                  have hne1 : ((35 + 2 * (d66 * 12 + y))) ≠ ((191 + 2 * y)) := by omega
                  refine xc_V (n := 1) (As := [.ref (b + (191 + 2 * y))]) (rest := []) (st0 := _) hx hb hml hown hts (c_GR_multiply l D ca b 219 _ ((35 + 2 * (d66 * 12 + y))) ((191 + 2 * y)) gn1 _ on1 _ ga1 oa1 hga1 hgb1 hoa1 hob1 (by unfold gid at hgi1; omega) (by unfold gid at hoi1; omega) ⟨hne1, by unfold gid at hgi1 hoi1; omega, by unfold gid at hgi1 hoi1; omega⟩ hgc1 hoc1) km_GR_multiply tb_258 tb_259 tb_260 tb_5 (by decide +kernel) rfl rfl ⟨Nat.le_of_ble_eq_true rfl, Nat.le_of_ble_eq_true rfl⟩ hK hP hga1 (by unfold gid at hgi1; omega) rfl rfl rfl hl rfl (Nat.le_of_ble_eq_true rfl) d_PA_passPhase_101 ⟨Nat.zero_le _, Nat.zero_le _⟩ hS (fun _ h => h) (fun v C H locs hp hP _ _ hS => ?_)
                  obtain ⟨rfl, hG1, hG2⟩ := hp
                  have hX := XS_set_gv hX hgi1 hG1 hG2
                  have hX := gs_S (d := d66) (y := y) (by omega) (by omega) hX
                  refine lv_iinc (v := nI (y + 1)) (lv' := [(3, .int (nI (y + 1))), (0, .ref (b + 18)), (2, .int (eo (mhU od im hm qd)))]) hx hb d_PA_passPhase_104 hl (k := 2) rfl (show nI y + Int32.ofInt 1 = nI (y + 1) from nI_add _ _) (by decide) rfl (fun ls hl => ?_)
                  refine lv_goto (tgt := 83) hx hb d_PA_passPhase_107 (by decide) ?_
                  rw [rowS_at (Nat.le_refl y)] at hX
                  have hX : XS ca b C wt ab be nd fr tt le mo nf tr nt nm fy fb od pa rp se im qd hm (gvOf (rowS S d66 (y + 1) (fun y => S d66 y * (sBo od im S hm (qd - hm) fb (I, upto 12 Z0 P, 0) 12).2.1 y)) ((sBo od im S hm (qd - hm) fb (I, upto 12 Z0 P, 0) 12).1) ((sBo od im S hm (qd - hm) fb (I, upto 12 Z0 P, 0) 12).2.1) p1 ((sBo od im S hm (qd - hm) fb (I, upto 12 Z0 P, 0) 12).2.2) fa wh st) := by rw [← rowS_s S d66 y (fun y => S d66 y * (sBo od im S hm (qd - hm) fb (I, upto 12 Z0 P, 0) 12).2.1 y)]; exact hX
                  exact ih83 (y + 1) _ _ _ _ (by omega) (by omega) hP hS hX (lv_sub hl [1, 2, 0] rfl)
            have hX : XS ca b C wt ab be nd fr tt le mo nf tr nt nm fy fb od pa rp se im qd hm (gvOf (rowS S d66 0 (fun y => S d66 y * (sBo od im S hm (qd - hm) fb (I, upto 12 Z0 P, 0) 12).2.1 y)) ((sBo od im S hm (qd - hm) fb (I, upto 12 Z0 P, 0) 12).1) ((sBo od im S hm (qd - hm) fb (I, upto 12 Z0 P, 0) 12).2.1) p1 ((sBo od im S hm (qd - hm) fb (I, upto 12 Z0 P, 0) 12).2.2) fa wh st) := by rw [rowS_0]; exact hX
            exact loop83 13 0 _ _ _ _ (by omega) (by omega) hP hS hX (lv_sub hl [1, 3, 0] rfl)
          · skip
            refine lv_aload_n hx hb d_PA_passPhase_69 rfl (lv_at hl 0 rfl) ?_
            refine xw_get (v := .ref (b + 26)) hx hb hts (fun w h => mw (uw_PA w h)) hown hK hP (XS_18 hX) (by decide) rfl 5 (by decide) (hts _ (mw tb_106)) (fun _ h => h) rfl d_PA_passPhase_70 ?_
            refine lv_aload_n hx hb d_PA_passPhase_73 rfl (lv_at hl 0 rfl) ?_
            refine xw_get (v := .ref (b + 24)) hx hb hts (fun w h => mw (uw_PA w h)) hown hK hP (XS_18 hX) (by decide) rfl 4 (by decide) (hts _ (mw tb_105)) (fun _ h => h) rfl d_PA_passPhase_74 ?_
            have hgi2 : gid 26 := (by unfold gid; decide)
            obtain ⟨ga2, gn2, hga2, hgb2, hgc2⟩ := XS_g hX 26 hgi2
            rw [gv_fa] at hgc2
            have hoi2 : gid 24 := (by unfold gid; decide)
            obtain ⟨oa2, on2, hoa2, hob2, hoc2⟩ := XS_g hX 24 hoi2
            rw [gv_ap] at hoc2
            have hne2 : 26 ≠ 24 := by omega
            refine xc_V (n := 1) (As := [.ref (b + 24)]) (rest := []) (st0 := _) hx hb hml hown hts (c_GR_multiply l D ca b 219 _ 26 24 gn2 _ on2 _ ga2 oa2 hga2 hgb2 hoa2 hob2 (by unfold gid at hgi2; omega) (by unfold gid at hoi2; omega) ⟨hne2, by unfold gid at hgi2 hoi2; omega, by unfold gid at hgi2 hoi2; omega⟩ hgc2 hoc2) km_GR_multiply tb_258 tb_259 tb_260 tb_5 (by decide +kernel) rfl rfl ⟨Nat.le_of_ble_eq_true rfl, Nat.le_of_ble_eq_true rfl⟩ hK hP hga2 (by unfold gid at hgi2; omega) rfl rfl rfl hl rfl (Nat.le_of_ble_eq_true rfl) d_PA_passPhase_77 ⟨Nat.zero_le _, Nat.zero_le _⟩ hS (fun _ h => h) (fun v C H locs hp hP _ _ hS => ?_)
            obtain ⟨rfl, hG1, hG2⟩ := hp
            have hX := XS_set_gv hX hgi2 hG1 hG2
            have hX := gs_fa hX
            exact xw_vret hx hb hr hlocks hP hS ⟨rfl, _, _, _, _, by rw [pPh, if_pos (by rw [← hz]; exact bt h56), h66]; exact hX⟩ d_PA_passPhase_80
        · skip
          exact xw_vret hx hb hr hlocks hP hS ⟨rfl, _, _, _, _, by rw [pPh, if_neg (by rw [← hz, bf h56]; simp)]; exact hX⟩ d_PA_passPhase_59
      · skip
        refine lv_aload_n hx hb d_PA_passPhase_14 rfl (lv_at hl 0 rfl) ?_
        refine xw_get (v := .ref (b + 34)) hx hb hts (fun w h => mw (uw_PA w h)) hown hK hP (XS_18 hX) (by decide) rfl 12 (by decide) (hts _ (mw tb_113)) (fun _ h => h) rfl d_PA_passPhase_15 ?_
        refine lv_aload_n hx hb d_PA_passPhase_18 rfl (lv_at hl 0 rfl) ?_
        refine xw_get (v := .ref (b + 30)) hx hb hts (fun w h => mw (uw_PA w h)) hown hK hP (XS_18 hX) (by decide) rfl 8 (by decide) (hts _ (mw tb_109)) (fun _ h => h) rfl d_PA_passPhase_19 ?_
        refine lv_iload_n hx hb d_PA_passPhase_22 rfl (lv_at hl 3 rfl) ?_
        refine xw_iald hx hb hK hP 0 (XS_30 hX) (by decide) rfl (by omega) (by decide) d_PA_passPhase_23 ?_
        refine xw_zald hx hb hK hP 2 (XS_34 hX) (by decide) rfl (hod i h11) (by decide) d_PA_passPhase_24 ?_
        refine xz_eq (tgt := 49) hx hb d_PA_passPhase_25 (by decide) (tn31 _) (fun h25 => ?_) (fun h25 => ?_)
        · skip
          rw [← mhU_f (hm := hm) (bf h25)] at hl
          refine lv_iinc (v := nI (i + 1)) (lv' := [(3, .int (nI (i + 1))), (0, .ref (b + 18)), (1, .int (nI z.toNat)), (2, .int (eo (mhU od im hm (i + 1))))]) hx hb d_PA_passPhase_49 hl (k := 3) rfl (show nI i + Int32.ofInt 1 = nI (i + 1) from nI_add _ _) (by decide) rfl (fun ls hl => ?_)
          refine lv_goto (tgt := 6) hx hb d_PA_passPhase_52 (by decide) ?_
          exact ih6 (i + 1) z _ _ _ _ (by omega) (by omega) (by rw [anyU_f (bf h25)]; exact hz) hP hS hX (lv_sub hl [1, 2, 3, 0] rfl)
        · skip
          refine lv_iconst (v := nI 1) hx hb d_PA_passPhase_28 (by decide) ?_
          refine lv_istore_n (lv' := [(1, .int (nI 1)), (0, .ref (b + 18)), (2, .int (eo (mhU od im hm i))), (3, .int (nI i))]) hx hb d_PA_passPhase_29 rfl hl (by decide) rfl (fun ls hl => ?_)
          refine lv_iload_n hx hb d_PA_passPhase_30 rfl (lv_at hl 3 rfl) ?_
          refine lv_aload_n hx hb d_PA_passPhase_31 rfl (lv_at hl 1 rfl) ?_
          refine xw_get (v := .int (nI hm)) hx hb hts (fun w h => mw (uw_PA w h)) hown hK hP (XS_18 hX) (by decide) rfl 14 (by decide) (hts _ (mw tb_115)) (fun _ h => h) rfl d_PA_passPhase_32 ?_
          refine xi_ge (tgt := 47) hx hb d_PA_passPhase_35 (by decide) (by omega) (by omega) (fun h35 => ?_) (fun h35 => ?_)
          · skip
            refine lv_iload_n hx hb d_PA_passPhase_47 rfl (lv_at hl 2 rfl) ?_
            refine ti (eo (mhU od im hm (i + 1))) (by rw [mhU_o (bt h25) (by omega)]) ?_
            refine lv_istore_n (lv' := [(2, .int (eo (mhU od im hm (i + 1)))), (1, .int (nI 1)), (0, .ref (b + 18)), (3, .int (nI i))]) hx hb d_PA_passPhase_48 rfl hl (by decide) rfl (fun ls hl => ?_)
            refine lv_iinc (v := nI (i + 1)) (lv' := [(3, .int (nI (i + 1))), (2, .int (eo (mhU od im hm (i + 1)))), (1, .int (nI 1)), (0, .ref (b + 18))]) hx hb d_PA_passPhase_49 hl (k := 3) rfl (show nI i + Int32.ofInt 1 = nI (i + 1) from nI_add _ _) (by decide) rfl (fun ls hl => ?_)
            refine lv_goto (tgt := 6) hx hb d_PA_passPhase_52 (by decide) ?_
            exact ih6 (i + 1) true _ _ _ _ (by omega) (by omega) (by rw [anyU_t (bt h25)]) hP hS hX (lv_sub hl [3, 2, 1, 0] rfl)
          · skip
            refine lv_aload_n hx hb d_PA_passPhase_38 rfl (lv_at hl 1 rfl) ?_
            refine xw_get (v := .ref (b + 30)) hx hb hts (fun w h => mw (uw_PA w h)) hown hK hP (XS_18 hX) (by decide) rfl 8 (by decide) (hts _ (mw tb_109)) (fun _ h => h) rfl d_PA_passPhase_39 ?_
            refine lv_iload_n hx hb d_PA_passPhase_42 rfl (lv_at hl 3 rfl) ?_
            refine xw_iald hx hb hK hP 0 (XS_30 hX) (by decide) rfl (by omega) (by decide) d_PA_passPhase_43 ?_
            refine lv_goto (tgt := 48) hx hb d_PA_passPhase_44 (by decide) ?_
            refine ti (eo (mhU od im hm (i + 1))) (by rw [mhU_h (bt h25) (by omega)]; rfl) ?_
            refine lv_istore_n (lv' := [(2, .int (eo (mhU od im hm (i + 1)))), (1, .int (nI 1)), (0, .ref (b + 18)), (3, .int (nI i))]) hx hb d_PA_passPhase_48 rfl hl (by decide) rfl (fun ls hl => ?_)
            refine lv_iinc (v := nI (i + 1)) (lv' := [(3, .int (nI (i + 1))), (2, .int (eo (mhU od im hm (i + 1)))), (1, .int (nI 1)), (0, .ref (b + 18))]) hx hb d_PA_passPhase_49 hl (k := 3) rfl (show nI i + Int32.ofInt 1 = nI (i + 1) from nI_add _ _) (by decide) rfl (fun ls hl => ?_)
            refine lv_goto (tgt := 6) hx hb d_PA_passPhase_52 (by decide) ?_
            exact ih6 (i + 1) true _ _ _ _ (by omega) (by omega) (by rw [anyU_t (bt h25)]) hP hS hX (lv_sub hl [3, 2, 1, 0] rfl)
  exact loop6 (qd + 1) 0 false _ _ _ _ (by omega) (by omega) rfl hP hS hX (lv_sub hl [3, 2, 1, 0] rfl)

