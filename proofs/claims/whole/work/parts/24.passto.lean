/-! Passing: passTo -/
/-- the dates at the places lo + n - 1 down to lo hand on -/
def hDn (fr le mo : Nat → Nat) (pa rp : Nat → Option Nat) (im : Nat → Bool) (od : Nat → Nat) (lo : Nat) : Nat → (Nat → Nat → Nat) × Nat → (Nat → Nat → Nat) × Nat
  | 0, q => q
  | n + 1, q => hDn fr le mo pa rp im od lo n (hdO fr le mo pa rp im (od (lo + n)) q)
/-- every date with a parent has a row to it -/
def KPA (fr : Nat → Nat) (nt : Nat) (k : KQ) : Prop := ∀ j, j < k.2.2.2.2 → ∀ u, k.2.1 (k.2.2.2.1 j) = some u → u < 6 ∧ k.2.2.2.1 j ≠ u ∧ ∃ i, k.2.2.1 (k.2.2.2.1 j) = some i ∧ i < nt
def ROK (fr : Nat → Nat) (le mo : Nat → Nat) (nt : Nat) : Prop := nt ≤ 6 ∧ ∀ i, i < nt → fr i < 6 ∧ le i < 12 ∧ mo i < 12
/-- the sums towards a date, step by step -/
noncomputable def pT1 (fr le mo : Nat → Nat) (im : Nat → Bool) (k : KQ) (hm : Nat) (S : Nat → Nat → Nat) : (Nat → Nat → Nat) × Nat := hDn fr le mo k.2.1 k.2.2.1 im k.2.2.2.1 hm (k.2.2.2.2 - hm) (S, 1)
noncomputable def pT2 (fr le mo : Nat → Nat) (im : Nat → Bool) (k : KQ) (hm : Nat) (fb : Nat → Option Nat) (I P : Nat → Nat) (S : Nat → Nat → Nat) : (Nat → Nat → Nat) × Nat := pPh k.2.2.2.1 im hm k.2.2.2.2 fb I P (pT1 fr le mo im k hm S)
noncomputable def pT3 (fr le mo : Nat → Nat) (im : Nat → Bool) (k : KQ) (hm : Nat) (fb : Nat → Option Nat) (I P : Nat → Nat) (S : Nat → Nat → Nat) : (Nat → Nat → Nat) × Nat := hDn fr le mo k.2.1 k.2.2.1 im k.2.2.2.1 1 (hm - 1) (pT2 fr le mo im k hm fb I P S)
set_option maxHeartbeats 4000000 in
set_option maxRecDepth 100000 in
/-- the sums are passed to a date -/
theorem c_PA_passTo (l : Launch) (D : va_G) (ca : Nat → ClassId) (b : Nat) (C0 : Nat → va_E) {wt : Nat → Nat → Nat} {ab : Nat → Nat} {be : Nat → Nat} {nd : Nat} {fr : Nat → Nat} {tt : Nat → Option Nat} {le : Nat → Nat} {mo : Nat → Nat} {nf : Nat → Bool} {tr : Nat → Nat} {nt : Nat} {nm : Nat} {fy : Nat → Option Nat} {fb : Nat → Option Nat} {im : Nat → Bool} {hm : Nat} {S : Nat → Nat → Nat} {I : Nat → Nat} {P : Nat → Nat} {pt : Nat} {ap : Nat} {fa : Nat} {wh : Nat} {st : Nat} (k : KQ) (x : Nat) (hX : XS ca b C0 wt ab be nd fr tt le mo nf tr nt nm fy fb k.2.2.2.1 k.2.1 k.2.2.1 k.1 im k.2.2.2.2 hm (gvOf S I P pt ap fa wh st)) (hT : TOK fr tt nt) (hD : DOK wt ab be nd) (hR : ROK fr le mo nt) (hx6 : x < nd) (hfy : ∀ d, d < nd → ∀ y, fy d = some y → y < 2 ^ 31) (hfb : ∀ w, w < 2 → ∀ y, fb w = some y → y < 2 ^ 31) (hKP : KPA fr nt (ordK fr tt nf nt k x nd)) (hH1 : 1 ≤ (ordH fr tt nf nt k x).2.2.2.2) (hHq : (ordH fr tt nf nt k x).2.2.2.2 ≤ (ordK fr tt nf nt k x nd).2.2.2.2) : Met l y_PA_passTo (k_PA_passTo :: gw) ({ frames := 5, cells := 0, slots := 0, locals := 128 }) (xPc D ca b 219 C0 [.ref (b + 18), .int (nI x), .ref (b + 1), .ref (b + 11)]) (xQ D b 219 (fun r C1 => r = none ∧ ∃ f1 I1 P1 p1 a1, XS ca b C1 wt ab be nd fr tt le mo nf tr nt nm (clrO 6 fy) (clrO 2 fb) ((ordK fr tt nf nt k x nd).2.2.2.1) ((ordK fr tt nf nt k x nd).2.1) ((ordK fr tt nf nt k x nd).2.2.1) ((ordK fr tt nf nt k x nd).1) (imU fr tt nf im nt) ((ordK fr tt nf nt k x nd).2.2.2.2) ((ordH fr tt nf nt k x).2.2.2.2) (gvOf (rowS (pT3 fr le mo (imU fr tt nf im nt) (ordK fr tt nf nt k x nd) (ordH fr tt nf nt k x).2.2.2.2 fb I P (stS wt ab be fy S nd)).1 x 12 (fun y => (pT3 fr le mo (imU fr tt nf im nt) (ordK fr tt nf nt k x nd) (ordH fr tt nf nt k x).2.2.2.2 fb I P (stS wt ab be fy S nd)).1 x y * (pT3 fr le mo (imU fr tt nf im nt) (ordK fr tt nf nt k x nd) (ordH fr tt nf nt k x).2.2.2.2 fb I P (stS wt ab be fy S nd)).2)) I1 P1 p1 a1 f1 wh st))) 0 0 (xr b 219) := by
  refine Met.ofW (cc := b_PA_passTo) (maxL := 5) (ret := none) (by decide) rfl ?_
  intro p e s m args below meth c s₁ B hml hv
  obtain ⟨hav, hP, hK⟩ := hv
  have hx := B.exec
  have hb := B.bytes
  have hr := B.returns
  have hts := atoms_spec (ws := k_PA_passTo :: gw) B.pre
  have hown : s.vm.findClass R_PA = some m.cls := findClass_of_methodNamed B.named
  have hlocks := B.notSynchronized
  have hA : ∀ k, k < 219 → xr b 219 (b + k) := xr_in
  have hS : va_S (xr b 219) s.heap s.heap [] := va_S.rf
  have hl := lv_entry ([.ref (b + 18), .int (nI x), .ref (b + 1), .ref (b + 11)]) (n := 5) (Nat.le_of_ble_eq_true rfl)
  rw [hav, lg_entry_eq]
  generalize (lg_sl ([.ref (b + 18), .int (nI x), .ref (b + 1), .ref (b + 11)]) ++ List.replicate (5 - (lg_sl ([.ref (b + 18), .int (nI x), .ref (b + 1), .ref (b + 11)])).length) Slot.unset).toArray = ls at hl ⊢
  have hl : lv_has ls 5 [(0, .ref (b + 18)), (1, .int (nI x)), (2, .ref (b + 1)), (3, .ref (b + 11))] := hl
  rw [← hav]
  have hD6 := hD.1
  have hT6 := hT.1
  have hKO : KOK (ordK fr tt nf nt k x nd) := KOK_ordK hT (by omega) hD.1
  have hq6 := hKO.1
  refine lv_aload_n hx hb d_PA_passTo_0 rfl (lv_at hl 0 rfl) ?_
  refine lv_aload_n hx hb d_PA_passTo_1 rfl (lv_at hl 2 rfl) ?_
  refine xc_V (n := 1) (As := [.ref (b + 1)]) (rest := []) (st0 := _) hx hb hml hown hts (c_PA_startSums l D ca b _  hX hD hfy) km_PA_startSums tb_185 tb_187 tps_1 tb_4 (by decide +kernel) rfl rfl ⟨Nat.le_of_ble_eq_true rfl, Nat.le_of_ble_eq_true rfl⟩ hK hP (XS_18 hX) (by decide) rfl rfl rfl hl rfl (Nat.le_of_ble_eq_true rfl) d_PA_passTo_2 ⟨Nat.zero_le _, Nat.zero_le _⟩ hS (fun _ h => h) (fun v C H locs hp hP _ _ hS => ?_)
  obtain ⟨rfl, hX⟩ := hp
  refine lv_aload_n hx hb d_PA_passTo_5 rfl (lv_at hl 0 rfl) ?_
  refine lv_iload_n hx hb d_PA_passTo_6 rfl (lv_at hl 1 rfl) ?_
  refine lv_aload_n hx hb d_PA_passTo_7 rfl (lv_at hl 2 rfl) ?_
  refine xc_V (n := 0) (As := []) (rest := [.int (nI x), .ref (b + 18)]) (st0 := _) hx hb hml hown hts (c_DA_number l D ca b _  hX ) km_DA_number tb_189 tb_174 tb_175 tb_2 (by decide +kernel) rfl rfl ⟨Nat.le_of_ble_eq_true rfl, Nat.le_of_ble_eq_true rfl⟩ hK hP (XS_1 hX) (by decide) rfl rfl rfl hl rfl (Nat.le_of_ble_eq_true rfl) d_PA_passTo_8 ⟨Nat.zero_le _, Nat.zero_le _⟩ hS (fun _ h => h) (fun v C H locs hp hP _ _ hS => ?_)
  obtain ⟨rfl, hX⟩ := hp
  refine lv_aload_n hx hb d_PA_passTo_11 rfl (lv_at hl 3 rfl) ?_
  refine xc_V (n := 3) (As := [.int (nI x), .int (nI nd), .ref (b + 11)]) (rest := []) (st0 := _) hx hb hml hown hts (c_PA_orderDates l D ca b _ k x nd hX hT (by omega) hD.1) km_PA_orderDates tb_203 tb_205 tps_2 tb_4 (by decide +kernel) rfl rfl ⟨Nat.le_of_ble_eq_true rfl, Nat.le_of_ble_eq_true rfl⟩ hK hP (XS_18 hX) (by decide) rfl rfl rfl hl rfl (Nat.le_of_ble_eq_true rfl) d_PA_passTo_12 ⟨Nat.zero_le _, Nat.zero_le _⟩ hS (fun _ h => h) (fun v C H locs hp hP _ _ hS => ?_)
  obtain ⟨rfl, hX⟩ := hp
  refine lv_aload_n hx hb d_PA_passTo_15 rfl (lv_at hl 0 rfl) ?_
  refine xw_get (v := .ref (b + 26)) hx hb hts (fun w h => mw (uw_PA w h)) hown hK hP (XS_18 hX) (by decide) rfl 5 (by decide) (hts _ (mw tb_106)) (fun _ h => h) rfl d_PA_passTo_16 ?_
  refine lv_iconst (v := nI 1) hx hb d_PA_passTo_19 (by decide) ?_
  have hgi1 : gid 26 := (by unfold gid; decide)
  obtain ⟨ga1, gn1, hga1, hgb1, hgc1⟩ := XS_g hX 26 hgi1
  rw [gv_fa] at hgc1
  refine xc_V (n := 1) (As := [.int (nI 1)]) (rest := []) (st0 := _) hx hb hml hown hts (c_GR_set l D ca b 219 _ 26 gn1 _ ga1 1 hga1 hgb1 (by unfold gid at hgi1; omega) hgc1 (by decide)) km_GR_set tb_202 tb_178 tb_179 tb_5 (by decide +kernel) rfl rfl ⟨Nat.le_of_ble_eq_true rfl, Nat.le_of_ble_eq_true rfl⟩ hK hP hga1 (by unfold gid at hgi1; omega) rfl rfl rfl hl rfl (Nat.le_of_ble_eq_true rfl) d_PA_passTo_20 ⟨Nat.zero_le _, Nat.zero_le _⟩ hS (fun _ h => h) (fun v C H locs hp hP _ _ hS => ?_)
  obtain ⟨rfl, hG1, hG2⟩ := hp
  have hX := XS_set_gv hX hgi1 hG1 hG2
  have hX := gs_fa hX
  refine lv_aload_n hx hb d_PA_passTo_23 rfl (lv_at hl 0 rfl) ?_
  refine xw_get (v := .int (nI ((ordK fr tt nf nt k x nd).2.2.2.2))) hx hb hts (fun w h => mw (uw_PA w h)) hown hK hP (XS_18 hX) (by decide) rfl 13 (by decide) (hts _ (mw tb_114)) (fun _ h => h) rfl d_PA_passTo_24 ?_
  refine lv_iconst (v := nI 1) hx hb d_PA_passTo_27 (by decide) ?_
  refine lv_isub hx hb d_PA_passTo_28 ?_
  refine lv_istore (lv' := [(4, .int (((nI ((ordK fr tt nf nt k x nd).2.2.2.2)) - (nI 1)))), (0, .ref (b + 18)), (1, .int (nI x)), (2, .ref (b + 1)), (3, .ref (b + 11))]) hx hb d_PA_passTo_29 hl (by decide) rfl (fun ls hl => ?_)
  have loop31 : ∀ (r : Nat) (n : Nat) (q : (Nat → Nat → Nat) × Nat) (p0 : Nat) (C : Nat → va_E) (H : Heap) (locs : List Loc) (ls : Array Slot), n < r → n ≤ (ordK fr tt nf nt k x nd).2.2.2.2 - (ordH fr tt nf nt k x).2.2.2.2 → pT1 fr le mo (imU fr tt nf im nt) (ordK fr tt nf nt k x nd) (ordH fr tt nf nt k x).2.2.2.2 (stS wt ab be fy S nd) = hDn fr le mo (ordK fr tt nf nt k x nd).2.1 (ordK fr tt nf nt k x nd).2.2.1 (imU fr tt nf im nt) (ordK fr tt nf nt k x nd).2.2.2.1 (ordH fr tt nf nt k x).2.2.2.2 n q → va_P D classes (wl b 219 C) H → va_S (xr b 219) s.heap H locs → XS ca b C wt ab be nd fr tt le mo nf tr nt nm fy fb ((ordK fr tt nf nt k x nd).2.2.2.1) ((ordK fr tt nf nt k x nd).2.1) ((ordK fr tt nf nt k x nd).2.2.1) ((ordK fr tt nf nt k x nd).1) (imU fr tt nf im nt) ((ordK fr tt nf nt k x nd).2.2.2.2) ((ordH fr tt nf nt k x).2.2.2.2) (gvOf q.1 I P p0 ap q.2 wh st) → lv_has ls 5 [(0, .ref (b + 18)), (1, .int (nI x)), (2, .ref (b + 1)), (3, .ref (b + 11)), (4, .int ((nI ((ordH fr tt nf nt k x).2.2.2.2 + n) - nI 1)))] → W p l e (headSpec (k_PA_passTo :: gw) ({ frames := 5, cells := 0, slots := 0, locals := 128 })).room s m args below meth c H locs 0 0 (MQ below (xQ D b 219 (fun r C1 => r = none ∧ ∃ f1 I1 P1 p1 a1, XS ca b C1 wt ab be nd fr tt le mo nf tr nt nm (clrO 6 fy) (clrO 2 fb) ((ordK fr tt nf nt k x nd).2.2.2.1) ((ordK fr tt nf nt k x nd).2.1) ((ordK fr tt nf nt k x nd).2.2.1) ((ordK fr tt nf nt k x nd).1) (imU fr tt nf im nt) ((ordK fr tt nf nt k x nd).2.2.2.2) ((ordH fr tt nf nt k x).2.2.2.2) (gvOf (rowS (pT3 fr le mo (imU fr tt nf im nt) (ordK fr tt nf nt k x nd) (ordH fr tt nf nt k x).2.2.2.2 fb I P (stS wt ab be fy S nd)).1 x 12 (fun y => (pT3 fr le mo (imU fr tt nf im nt) (ordK fr tt nf nt k x nd) (ordH fr tt nf nt k x).2.2.2.2 fb I P (stS wt ab be fy S nd)).1 x y * (pT3 fr le mo (imU fr tt nf im nt) (ordK fr tt nf nt k x nd) (ordH fr tt nf nt k x).2.2.2.2 fb I P (stS wt ab be fy S nd)).2)) I1 P1 p1 a1 f1 wh st))) args s 0 0 (xr b 219)) (F0 m 31 ls []) := by
    intro r
    induction r with
    | zero => intro n q p0 C H locs ls hms hn hI; exact absurd hms (by omega)
    | succ r ih31 =>
      intro n q p0 C H locs ls hms hn hI hP hS hX hl
      refine lv_iload hx hb d_PA_passTo_31 (lv_at hl 4 rfl) ?_
      refine lv_aload_n hx hb d_PA_passTo_33 rfl (lv_at hl 0 rfl) ?_
      refine xw_get (v := .int (nI ((ordH fr tt nf nt k x).2.2.2.2))) hx hb hts (fun w h => mw (uw_PA w h)) hown hK hP (XS_18 hX) (by decide) rfl 14 (by decide) (hts _ (mw tb_115)) (fun _ h => h) rfl d_PA_passTo_34 ?_
      refine lv_icmp_lt (tgt := 58) hx hb d_PA_passTo_37 (by decide) (fun h37 => ?_) (fun h37 => ?_)
      · skip
        have hn0 : n = 0 := by have := (ltm1 (by omega) (by omega)).mp h37; omega
        subst hn0
        have hq1 : q = pT1 fr le mo (imU fr tt nf im nt) (ordK fr tt nf nt k x nd) (ordH fr tt nf nt k x).2.2.2.2 (stS wt ab be fy S nd) := hI.symm
        subst hq1
        refine lv_aload_n hx hb d_PA_passTo_58 rfl (lv_at hl 0 rfl) ?_
        refine xc_V (n := 0) (As := []) (rest := []) (st0 := _) hx hb hml hown hts (c_PA_passPhase l D ca b _  hX hq6 hHq hKO.2 hfb) km_PA_passPhase tb_266 tb_268 tps_8 tb_4 (by decide +kernel) rfl rfl ⟨Nat.le_of_ble_eq_true rfl, Nat.le_of_ble_eq_true rfl⟩ hK hP (XS_18 hX) (by decide) rfl rfl rfl hl rfl (Nat.le_of_ble_eq_true rfl) d_PA_passTo_59 ⟨Nat.zero_le _, Nat.zero_le _⟩ hS (fun _ h => h) (fun v C H locs hp hP _ _ hS => ?_)
        obtain ⟨rfl, I1, P1, p2, a1, hX⟩ := hp
        refine lv_aload_n hx hb d_PA_passTo_62 rfl (lv_at hl 0 rfl) ?_
        refine xw_get (v := .int (nI ((ordH fr tt nf nt k x).2.2.2.2))) hx hb hts (fun w h => mw (uw_PA w h)) hown hK hP (XS_18 hX) (by decide) rfl 14 (by decide) (hts _ (mw tb_115)) (fun _ h => h) rfl d_PA_passTo_63 ?_
        refine lv_iconst (v := nI 1) hx hb d_PA_passTo_66 (by decide) ?_
        refine lv_isub hx hb d_PA_passTo_67 ?_
        refine lv_istore (lv' := [(4, .int (((nI ((ordH fr tt nf nt k x).2.2.2.2)) - (nI 1)))), (0, .ref (b + 18)), (1, .int (nI x)), (2, .ref (b + 1)), (3, .ref (b + 11))]) hx hb d_PA_passTo_68 hl (by decide) rfl (fun ls hl => ?_)
        have loop70 : ∀ (r : Nat) (n : Nat) (q : (Nat → Nat → Nat) × Nat) (p0 : Nat) (C : Nat → va_E) (H : Heap) (locs : List Loc) (ls : Array Slot), n < r → n ≤ ((ordH fr tt nf nt k x).2.2.2.2 - 1) → pT3 fr le mo (imU fr tt nf im nt) (ordK fr tt nf nt k x nd) (ordH fr tt nf nt k x).2.2.2.2 fb I P (stS wt ab be fy S nd) = hDn fr le mo (ordK fr tt nf nt k x nd).2.1 (ordK fr tt nf nt k x nd).2.2.1 (imU fr tt nf im nt) (ordK fr tt nf nt k x nd).2.2.2.1 1 n q → va_P D classes (wl b 219 C) H → va_S (xr b 219) s.heap H locs → XS ca b C wt ab be nd fr tt le mo nf tr nt nm fy fb ((ordK fr tt nf nt k x nd).2.2.2.1) ((ordK fr tt nf nt k x nd).2.1) ((ordK fr tt nf nt k x nd).2.2.1) ((ordK fr tt nf nt k x nd).1) (imU fr tt nf im nt) ((ordK fr tt nf nt k x nd).2.2.2.2) ((ordH fr tt nf nt k x).2.2.2.2) (gvOf q.1 I1 P1 p0 a1 q.2 wh st) → lv_has ls 5 [(0, .ref (b + 18)), (1, .int (nI x)), (2, .ref (b + 1)), (3, .ref (b + 11)), (4, .int ((nI (1 + n) - nI 1)))] → W p l e (headSpec (k_PA_passTo :: gw) ({ frames := 5, cells := 0, slots := 0, locals := 128 })).room s m args below meth c H locs 0 0 (MQ below (xQ D b 219 (fun r C1 => r = none ∧ ∃ f1 I1 P1 p1 a1, XS ca b C1 wt ab be nd fr tt le mo nf tr nt nm (clrO 6 fy) (clrO 2 fb) ((ordK fr tt nf nt k x nd).2.2.2.1) ((ordK fr tt nf nt k x nd).2.1) ((ordK fr tt nf nt k x nd).2.2.1) ((ordK fr tt nf nt k x nd).1) (imU fr tt nf im nt) ((ordK fr tt nf nt k x nd).2.2.2.2) ((ordH fr tt nf nt k x).2.2.2.2) (gvOf (rowS (pT3 fr le mo (imU fr tt nf im nt) (ordK fr tt nf nt k x nd) (ordH fr tt nf nt k x).2.2.2.2 fb I P (stS wt ab be fy S nd)).1 x 12 (fun y => (pT3 fr le mo (imU fr tt nf im nt) (ordK fr tt nf nt k x nd) (ordH fr tt nf nt k x).2.2.2.2 fb I P (stS wt ab be fy S nd)).1 x y * (pT3 fr le mo (imU fr tt nf im nt) (ordK fr tt nf nt k x nd) (ordH fr tt nf nt k x).2.2.2.2 fb I P (stS wt ab be fy S nd)).2)) I1 P1 p1 a1 f1 wh st))) args s 0 0 (xr b 219)) (F0 m 70 ls []) := by
          intro r
          induction r with
          | zero => intro n q p0 C H locs ls hms hn hI; exact absurd hms (by omega)
          | succ r ih70 =>
            intro n q p0 C H locs ls hms hn hI hP hS hX hl
            refine lv_iload hx hb d_PA_passTo_70 (lv_at hl 4 rfl) ?_
            refine lv_iconst (v := nI 1) hx hb d_PA_passTo_72 (by decide) ?_
            refine lv_icmp_lt (tgt := 94) hx hb d_PA_passTo_73 (by decide) (fun h73 => ?_) (fun h73 => ?_)
            · skip
              have hn0 : n = 0 := by have := (ltm1 (by omega) (by omega)).mp h73; omega
              subst hn0
              have hq1 : q = pT3 fr le mo (imU fr tt nf im nt) (ordK fr tt nf nt k x nd) (ordH fr tt nf nt k x).2.2.2.2 fb I P (stS wt ab be fy S nd) := hI.symm
              subst hq1
              refine lv_aload_n hx hb d_PA_passTo_94 rfl (lv_at hl 0 rfl) ?_
              refine lv_iload_n hx hb d_PA_passTo_95 rfl (lv_at hl 1 rfl) ?_
              refine lv_aload_n hx hb d_PA_passTo_96 rfl (lv_at hl 0 rfl) ?_
              refine xw_get (v := .ref (b + 26)) hx hb hts (fun w h => mw (uw_PA w h)) hown hK hP (XS_18 hX) (by decide) rfl 5 (by decide) (hts _ (mw tb_106)) (fun _ h => h) rfl d_PA_passTo_97 ?_
              refine xc_V (n := 2) (As := [.int (nI x), .ref (b + 26)]) (rest := []) (st0 := _) hx hb hml hown hts (c_PA_multiplyYears_fa l D ca b _ x hX (by omega)) km_PA_multiplyYears tb_282 tb_283 tb_284 tb_4 (by decide +kernel) rfl rfl ⟨Nat.le_of_ble_eq_true rfl, Nat.le_of_ble_eq_true rfl⟩ hK hP (XS_18 hX) (by decide) rfl rfl rfl hl rfl (Nat.le_of_ble_eq_true rfl) d_PA_passTo_100 ⟨Nat.zero_le _, Nat.zero_le _⟩ hS (fun _ h => h) (fun v C H locs hp hP _ _ hS => ?_)
              obtain ⟨rfl, hX⟩ := hp
              refine lv_aload_n hx hb d_PA_passTo_103 rfl (lv_at hl 0 rfl) ?_
              refine xw_get (v := .ref (b + 28)) hx hb hts (fun w h => mw (uw_PA w h)) hown hK hP (XS_18 hX) (by decide) rfl 6 (by decide) (hts _ (mw tb_107)) (fun _ h => h) rfl d_PA_passTo_104 ?_
              refine lv_iconst (v := (-1)) hx hb d_PA_passTo_107 (by decide) ?_
              refine xc_T (n := 2) (As := [.ref (b + 28), .int ((-1))]) (rest := []) (st0 := _) hx hb hml hown hts (c_AR_fill_fy l D ca b _ hX) km_AR_fill tb_98 tb_99 tb_6 (by decide +kernel) rfl rfl ⟨Nat.le_of_ble_eq_true rfl, Nat.le_of_ble_eq_true rfl⟩ hK hP rfl hl rfl (Nat.le_of_ble_eq_true rfl) d_PA_passTo_108 ⟨Nat.zero_le _, Nat.zero_le _⟩ hS (fun _ h => h) (fun v C H locs hp hP _ _ hS => ?_)
              obtain ⟨rfl, hX⟩ := hp
              refine lv_aload_n hx hb d_PA_passTo_111 rfl (lv_at hl 0 rfl) ?_
              refine xw_get (v := .ref (b + 29)) hx hb hts (fun w h => mw (uw_PA w h)) hown hK hP (XS_18 hX) (by decide) rfl 7 (by decide) (hts _ (mw tb_108)) (fun _ h => h) rfl d_PA_passTo_112 ?_
              refine lv_iconst (v := (-1)) hx hb d_PA_passTo_115 (by decide) ?_
              refine xc_T (n := 2) (As := [.ref (b + 29), .int ((-1))]) (rest := []) (st0 := _) hx hb hml hown hts (c_AR_fill_fb l D ca b _ hX) km_AR_fill tb_98 tb_99 tb_6 (by decide +kernel) rfl rfl ⟨Nat.le_of_ble_eq_true rfl, Nat.le_of_ble_eq_true rfl⟩ hK hP rfl hl rfl (Nat.le_of_ble_eq_true rfl) d_PA_passTo_116 ⟨Nat.zero_le _, Nat.zero_le _⟩ hS (fun _ h => h) (fun v C H locs hp hP _ _ hS => ?_)
              obtain ⟨rfl, hX⟩ := hp
              exact xw_vret hx hb hr hlocks hP hS ⟨rfl, _, _, _, _, _, hX⟩ d_PA_passTo_119
            · skip
              have hn1 : 0 < n := by
                rcases Nat.eq_zero_or_pos n with q9 | q9
                · exact absurd ((ltm1 (by omega) (by omega)).mpr (by omega)) h73
                · exact q9
              obtain ⟨n0, rfl⟩ : ∃ n0, n = n0 + 1 := ⟨n - 1, by omega⟩
              rw [show nI (1 + (n0 + 1)) - nI 1 = nI (1 + n0) from pk_sub (by omega)] at hl
              have hj : 1 + n0 < (ordK fr tt nf nt k x nd).2.2.2.2 := by omega
              refine lv_aload_n hx hb d_PA_passTo_76 rfl (lv_at hl 0 rfl) ?_
              refine lv_aload_n hx hb d_PA_passTo_77 rfl (lv_at hl 0 rfl) ?_
              refine xw_get (v := .ref (b + 30)) hx hb hts (fun w h => mw (uw_PA w h)) hown hK hP (XS_18 hX) (by decide) rfl 8 (by decide) (hts _ (mw tb_109)) (fun _ h => h) rfl d_PA_passTo_78 ?_
              refine lv_iload hx hb d_PA_passTo_81 (lv_at hl 4 rfl) ?_
              refine xw_iald hx hb hK hP 0 (XS_30 hX) (by decide) rfl (by omega) (by decide) d_PA_passTo_83 ?_
              refine lv_aload_n hx hb d_PA_passTo_84 rfl (lv_at hl 3 rfl) ?_
              refine xc_V (n := 2) (As := [.int (nI (((ordK fr tt nf nt k x nd).2.2.2.1) (1 + n0))), .ref (b + 11)]) (rest := []) (st0 := _) hx hb hml hown hts (c_PA_handOn l D ca b _ (((ordK fr tt nf nt k x nd).2.2.2.1) (1 + n0)) hX (hKO.2 _ hj) (fun u hu => by
                    obtain ⟨g1, g2, i9, g3, g4⟩ := hKP _ hj u hu
                    have g5 := hR.2 i9 g4
                    exact ⟨g1, g2, i9, g3, by omega, g5⟩)) km_PA_handOn tb_231 tb_233 tps_6 tb_4 (by decide +kernel) rfl rfl ⟨Nat.le_of_ble_eq_true rfl, Nat.le_of_ble_eq_true rfl⟩ hK hP (XS_18 hX) (by decide) rfl rfl rfl hl rfl (Nat.le_of_ble_eq_true rfl) d_PA_passTo_85 ⟨Nat.zero_le _, Nat.zero_le _⟩ hS (fun _ h => h) (fun v C H locs hp hP _ _ hS => ?_)
              obtain ⟨rfl, p1, hX⟩ := hp
              refine lv_iinc (v := nI (1 + n0) - nI 1) (lv' := [(4, .int ((nI (1 + n0) - nI 1))), (0, .ref (b + 18)), (1, .int (nI x)), (2, .ref (b + 1)), (3, .ref (b + 11))]) hx hb d_PA_passTo_88 hl (k := 4) rfl (decs _) (by decide) rfl (fun ls hl => ?_)
              refine lv_goto (tgt := 70) hx hb d_PA_passTo_91 (by decide) ?_
              exact ih70 n0 _ _ _ _ _ _ (by omega) (by omega) hI hP hS hX (lv_sub hl [1, 2, 3, 4, 0] rfl)
        rw [show (ordH fr tt nf nt k x).2.2.2.2 = 1 + (((ordH fr tt nf nt k x).2.2.2.2 - 1)) by omega] at hl
        exact loop70 (((ordH fr tt nf nt k x).2.2.2.2 - 1) + 1) (((ordH fr tt nf nt k x).2.2.2.2 - 1)) (pT2 fr le mo (imU fr tt nf im nt) (ordK fr tt nf nt k x nd) (ordH fr tt nf nt k x).2.2.2.2 fb I P (stS wt ab be fy S nd)) _ _ _ _ _ (by omega) (Nat.le_refl _) rfl hP hS hX (lv_sub hl [1, 2, 3, 4, 0] rfl)
      · skip
        have hn1 : 0 < n := by
          rcases Nat.eq_zero_or_pos n with q9 | q9
          · exact absurd ((ltm1 (by omega) (by omega)).mpr (by omega)) h37
          · exact q9
        obtain ⟨n0, rfl⟩ : ∃ n0, n = n0 + 1 := ⟨n - 1, by omega⟩
        rw [show nI ((ordH fr tt nf nt k x).2.2.2.2 + (n0 + 1)) - nI 1 = nI ((ordH fr tt nf nt k x).2.2.2.2 + n0) from pk_sub (by omega)] at hl
        have hj : (ordH fr tt nf nt k x).2.2.2.2 + n0 < (ordK fr tt nf nt k x nd).2.2.2.2 := by omega
        refine lv_aload_n hx hb d_PA_passTo_40 rfl (lv_at hl 0 rfl) ?_
        refine lv_aload_n hx hb d_PA_passTo_41 rfl (lv_at hl 0 rfl) ?_
        refine xw_get (v := .ref (b + 30)) hx hb hts (fun w h => mw (uw_PA w h)) hown hK hP (XS_18 hX) (by decide) rfl 8 (by decide) (hts _ (mw tb_109)) (fun _ h => h) rfl d_PA_passTo_42 ?_
        refine lv_iload hx hb d_PA_passTo_45 (lv_at hl 4 rfl) ?_
        refine xw_iald hx hb hK hP 0 (XS_30 hX) (by decide) rfl (by omega) (by decide) d_PA_passTo_47 ?_
        refine lv_aload_n hx hb d_PA_passTo_48 rfl (lv_at hl 3 rfl) ?_
        refine xc_V (n := 2) (As := [.int (nI (((ordK fr tt nf nt k x nd).2.2.2.1) ((ordH fr tt nf nt k x).2.2.2.2 + n0))), .ref (b + 11)]) (rest := []) (st0 := _) hx hb hml hown hts (c_PA_handOn l D ca b _ (((ordK fr tt nf nt k x nd).2.2.2.1) ((ordH fr tt nf nt k x).2.2.2.2 + n0)) hX (hKO.2 _ hj) (fun u hu => by
              obtain ⟨g1, g2, i9, g3, g4⟩ := hKP _ hj u hu
              have g5 := hR.2 i9 g4
              exact ⟨g1, g2, i9, g3, by omega, g5⟩)) km_PA_handOn tb_231 tb_233 tps_6 tb_4 (by decide +kernel) rfl rfl ⟨Nat.le_of_ble_eq_true rfl, Nat.le_of_ble_eq_true rfl⟩ hK hP (XS_18 hX) (by decide) rfl rfl rfl hl rfl (Nat.le_of_ble_eq_true rfl) d_PA_passTo_49 ⟨Nat.zero_le _, Nat.zero_le _⟩ hS (fun _ h => h) (fun v C H locs hp hP _ _ hS => ?_)
        obtain ⟨rfl, p1, hX⟩ := hp
        refine lv_iinc (v := nI ((ordH fr tt nf nt k x).2.2.2.2 + n0) - nI 1) (lv' := [(4, .int ((nI ((ordH fr tt nf nt k x).2.2.2.2 + n0) - nI 1))), (0, .ref (b + 18)), (1, .int (nI x)), (2, .ref (b + 1)), (3, .ref (b + 11))]) hx hb d_PA_passTo_52 hl (k := 4) rfl (decs _) (by decide) rfl (fun ls hl => ?_)
        refine lv_goto (tgt := 31) hx hb d_PA_passTo_55 (by decide) ?_
        exact ih31 n0 _ _ _ _ _ _ (by omega) (by omega) hI hP hS hX (lv_sub hl [1, 2, 3, 4, 0] rfl)
  rw [show (ordK fr tt nf nt k x nd).2.2.2.2 = (ordH fr tt nf nt k x).2.2.2.2 + ((ordK fr tt nf nt k x nd).2.2.2.2 - (ordH fr tt nf nt k x).2.2.2.2) by omega] at hl
  exact loop31 ((ordK fr tt nf nt k x nd).2.2.2.2 - (ordH fr tt nf nt k x).2.2.2.2 + 1) ((ordK fr tt nf nt k x nd).2.2.2.2 - (ordH fr tt nf nt k x).2.2.2.2) (stS wt ab be fy S nd, 1) _ _ _ _ _ (by omega) (Nat.le_refl _) rfl hP hS hX (lv_sub hl [1, 2, 3, 4, 0] rfl)

