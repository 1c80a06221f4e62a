/-! Passing: handToParent, handOn -/
/-- the sum of F over lo .. hi - 1 -/
def rng (F : Nat → Nat) (lo hi : Nat) : Nat := sm (fun j => F (lo + j)) (hi - lo)
theorem hiA_le {fr le mo : Nat → Nat} {i d y : Nat} (hy : y < 12) : hiA fr le mo i d y ≤ 12 := by
  unfold hiA
  by_cases q : fr i = d
  · rw [if_pos q]; omega
  · rw [if_neg q]; omega
theorem loA_le {fr le mo : Nat → Nat} {i d y : Nat} (hy : y < 12) (hl : le i < 12) : loA fr le mo i d y ≤ 22 := by
  unfold loA
  by_cases q : fr i = d
  · rw [if_pos q]; omega
  · rw [if_neg q]; omega
def hdF (fr le mo : Nat → Nat) (S : Nat → Nat → Nat) (d e i y : Nat) : Nat := S e y * rng (S d) (loA fr le mo i e y) (hiA fr le mo i e y)
def hdS (fr le mo : Nat → Nat) (S : Nat → Nat → Nat) (d e i : Nat) : Nat → Nat → Nat := rowS S e 12 (hdF fr le mo S d e i)
def hdO (fr le mo : Nat → Nat) (pa rp : Nat → Option Nat) (im : Nat → Bool) (d : Nat) (q : (Nat → Nat → Nat) × Nat) : (Nat → Nat → Nat) × Nat :=
  match pa d with
  | some e => (match rp d with | some i => (hdS fr le mo q.1 d e i, q.2) | none => q)
  | none => if im d = true then q else (q.1, q.2 * tot q.1 d)
theorem hdO_some {fr le mo : Nat → Nat} {pa rp : Nat → Option Nat} {im : Nat → Bool} {d e i : Nat} {q : (Nat → Nat → Nat) × Nat} (h : pa d = some e) (h2 : rp d = some i) : hdO fr le mo pa rp im d q = (hdS fr le mo q.1 d e i, q.2) := by
  unfold hdO; rw [h, h2]
theorem hdO_mem {fr le mo : Nat → Nat} {pa rp : Nat → Option Nat} {im : Nat → Bool} {d : Nat} {q : (Nat → Nat → Nat) × Nat} (h : pa d = none) (h2 : im d = true) : hdO fr le mo pa rp im d q = q := by
  unfold hdO; rw [h]; simp only [h2, if_true]
theorem hdO_fac {fr le mo : Nat → Nat} {pa rp : Nat → Option Nat} {im : Nat → Bool} {d : Nat} {q : (Nat → Nat → Nat) × Nat} (h : pa d = none) (h2 : im d = false) : hdO fr le mo pa rp im d q = (q.1, q.2 * tot q.1 d) := by
  unfold hdO; rw [h]; simp only [h2]; rfl
set_option maxHeartbeats 4000000 in
set_option maxRecDepth 100000 in
/-- a date hands its sums to its parent -/
theorem c_PA_handToParent (l : Launch) (D : va_G) (ca : Nat → ClassId) (b : Nat) (C0 : Nat → va_E) {wt : Nat → Nat → Nat} {ab : Nat → Nat} {be : Nat → Nat} {nd : Nat} {fr : Nat → Nat} {tt : Nat → Option Nat} {le : Nat → Nat} {mo : Nat → Nat} {nf : Nat → Bool} {tr : Nat → Nat} {nt : Nat} {nm : Nat} {fy : Nat → Option Nat} {fb : Nat → Option Nat} {od : Nat → Nat} {pa : Nat → Option Nat} {rp : Nat → Option Nat} {se : Nat → Bool} {im : Nat → Bool} {qd : Nat} {hm : Nat} {S : Nat → Nat → Nat} {I : Nat → Nat} {P : Nat → Nat} {pt : Nat} {ap : Nat} {fa : Nat} {wh : Nat} {st : Nat} (d u i : Nat) (hX : XS ca b C0 wt ab be nd fr tt le mo nf tr nt nm fy fb od pa rp se im qd hm (gvOf S I P pt ap fa wh st)) (hd : d < 6) (he : u < 6) (hde : d ≠ u) (hi6 : i < 6) (hfi : fr i < 6) (hlei : le i < 12) (hmoi : mo i < 12) : Met l y_PA_handToParent (k_PA_handToParent :: gw) ({ frames := 3, cells := 0, slots := 0, locals := 60 }) (xPc D ca b 219 C0 [.ref (b + 18), .int (nI d), .int (nI u), .int (nI i), .ref (b + 11)]) (xQ D b 219 (fun r C1 => r = none ∧ ∃ p1, XS ca b C1 wt ab be nd fr tt le mo nf tr nt nm fy fb od pa rp se im qd hm (gvOf (hdS fr le mo S d u i) I P p1 ap fa wh st))) 0 0 (xr b 219) := by
  refine Met.ofW (cc := b_PA_handToParent) (maxL := 8) (ret := none) (by decide) rfl ?_
  intro p e s m args below meth c s₁ B hml hv
  obtain ⟨hav, hP, hK⟩ := hv
  have hx := B.exec
  have hb := B.bytes
  have hr := B.returns
  have hts := atoms_spec (ws := k_PA_handToParent :: gw) B.pre
  have hown : s.vm.findClass R_PA = some m.cls := findClass_of_methodNamed B.named
  have hlocks := B.notSynchronized
  have hA : ∀ k, k < 219 → xr b 219 (b + k) := xr_in
  have hS : va_S (xr b 219) s.heap s.heap [] := va_S.rf
  have hl := lv_entry ([.ref (b + 18), .int (nI d), .int (nI u), .int (nI i), .ref (b + 11)]) (n := 8) (Nat.le_of_ble_eq_true rfl)
  rw [hav, lg_entry_eq]
  generalize (lg_sl ([.ref (b + 18), .int (nI d), .int (nI u), .int (nI i), .ref (b + 11)]) ++ List.replicate (8 - (lg_sl ([.ref (b + 18), .int (nI d), .int (nI u), .int (nI i), .ref (b + 11)])).length) Slot.unset).toArray = ls at hl ⊢
  have hl : lv_has ls 8 [(0, .ref (b + 18)), (1, .int (nI d)), (2, .int (nI u)), (3, .int (nI i)), (4, .ref (b + 11))] := hl
  rw [← hav]
  refine lv_iconst (v := nI 0) hx hb d_PA_handToParent_0 (by decide) ?_
  refine lv_istore (lv' := [(5, .int (nI 0)), (0, .ref (b + 18)), (1, .int (nI d)), (2, .int (nI u)), (3, .int (nI i)), (4, .ref (b + 11))]) hx hb d_PA_handToParent_1 hl (by decide) rfl (fun ls hl => ?_)
  have loop3 : ∀ (r : Nat) (y : Nat) (p0 : Nat) (C : Nat → va_E) (H : Heap) (locs : List Loc) (ls : Array Slot), 12 < y + r → y ≤ 12 → va_P D classes (wl b 219 C) H → va_S (xr b 219) s.heap H locs → XS ca b C wt ab be nd fr tt le mo nf tr nt nm fy fb od pa rp se im qd hm (gvOf (rowS S u y (hdF fr le mo S d u i)) I P p0 ap fa wh st) → lv_has ls 8 [(0, .ref (b + 18)), (1, .int (nI d)), (2, .int (nI u)), (3, .int (nI i)), (4, .ref (b + 11)), (5, .int (nI y))] → W p l e (headSpec (k_PA_handToParent :: gw) ({ frames := 3, cells := 0, slots := 0, locals := 60 })).room s m args below meth c H locs 0 0 (MQ below (xQ D b 219 (fun r C1 => r = none ∧ ∃ p1, XS ca b C1 wt ab be nd fr tt le mo nf tr nt nm fy fb od pa rp se im qd hm (gvOf (hdS fr le mo S d u i) I P p1 ap fa wh st))) args s 0 0 (xr b 219)) (F0 m 3 ls []) := by
    intro r
    induction r with
    | zero => intro y p0 C H locs ls hms hy; exact absurd hms (by omega)
    | succ r ih3 =>
      intro y p0 C H locs ls hms hy hP hS hX hl
      refine lv_iload hx hb d_PA_handToParent_3 (lv_at hl 5 rfl) ?_
      refine lv_bipush (v := nI 12) hx hb d_PA_handToParent_5 (by decide) ?_
      refine xi_ge (tgt := 87) hx hb d_PA_handToParent_7 (by decide) (by omega) (by omega) (fun h7 => ?_) (fun h7 => ?_)
      · skip
        have ey : y = 12 := by omega
        rw [ey] at hX
        exact xw_vret hx hb hr hlocks hP hS ⟨rfl, _, hX⟩ d_PA_handToParent_87
      · skip
        refine lv_aload hx hb d_PA_handToParent_10 (lv_at hl 4 rfl) ?_
        refine lv_iload_n hx hb d_PA_handToParent_12 rfl (lv_at hl 3 rfl) ?_
        refine lv_iload_n hx hb d_PA_handToParent_13 rfl (lv_at hl 2 rfl) ?_
        refine lv_iload hx hb d_PA_handToParent_14 (lv_at hl 5 rfl) ?_
        refine xc_V (n := 3) (As := [.int (nI i), .int (nI u), .int (nI y)]) (rest := []) (st0 := _) hx hb hml hown hts (c_TE_mostAcross l D ca b _ i u y hX (by omega) (by omega) (by omega) (by omega) (by omega) (by omega)) km_TE_mostAcross tb_239 tb_240 tb_241 tb_3 (by decide +kernel) rfl rfl ⟨Nat.le_of_ble_eq_true rfl, Nat.le_of_ble_eq_true rfl⟩ hK hP (XS_11 hX) (by decide) rfl rfl rfl hl rfl (Nat.le_of_ble_eq_true rfl) d_PA_handToParent_16 ⟨Nat.zero_le _, Nat.zero_le _⟩ hS (fun _ h => h) (fun v C H locs hp hP _ _ hS => ?_)
        obtain ⟨hh, rfl, hhh, hX⟩ := hp
        refine lv_istore (lv' := [(6, .int hh), (0, .ref (b + 18)), (1, .int (nI d)), (2, .int (nI u)), (3, .int (nI i)), (4, .ref (b + 11)), (5, .int (nI y))]) hx hb d_PA_handToParent_19 hl (by decide) rfl (fun ls hl => ?_)
        refine lv_aload_n hx hb d_PA_handToParent_21 rfl (lv_at hl 1 rfl) ?_
        refine xw_get (v := .ref (b + 22)) hx hb hts (fun w h => mw (uw_PA w h)) hown hK hP (XS_18 hX) (by decide) rfl 3 (by decide) (hts _ (mw tb_104)) (fun _ h => h) rfl d_PA_handToParent_22 ?_
        refine lv_iconst (v := nI 0) hx hb d_PA_handToParent_25 (by decide) ?_
        have hgi1 : gid 22 := (by unfold gid; decide)
        obtain ⟨ga1, gn1, hga1, hgb1, hgc1⟩ := XS_g hX 22 hgi1
        rw [gv_pt] at hgc1
        refine xc_V (n := 1) (As := [.int (nI 0)]) (rest := []) (st0 := _) hx hb hml hown hts (c_GR_set l D ca b 219 _ 22 gn1 _ ga1 0 hga1 hgb1 (by unfold gid at hgi1; omega) hgc1 (by decide)) km_GR_set tb_202 tb_178 tb_179 tb_5 (by decide +kernel) rfl rfl ⟨Nat.le_of_ble_eq_true rfl, Nat.le_of_ble_eq_true rfl⟩ hK hP hga1 (by unfold gid at hgi1; omega) rfl rfl rfl hl rfl (Nat.le_of_ble_eq_true rfl) d_PA_handToParent_26 ⟨Nat.zero_le _, Nat.zero_le _⟩ hS (fun _ h => h) (fun v C H locs hp hP _ _ hS => ?_)
        obtain ⟨rfl, hG1, hG2⟩ := hp
        have hX := XS_set_gv hX hgi1 hG1 hG2
        have hX := gs_pt hX
        refine lv_aload hx hb d_PA_handToParent_29 (lv_at hl 5 rfl) ?_
        refine lv_iload_n hx hb d_PA_handToParent_31 rfl (lv_at hl 4 rfl) ?_
        refine lv_iload_n hx hb d_PA_handToParent_32 rfl (lv_at hl 3 rfl) ?_
        refine lv_iload hx hb d_PA_handToParent_33 (lv_at hl 6 rfl) ?_
        refine xc_V (n := 3) (As := [.int (nI i), .int (nI u), .int (nI y)]) (rest := []) (st0 := _) hx hb hml hown hts (c_TE_leastAcross l D ca b _ i u y hX (by omega) (by omega) (by omega) (by omega) (by omega) (by omega)) km_TE_leastAcross tb_246 tb_247 tb_248 tb_3 (by decide +kernel) rfl rfl ⟨Nat.le_of_ble_eq_true rfl, Nat.le_of_ble_eq_true rfl⟩ hK hP (XS_11 hX) (by decide) rfl rfl rfl hl rfl (Nat.le_of_ble_eq_true rfl) d_PA_handToParent_35 ⟨Nat.zero_le _, Nat.zero_le _⟩ hS (fun _ h => h) (fun v C H locs hp hP _ _ hS => ?_)
        obtain ⟨rfl, hX⟩ := hp
        refine lv_istore (lv' := [(7, .int (nI (loA fr le mo i u y))), (6, .int hh), (0, .ref (b + 18)), (1, .int (nI d)), (2, .int (nI u)), (3, .int (nI i)), (4, .ref (b + 11)), (5, .int (nI y))]) hx hb d_PA_handToParent_38 hl (by decide) rfl (fun ls hl => ?_)
        have loop40 : ∀ (r : Nat) (t : Nat) (C : Nat → va_E) (H : Heap) (locs : List Loc) (ls : Array Slot), 40 < loA fr le mo i u y + t + r → loA fr le mo i u y + t ≤ 22 → t ≤ hiA fr le mo i u y - (loA fr le mo i u y) → va_P D classes (wl b 219 C) H → va_S (xr b 219) s.heap H locs → XS ca b C wt ab be nd fr tt le mo nf tr nt nm fy fb od pa rp se im qd hm (gvOf (rowS S u y (hdF fr le mo S d u i)) I P (sm (fun j => S d (loA fr le mo i u y + j)) t) ap fa wh st) → lv_has ls 8 [(0, .ref (b + 18)), (1, .int (nI d)), (2, .int (nI u)), (3, .int (nI i)), (4, .ref (b + 11)), (5, .int (nI y)), (6, .int hh), (7, .int (nI (loA fr le mo i u y + t)))] → W p l e (headSpec (k_PA_handToParent :: gw) ({ frames := 3, cells := 0, slots := 0, locals := 60 })).room s m args below meth c H locs 0 0 (MQ below (xQ D b 219 (fun r C1 => r = none ∧ ∃ p1, XS ca b C1 wt ab be nd fr tt le mo nf tr nt nm fy fb od pa rp se im qd hm (gvOf (hdS fr le mo S d u i) I P p1 ap fa wh st))) args s 0 0 (xr b 219)) (F0 m 40 ls []) := by
          intro r
          induction r with
          | zero => intro t C H locs ls hms ht1 ht2; exact absurd hms (by omega)
          | succ r ih40 =>
            intro t C H locs ls hms ht1 ht2 hP hS hX hl
            have hhi : hiA fr le mo i u y ≤ 12 := hiA_le (by omega)
            refine lv_iload hx hb d_PA_handToParent_40 (lv_at hl 7 rfl) ?_
            refine lv_iload hx hb d_PA_handToParent_42 (lv_at hl 6 rfl) ?_
            refine lv_icmp_gt (tgt := 67) hx hb d_PA_handToParent_44 (by decide) (fun h44 => ?_) (fun h44 => ?_)
            · skip
              have h44b : ¬ loA fr le mo i u y + t < hiA fr le mo i u y := fun q => absurd ((hhh _ (by omega)).mpr q) (Int32.not_le.mpr h44)
              have htt : t = hiA fr le mo i u y - loA fr le mo i u y := by omega
              refine lv_aload_n hx hb d_PA_handToParent_67 rfl (lv_at hl 0 rfl) ?_
              refine lv_iload_n hx hb d_PA_handToParent_68 rfl (lv_at hl 2 rfl) ?_
              refine lv_iload hx hb d_PA_handToParent_69 (lv_at hl 5 rfl) ?_
              refine xc_V (n := 2) (As := [.int (nI u), .int (nI y)]) (rest := []) (st0 := _) hx hb hml hown hts (c_PA_sumAt l D ca b _ u y hX (by omega) (by omega)) km_PA_sumAt tb_194 tb_195 tb_196 tb_4 (by decide +kernel) rfl rfl ⟨Nat.le_of_ble_eq_true rfl, Nat.le_of_ble_eq_true rfl⟩ hK hP (XS_18 hX) (by decide) rfl rfl rfl hl rfl (Nat.le_of_ble_eq_true rfl) d_PA_handToParent_71 ⟨Nat.zero_le _, Nat.zero_le _⟩ hS (fun _ h => h) (fun v C H locs hp hP _ _ hS => ?_)
              obtain ⟨rfl, hX⟩ := hp
              refine lv_aload_n hx hb d_PA_handToParent_74 rfl (lv_at hl 0 rfl) ?_
              refine xw_get (v := .ref (b + 22)) hx hb hts (fun w h => mw (uw_PA w h)) hown hK hP (XS_18 hX) (by decide) rfl 3 (by decide) (hts _ (mw tb_104)) (fun _ h => h) rfl d_PA_handToParent_75 ?_
              have hgi2 : gid ((35 + 2 * (u * 12 + y))) := (by unfold gid; omega)
              obtain ⟨ga2, gn2, hga2, hgb2, hgc2⟩ := XS_g hX ((35 + 2 * (u * 12 + y))) hgi2
              rw [gv_S (by omega) (by omega)] at hgc2
              have hoi2 : gid 22 := (by unfold gid; decide)
              obtain ⟨oa2, on2, hoa2, hob2, hoc2⟩ := XS_g hX 22 hoi2
              rw [gv_pt] at hoc2
              have hne2 : ((35 + 2 * (u * 12 + y))) ≠ 22 := by omega
              refine xc_V (n := 1) (As := [.ref (b + 22)]) (rest := []) (st0 := _) hx hb hml hown hts (c_GR_multiply l D ca b 219 _ ((35 + 2 * (u * 12 + y))) 22 gn2 _ on2 _ ga2 oa2 hga2 hgb2 hoa2 hob2 (by unfold gid at hgi2; omega) (by unfold gid at hoi2; omega) ⟨hne2, by unfold gid at hgi2 hoi2; omega, by unfold gid at hgi2 hoi2; omega⟩ hgc2 hoc2) km_GR_multiply tb_258 tb_259 tb_260 tb_5 (by decide +kernel) rfl rfl ⟨Nat.le_of_ble_eq_true rfl, Nat.le_of_ble_eq_true rfl⟩ hK hP hga2 (by unfold gid at hgi2; omega) rfl rfl rfl hl rfl (Nat.le_of_ble_eq_true rfl) d_PA_handToParent_78 ⟨Nat.zero_le _, Nat.zero_le _⟩ hS (fun _ h => h) (fun v C H locs hp hP _ _ hS => ?_)
              obtain ⟨rfl, hG1, hG2⟩ := hp
              have hX := XS_set_gv hX hgi2 hG1 hG2
              have hX := gs_S (d := u) (y := y) (by omega) (by omega) hX
              refine lv_iinc (v := nI (y + 1)) (lv' := [(5, .int (nI (y + 1))), (0, .ref (b + 18)), (1, .int (nI d)), (2, .int (nI u)), (3, .int (nI i)), (4, .ref (b + 11)), (6, .int hh), (7, .int (nI (loA fr le mo i u y + t)))]) hx hb d_PA_handToParent_81 hl (k := 5) rfl (show nI y + Int32.ofInt 1 = nI (y + 1) from nI_add _ _) (by decide) rfl (fun ls hl => ?_)
              refine lv_goto (tgt := 3) hx hb d_PA_handToParent_84 (by decide) ?_
              rw [rowS_at (Nat.le_refl y), show S u y * sm (fun j => S d (loA fr le mo i u y + j)) t = hdF fr le mo S d u i y from by rw [hdF, rng, ← htt], rowS_s S u y (hdF fr le mo S d u i)] at hX
              exact ih3 (y + 1) _ _ _ _ _ (by omega) (by omega) hP hS hX (lv_sub hl [1, 2, 3, 4, 5, 0] rfl)
            · skip
              have h44b : loA fr le mo i u y + t < hiA fr le mo i u y := (hhh _ (by omega)).mp (Int32.not_lt.mp h44)
              refine lv_aload_n hx hb d_PA_handToParent_47 rfl (lv_at hl 0 rfl) ?_
              refine xw_get (v := .ref (b + 22)) hx hb hts (fun w h => mw (uw_PA w h)) hown hK hP (XS_18 hX) (by decide) rfl 3 (by decide) (hts _ (mw tb_104)) (fun _ h => h) rfl d_PA_handToParent_48 ?_
              refine lv_aload_n hx hb d_PA_handToParent_51 rfl (lv_at hl 0 rfl) ?_
              refine lv_iload_n hx hb d_PA_handToParent_52 rfl (lv_at hl 1 rfl) ?_
              refine lv_iload hx hb d_PA_handToParent_53 (lv_at hl 7 rfl) ?_
              refine xc_V (n := 2) (As := [.int (nI d), .int (nI (loA fr le mo i u y + t))]) (rest := [.ref (b + 22)]) (st0 := _) hx hb hml hown hts (c_PA_sumAt l D ca b _ d (loA fr le mo i u y + t) hX (by omega) (by omega)) km_PA_sumAt tb_194 tb_195 tb_196 tb_4 (by decide +kernel) rfl rfl ⟨Nat.le_of_ble_eq_true rfl, Nat.le_of_ble_eq_true rfl⟩ hK hP (XS_18 hX) (by decide) rfl rfl rfl hl rfl (Nat.le_of_ble_eq_true rfl) d_PA_handToParent_55 ⟨Nat.zero_le _, Nat.zero_le _⟩ hS (fun _ h => h) (fun v C H locs hp hP _ _ hS => ?_)
              obtain ⟨rfl, hX⟩ := hp
              have hgi3 : gid 22 := (by unfold gid; decide)
              obtain ⟨ga3, gn3, hga3, hgb3, hgc3⟩ := XS_g hX 22 hgi3
              rw [gv_pt] at hgc3
              have hoi3 : gid ((35 + 2 * (d * 12 + (loA fr le mo i u y + t)))) := (by unfold gid; omega)
              obtain ⟨oa3, on3, hoa3, hob3, hoc3⟩ := XS_g hX ((35 + 2 * (d * 12 + (loA fr le mo i u y + t)))) hoi3
              rw [gv_S (by omega) (by omega)] at hoc3
              have hne3 : 22 ≠ ((35 + 2 * (d * 12 + (loA fr le mo i u y + t)))) := by omega
              refine xc_V (n := 1) (As := [.ref (b + (35 + 2 * (d * 12 + (loA fr le mo i u y + t))))]) (rest := []) (st0 := _) hx hb hml hown hts (c_GR_add l D ca b 219 _ 22 ((35 + 2 * (d * 12 + (loA fr le mo i u y + t)))) gn3 _ on3 _ ga3 oa3 hga3 hgb3 hoa3 hob3 (by unfold gid at hgi3; omega) (by unfold gid at hoi3; omega) ⟨hne3, by unfold gid at hgi3 hoi3; omega, by unfold gid at hgi3 hoi3; omega⟩ hgc3 hoc3) km_GR_add tb_253 tb_254 tb_255 tb_5 (by decide +kernel) rfl rfl ⟨Nat.le_of_ble_eq_true rfl, Nat.le_of_ble_eq_true rfl⟩ hK hP hga3 (by unfold gid at hgi3; omega) rfl rfl rfl hl rfl (Nat.le_of_ble_eq_true rfl) d_PA_handToParent_58 ⟨Nat.zero_le _, Nat.zero_le _⟩ hS (fun _ h => h) (fun v C H locs hp hP _ _ hS => ?_)
              obtain ⟨rfl, hG1, hG2⟩ := hp
              have hX := XS_set_gv hX hgi3 hG1 hG2
              have hX := gs_pt hX
              refine lv_iinc (v := nI (loA fr le mo i u y + t + 1)) (lv' := [(7, .int (nI (loA fr le mo i u y + t + 1))), (0, .ref (b + 18)), (1, .int (nI d)), (2, .int (nI u)), (3, .int (nI i)), (4, .ref (b + 11)), (5, .int (nI y)), (6, .int hh)]) hx hb d_PA_handToParent_61 hl (k := 7) rfl (show nI (loA fr le mo i u y + t) + Int32.ofInt 1 = nI (loA fr le mo i u y + t + 1) from nI_add _ _) (by decide) rfl (fun ls hl => ?_)
              refine lv_goto (tgt := 40) hx hb d_PA_handToParent_64 (by decide) ?_
              rw [rowS_ne hde] at hX
              exact ih40 (t + 1) _ _ _ _ (by omega) (by omega) (by omega) hP hS hX (lv_sub hl [1, 2, 3, 4, 5, 6, 7, 0] rfl)
        exact loop40 41 0 _ _ _ _ (by omega) (loA_le (by omega) hlei) (by omega) hP hS hX (lv_sub hl [2, 3, 4, 5, 6, 7, 1, 0] rfl)
  rw [← rowS_0 S u (hdF fr le mo S d u i)] at hX
  exact loop3 13 0 pt _ _ _ _ (by omega) (by omega) hP hS hX (lv_sub hl [1, 2, 3, 4, 5, 0] rfl)

set_option maxHeartbeats 4000000 in
set_option maxRecDepth 100000 in
/-- a date hands on its sums -/
theorem c_PA_handOn (l : Launch) (D : va_G) (ca : Nat → ClassId) (b : Nat) (C0 : Nat → va_E) {wt : Nat → Nat → Nat} {ab : Nat → Nat} {be : Nat → Nat} {nd : Nat} {fr : Nat → Nat} {tt : Nat → Option Nat} {le : Nat → Nat} {mo : Nat → Nat} {nf : Nat → Bool} {tr : Nat → Nat} {nt : Nat} {nm : Nat} {fy : Nat → Option Nat} {fb : Nat → Option Nat} {od : Nat → Nat} {pa : Nat → Option Nat} {rp : Nat → Option Nat} {se : Nat → Bool} {im : Nat → Bool} {qd : Nat} {hm : Nat} {S : Nat → Nat → Nat} {I : Nat → Nat} {P : Nat → Nat} {pt : Nat} {ap : Nat} {fa : Nat} {wh : Nat} {st : Nat} (d : Nat) (hX : XS ca b C0 wt ab be nd fr tt le mo nf tr nt nm fy fb od pa rp se im qd hm (gvOf S I P pt ap fa wh st)) (hd : d < 6) (hpa : ∀ e, pa d = some e → e < 6 ∧ d ≠ e ∧ ∃ i, rp d = some i ∧ i < 6 ∧ fr i < 6 ∧ le i < 12 ∧ mo i < 12) : Met l y_PA_handOn (k_PA_handOn :: gw) ({ frames := 4, cells := 0, slots := 0, locals := 87 }) (xPc D ca b 219 C0 [.ref (b + 18), .int (nI d), .ref (b + 11)]) (xQ D b 219 (fun r C1 => r = none ∧ ∃ p1, XS ca b C1 wt ab be nd fr tt le mo nf tr nt nm fy fb od pa rp se im qd hm (gvOf ((hdO fr le mo pa rp im d (S, fa)).1) I P p1 ap ((hdO fr le mo pa rp im d (S, fa)).2) wh st))) 0 0 (xr b 219) := by
  refine Met.ofW (cc := b_PA_handOn) (maxL := 3) (ret := none) (by decide) rfl ?_
  intro p e s m args below meth c s₁ B hml hv
  obtain ⟨hav, hP, hK⟩ := hv
  have hx := B.exec
  have hb := B.bytes
  have hr := B.returns
  have hts := atoms_spec (ws := k_PA_handOn :: gw) B.pre
  have hown : s.vm.findClass R_PA = some m.cls := findClass_of_methodNamed B.named
  have hlocks := B.notSynchronized
  have hA : ∀ k, k < 219 → xr b 219 (b + k) := xr_in
  have hS : va_S (xr b 219) s.heap s.heap [] := va_S.rf
  have hl := lv_entry ([.ref (b + 18), .int (nI d), .ref (b + 11)]) (n := 3) (Nat.le_of_ble_eq_true rfl)
  rw [hav, lg_entry_eq]
  generalize (lg_sl ([.ref (b + 18), .int (nI d), .ref (b + 11)]) ++ List.replicate (3 - (lg_sl ([.ref (b + 18), .int (nI d), .ref (b + 11)])).length) Slot.unset).toArray = ls at hl ⊢
  have hl : lv_has ls 3 [(0, .ref (b + 18)), (1, .int (nI d)), (2, .ref (b + 11))] := hl
  rw [← hav]
  refine lv_aload_n hx hb d_PA_handOn_0 rfl (lv_at hl 0 rfl) ?_
  refine xw_get (v := .ref (b + 31)) hx hb hts (fun w h => mw (uw_PA w h)) hown hK hP (XS_18 hX) (by decide) rfl 9 (by decide) (hts _ (mw tb_110)) (fun _ h => h) rfl d_PA_handOn_1 ?_
  refine lv_iload_n hx hb d_PA_handOn_4 rfl (lv_at hl 1 rfl) ?_
  refine xw_iald hx hb hK hP 0 (XS_31 hX) (by decide) rfl (by omega) (by decide) d_PA_handOn_5 ?_
  refine lv_iconst (v := (-1)) hx hb d_PA_handOn_6 (by decide) ?_
  refine xo_eq (tgt := 31) hx hb d_PA_handOn_7 (by decide) (fun z hz => by have := (hpa z hz).1; omega) (fun h7 => ?_) (fun d7 h7 => ?_)
  · skip
    refine lv_aload_n hx hb d_PA_handOn_31 rfl (lv_at hl 0 rfl) ?_
    refine xw_get (v := .ref (b + 34)) hx hb hts (fun w h => mw (uw_PA w h)) hown hK hP (XS_18 hX) (by decide) rfl 12 (by decide) (hts _ (mw tb_113)) (fun _ h => h) rfl d_PA_handOn_32 ?_
    refine lv_iload_n hx hb d_PA_handOn_35 rfl (lv_at hl 1 rfl) ?_
    refine xw_zald hx hb hK hP 2 (XS_34 hX) (by decide) rfl (by omega) (by decide) d_PA_handOn_36 ?_
    refine xz_ne (tgt := 60) hx hb d_PA_handOn_37 (by decide) (tn31 _) (fun h37 => ?_) (fun h37 => ?_)
    · skip
      exact xw_vret hx hb hr hlocks hP hS ⟨rfl, _, by rw [hdO_mem h7 (bt h37)]; exact hX⟩ d_PA_handOn_60
    · skip
      refine lv_aload_n hx hb d_PA_handOn_40 rfl (lv_at hl 0 rfl) ?_
      refine lv_iload_n hx hb d_PA_handOn_41 rfl (lv_at hl 1 rfl) ?_
      refine lv_aload_n hx hb d_PA_handOn_42 rfl (lv_at hl 0 rfl) ?_
      refine xw_get (v := .ref (b + 22)) hx hb hts (fun w h => mw (uw_PA w h)) hown hK hP (XS_18 hX) (by decide) rfl 3 (by decide) (hts _ (mw tb_104)) (fun _ h => h) rfl d_PA_handOn_43 ?_
      refine xc_V (n := 2) (As := [.int (nI d), .ref (b + 22)]) (rest := []) (st0 := _) hx hb hml hown hts (c_PA_addYears_pt l D ca b _ d hX (by omega)) km_PA_addYears tb_262 tb_263 tb_264 tb_4 (by decide +kernel) rfl rfl ⟨Nat.le_of_ble_eq_true rfl, Nat.le_of_ble_eq_true rfl⟩ hK hP (XS_18 hX) (by decide) rfl rfl rfl hl rfl (Nat.le_of_ble_eq_true rfl) d_PA_handOn_46 ⟨Nat.zero_le _, Nat.zero_le _⟩ hS (fun _ h => h) (fun v C H locs hp hP _ _ hS => ?_)
      obtain ⟨rfl, hX⟩ := hp
      refine lv_aload_n hx hb d_PA_handOn_49 rfl (lv_at hl 0 rfl) ?_
      refine xw_get (v := .ref (b + 26)) hx hb hts (fun w h => mw (uw_PA w h)) hown hK hP (XS_18 hX) (by decide) rfl 5 (by decide) (hts _ (mw tb_106)) (fun _ h => h) rfl d_PA_handOn_50 ?_
      refine lv_aload_n hx hb d_PA_handOn_53 rfl (lv_at hl 0 rfl) ?_
      refine xw_get (v := .ref (b + 22)) hx hb hts (fun w h => mw (uw_PA w h)) hown hK hP (XS_18 hX) (by decide) rfl 3 (by decide) (hts _ (mw tb_104)) (fun _ h => h) rfl d_PA_handOn_54 ?_
      have hgi1 : gid 26 := (by unfold gid; decide)
      obtain ⟨ga1, gn1, hga1, hgb1, hgc1⟩ := XS_g hX 26 hgi1
      rw [gv_fa] at hgc1
      have hoi1 : gid 22 := (by unfold gid; decide)
      obtain ⟨oa1, on1, hoa1, hob1, hoc1⟩ := XS_g hX 22 hoi1
      rw [gv_pt] at hoc1
      have hne1 : 26 ≠ 22 := by omega
      refine xc_V (n := 1) (As := [.ref (b + 22)]) (rest := []) (st0 := _) hx hb hml hown hts (c_GR_multiply l D ca b 219 _ 26 22 gn1 _ on1 _ ga1 oa1 hga1 hgb1 hoa1 hob1 (by unfold gid at hgi1; omega) (by unfold gid at hoi1; omega) ⟨hne1, by unfold gid at hgi1 hoi1; omega, by unfold gid at hgi1 hoi1; omega⟩ hgc1 hoc1) km_GR_multiply tb_258 tb_259 tb_260 tb_5 (by decide +kernel) rfl rfl ⟨Nat.le_of_ble_eq_true rfl, Nat.le_of_ble_eq_true rfl⟩ hK hP hga1 (by unfold gid at hgi1; omega) rfl rfl rfl hl rfl (Nat.le_of_ble_eq_true rfl) d_PA_handOn_57 ⟨Nat.zero_le _, Nat.zero_le _⟩ hS (fun _ h => h) (fun v C H locs hp hP _ _ hS => ?_)
      obtain ⟨rfl, hG1, hG2⟩ := hp
      have hX := XS_set_gv hX hgi1 hG1 hG2
      have hX := gs_fa hX
      exact xw_vret hx hb hr hlocks hP hS ⟨rfl, _, by rw [hdO_fac h7 (bf h37)]; exact hX⟩ d_PA_handOn_60
  · skip
    obtain ⟨he6, hde, i7, hrp, hi6, hfi, hlei, hmoi⟩ := hpa _ h7
    refine lv_aload_n hx hb d_PA_handOn_10 rfl (lv_at hl 0 rfl) ?_
    refine lv_iload_n hx hb d_PA_handOn_11 rfl (lv_at hl 1 rfl) ?_
    refine lv_aload_n hx hb d_PA_handOn_12 rfl (lv_at hl 0 rfl) ?_
    refine xw_get (v := .ref (b + 31)) hx hb hts (fun w h => mw (uw_PA w h)) hown hK hP (XS_18 hX) (by decide) rfl 9 (by decide) (hts _ (mw tb_110)) (fun _ h => h) rfl d_PA_handOn_13 ?_
    refine lv_iload_n hx hb d_PA_handOn_16 rfl (lv_at hl 1 rfl) ?_
    refine xw_iald hx hb hK hP 0 (XS_31 hX) (by decide) rfl (by omega) (by decide) d_PA_handOn_17 ?_
    refine ti (nI d7) (by rw [h7]; rfl) ?_
    refine lv_aload_n hx hb d_PA_handOn_18 rfl (lv_at hl 0 rfl) ?_
    refine xw_get (v := .ref (b + 32)) hx hb hts (fun w h => mw (uw_PA w h)) hown hK hP (XS_18 hX) (by decide) rfl 10 (by decide) (hts _ (mw tb_111)) (fun _ h => h) rfl d_PA_handOn_19 ?_
    refine lv_iload_n hx hb d_PA_handOn_22 rfl (lv_at hl 1 rfl) ?_
    refine xw_iald hx hb hK hP 0 (XS_32 hX) (by decide) rfl (by omega) (by decide) d_PA_handOn_23 ?_
    refine ti (nI i7) (by rw [hrp]; rfl) ?_
    refine lv_aload_n hx hb d_PA_handOn_24 rfl (lv_at hl 2 rfl) ?_
    refine xc_V (n := 4) (As := [.int (nI d), .int (nI d7), .int (nI i7), .ref (b + 11)]) (rest := []) (st0 := _) hx hb hml hown hts (c_PA_handToParent l D ca b _ d d7 i7 hX hd he6 hde hi6 hfi hlei hmoi) km_PA_handToParent tb_235 tb_237 tps_7 tb_4 (by decide +kernel) rfl rfl ⟨Nat.le_of_ble_eq_true rfl, Nat.le_of_ble_eq_true rfl⟩ hK hP (XS_18 hX) (by decide) rfl rfl rfl hl rfl (Nat.le_of_ble_eq_true rfl) d_PA_handOn_25 ⟨Nat.zero_le _, Nat.zero_le _⟩ hS (fun _ h => h) (fun v C H locs hp hP _ _ hS => ?_)
    obtain ⟨rfl, p1, hX⟩ := hp
    refine lv_goto (tgt := 60) hx hb d_PA_handOn_28 (by decide) ?_
    exact xw_vret hx hb hr hlocks hP hS ⟨rfl, _, by rw [hdO_some h7 hrp]; exact hX⟩ d_PA_handOn_60

