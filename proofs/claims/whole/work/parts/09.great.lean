/-! Great: contracts -/
/-- C is C0 but for the Great g, which has n limbs in use and the limbs a -/
def GS (ca : Nat → ClassId) (b : Nat) (C0 : Nat → va_E) (g n : Nat) (a : Nat → Nat) (C : Nat → va_E) : Prop := C g = gobj b g n ∧ C (g + 1) = garr ca a ∧ ∀ k, k ≠ g → k ≠ g + 1 → C k = C0 k
theorem GS.limb {ca : Nat → ClassId} {b : Nat} {C0 : Nat → va_E} {g n : Nat} {a : Nat → Nat} {C : Nat → va_E} {j x : Nat} (h : GS ca b C0 g n a C) : GS ca b C0 g n (va_up a j x) (va_up C (g + 1) (.inl (ca 1, 6, .inr (.inl (vp_updL (fun k => lN (a k)) j (lN x)))))) := by
  rw [garr_up]
  refine ⟨by rw [va_up_ne _ _ (by omega)]; exact h.1, va_up_self _ _ _, fun k h1 h2 => by rw [va_up_ne _ _ h2]; exact h.2.2 k h1 h2⟩
theorem GS.size {ca : Nat → ClassId} {b : Nat} {C0 : Nat → va_E} {g n n1 : Nat} {a : Nat → Nat} {C : Nat → va_E} (h : GS ca b C0 g n a C) : GS ca b C0 g n1 a (va_up C g (.inr (2, ([.ref (b + (g + 1)), .int (nI n)] : List Value).set 1 (.int (nI n1))))) := by
  refine ⟨va_up_self _ _ _, by rw [va_up_ne _ _ (by omega)]; exact h.2.1, fun k h1 h2 => by rw [va_up_ne _ _ h1]; exact h.2.2 k h1 h2⟩
theorem dec1 {n : Nat} (h : 0 < n) : nI n + Int32.ofInt (-1) = nI (n - 1) := by
  obtain ⟨k, rfl⟩ : ∃ k, n = k + 1 := ⟨n - 1, by omega⟩
  exact pk_m1 k
theorem nz0 : narrow .boolean (.int (nI 0)) = .int (nI 0) := by decide
theorem nz1 : narrow .boolean (.int (nI 1)) = .int (nI 1) := by decide
set_option maxHeartbeats 4000000 in
set_option maxRecDepth 100000 in
/-- isZero: whether no limb is in use -/
theorem c_GR_isZero (l : Launch) (D : va_G) (ca : Nat → ClassId) (b N : Nat) (C0 : Nat → va_E) (g n v : Nat) (a : Nat → Nat) (hg : C0 g = gobj b g n) (hga : C0 (g + 1) = garr ca a) (hN : g + 1 < N) (hr0 : gRep a n v) : Met l y_GR_isZero (k_GR_isZero :: gw) ({ frames := 1, cells := 0, slots := 0, locals := 20 }) (xPc D ca b N C0 [.ref (b + g)]) (xQ D b N (fun r C1 => r = some (.int (nI (if n = 0 then 1 else 0))) ∧ C1 = C0)) 0 0 (xr b N) := by
  refine Met.ofW (cc := b_GR_isZero) (maxL := 1) (ret := (some FieldType.boolean)) (by decide) rfl ?_
  intro p e s m args below meth c s₁ B hml hv
  obtain ⟨hav, hP, hK⟩ := hv
  have hx := B.exec
  have hb := B.bytes
  have hr := B.returns
  have hts := atoms_spec (ws := k_GR_isZero :: gw) B.pre
  have hown : s.vm.findClass R_GR = some m.cls := findClass_of_methodNamed B.named
  have hlocks := B.notSynchronized
  have hA : ∀ k, k < N → xr b N (b + k) := xr_in
  have hS : va_S (xr b N) s.heap s.heap [] := va_S.rf
  have hl := lv_entry ([.ref (b + g)]) (n := 1) (Nat.le_of_ble_eq_true rfl)
  rw [hav, lg_entry_eq]
  generalize (lg_sl ([.ref (b + g)]) ++ List.replicate (1 - (lg_sl ([.ref (b + g)])).length) Slot.unset).toArray = ls at hl ⊢
  have hl : lv_has ls 1 [(0, .ref (b + g))] := hl
  rw [← hav]
  have hG : GS ca b C0 g n a C0 := ⟨hg, hga, fun _ _ _ => rfl⟩
  have hn6 : n ≤ 6 := hr0.1.1
  refine lv_aload_n hx hb d_GR_isZero_0 rfl (lv_at hl 0 rfl) ?_
  refine xw_get (v := .int (nI n)) hx hb hts (fun w h => mw (uw_GR w h)) hown hK hP hG.1 (by omega) rfl 1 (by decide) (hts _ (mw tb_91)) (fun _ h => h) rfl d_GR_isZero_1 ?_
  refine xz_ne (tgt := 11) hx hb d_GR_isZero_4 (by decide) (by omega) (fun h4 => ?_) (fun h4 => ?_)
  · skip
    refine lv_iconst (v := nI 0) hx hb d_GR_isZero_11 (by decide) ?_
    exact xw_zret hx hb hr hlocks nz0 hP hS ⟨by rw [if_neg h4], rfl⟩ d_GR_isZero_12
  · skip
    refine lv_iconst (v := nI 1) hx hb d_GR_isZero_7 (by decide) ?_
    refine lv_goto (tgt := 12) hx hb d_GR_isZero_8 (by decide) ?_
    exact xw_zret hx hb hr hlocks nz1 hP hS ⟨by rw [if_pos h4], rfl⟩ d_GR_isZero_12

set_option maxHeartbeats 4000000 in
set_option maxRecDepth 100000 in
/-- set: a small number -/
theorem c_GR_set (l : Launch) (D : va_G) (ca : Nat → ClassId) (b N : Nat) (C0 : Nat → va_E) (g n v : Nat) (a : Nat → Nat) (x : Nat) (hg : C0 g = gobj b g n) (hga : C0 (g + 1) = garr ca a) (hN : g + 1 < N) (hr0 : gRep a n v) (hxx : x < gB) : Met l y_GR_set (k_GR_set :: gw) ({ frames := 1, cells := 0, slots := 0, locals := 22 }) (xPc D ca b N C0 [.ref (b + g), .int (nI x)]) (xQ D b N (fun r C1 => r = none ∧ isG ca b C1 g x ∧ ∀ k, k ≠ g → k ≠ g + 1 → C1 k = C0 k)) 0 0 (xr b N) := by
  refine Met.ofW (cc := b_GR_set) (maxL := 3) (ret := none) (by decide) rfl ?_
  intro p e s m args below meth c s₁ B hml hv
  obtain ⟨hav, hP, hK⟩ := hv
  have hx := B.exec
  have hb := B.bytes
  have hr := B.returns
  have hts := atoms_spec (ws := k_GR_set :: gw) B.pre
  have hown : s.vm.findClass R_GR = some m.cls := findClass_of_methodNamed B.named
  have hlocks := B.notSynchronized
  have hA : ∀ k, k < N → xr b N (b + k) := xr_in
  have hS : va_S (xr b N) s.heap s.heap [] := va_S.rf
  have hl := lv_entry ([.ref (b + g), .int (nI x)]) (n := 3) (Nat.le_of_ble_eq_true rfl)
  rw [hav, lg_entry_eq]
  generalize (lg_sl ([.ref (b + g), .int (nI x)]) ++ List.replicate (3 - (lg_sl ([.ref (b + g), .int (nI x)])).length) Slot.unset).toArray = ls at hl ⊢
  have hl : lv_has ls 3 [(0, .ref (b + g)), (1, .int (nI x))] := hl
  rw [← hav]
  have hG : GS ca b C0 g n a C0 := ⟨hg, hga, fun _ _ _ => rfl⟩
  have hn6 : n ≤ 6 := hr0.1.1
  have hxb : x < 100000000 := hxx
  refine lv_iconst (v := nI 0) hx hb d_GR_set_0 (by decide) ?_
  refine lv_istore_n (lv' := [(2, .int (nI 0)), (0, .ref (b + g)), (1, .int (nI x))]) hx hb d_GR_set_1 rfl hl (by decide) rfl (fun ls hl => ?_)
  have loop2 : ∀ (r : Nat) (i : Nat) (a1 : Nat → Nat) (C : Nat → va_E) (H : Heap) (locs : List Loc) (ls : Array Slot), n < i + r → i ≤ n → (∀ k, i ≤ k → a1 k = a k) → (∀ k, k < i → a1 k = 0) → va_P D classes (wl b N C) H → va_S (xr b N) s.heap H locs → GS ca b C0 g n a1 C → lv_has ls 3 [(0, .ref (b + g)), (1, .int (nI x)), (2, .int (nI i))] → W p l e (headSpec (k_GR_set :: gw) ({ frames := 1, cells := 0, slots := 0, locals := 22 })).room s m args below meth c H locs 0 0 (MQ below (xQ D b N (fun r C1 => r = none ∧ isG ca b C1 g x ∧ ∀ k, k ≠ g → k ≠ g + 1 → C1 k = C0 k)) args s 0 0 (xr b N)) (F0 m 2 ls []) := by
    intro r
    induction r with
    | zero => intro i a1 C H locs ls hm hi hq hz; exact absurd hm (by omega)
    | succ r ih2 =>
      intro i a1 C H locs ls hm hi hq hz hP hS hG hl
      refine lv_iload_n hx hb d_GR_set_2 rfl (lv_at hl 2 rfl) ?_
      refine lv_aload_n hx hb d_GR_set_3 rfl (lv_at hl 0 rfl) ?_
      refine xw_get (v := .int (nI n)) hx hb hts (fun w h => mw (uw_GR w h)) hown hK hP hG.1 (by omega) rfl 1 (by decide) (hts _ (mw tb_91)) (fun _ h => h) rfl d_GR_set_4 ?_
      refine xi_ge (tgt := 23) hx hb d_GR_set_7 (by decide) (by omega) (by omega) (fun h7 => ?_) (fun h7 => ?_)
      · skip
        have hz6 : ∀ k, k < 6 → a1 k = 0 := fun k h6 => by
          by_cases q : k < i
          · exact hz k q
          · rw [hq k (by omega)]; exact hr0.1.2.2 k (by omega) h6
        refine lv_aload_n hx hb d_GR_set_23 rfl (lv_at hl 0 rfl) ?_
        refine xw_get (v := .ref (b + (g + 1))) hx hb hts (fun w h => mw (uw_GR w h)) hown hK hP hG.1 (by omega) rfl 0 (by decide) (hts _ (mw tb_90)) (fun _ h => h) rfl d_GR_set_24 ?_
        refine lv_iconst (v := nI 0) hx hb d_GR_set_27 (by decide) ?_
        refine lv_iload_n hx hb d_GR_set_28 rfl (lv_at hl 1 rfl) ?_
        refine lv_i2l (v := lN x) hx hb d_GR_set_29 (nI_l (by omega)) ?_
        refine xw_last hx hb hK hP hA hS 1 hG.2.1 (by omega) rfl (by omega) (by decide) d_GR_set_30 (fun H locs hP hS => ?_)
        have hG := hG.limb (j := 0) (x := x)
        generalize va_up _ (g + 1) _ = C at hP hG
        refine lv_aload_n hx hb d_GR_set_31 rfl (lv_at hl 0 rfl) ?_
        refine lv_iload_n hx hb d_GR_set_32 rfl (lv_at hl 1 rfl) ?_
        refine xz_ne (tgt := 40) hx hb d_GR_set_33 (by decide) (by omega) (fun h33 => ?_) (fun h33 => ?_)
        · skip
          refine lv_iconst (v := nI 1) hx hb d_GR_set_40 (by decide) ?_
          refine xw_put (v := .int (nI 1)) (ty := t_GR 1) hx hb hts (fun w h => mw (uw_GR w h)) t_GR t_GR_ok n_GR hown hK hP hA hS hG.1 (by omega) rfl 1 (by decide) (hts _ (mw tb_91)) (fun _ h => h) rfl (by decide +kernel) rfl rfl (Nat.le_of_ble_eq_true rfl) d_GR_set_41 (fun H locs hP hS => ?_)
          have hG := hG.size (n1 := 1)
          generalize va_up _ g _ = C at hP hG
          have hrep := gRep_set (a := va_up a1 0 x) hxx (va_up_self _ _ _) (fun k h1 h2 => by rw [va_up_ne _ _ (by omega)]; exact hz6 k h2)
          rw [if_neg h33] at hrep
          exact xw_vret hx hb hr hlocks hP hS ⟨rfl, ⟨_, _, hG.1, hG.2.1, hrep⟩, hG.2.2⟩ d_GR_set_44
        · skip
          refine lv_iconst (v := nI 0) hx hb d_GR_set_36 (by decide) ?_
          refine lv_goto (tgt := 41) hx hb d_GR_set_37 (by decide) ?_
          refine xw_put (v := .int (nI 0)) (ty := t_GR 1) hx hb hts (fun w h => mw (uw_GR w h)) t_GR t_GR_ok n_GR hown hK hP hA hS hG.1 (by omega) rfl 1 (by decide) (hts _ (mw tb_91)) (fun _ h => h) rfl (by decide +kernel) rfl rfl (Nat.le_of_ble_eq_true rfl) d_GR_set_41 (fun H locs hP hS => ?_)
          have hG := hG.size (n1 := 0)
          generalize va_up _ g _ = C at hP hG
          have hrep := gRep_set (a := va_up a1 0 x) hxx (va_up_self _ _ _) (fun k h1 h2 => by rw [va_up_ne _ _ (by omega)]; exact hz6 k h2)
          rw [if_pos h33] at hrep
          exact xw_vret hx hb hr hlocks hP hS ⟨rfl, ⟨_, _, hG.1, hG.2.1, hrep⟩, hG.2.2⟩ d_GR_set_44
      · skip
        refine lv_aload_n hx hb d_GR_set_10 rfl (lv_at hl 0 rfl) ?_
        refine xw_get (v := .ref (b + (g + 1))) hx hb hts (fun w h => mw (uw_GR w h)) hown hK hP hG.1 (by omega) rfl 0 (by decide) (hts _ (mw tb_90)) (fun _ h => h) rfl d_GR_set_11 ?_
        refine lv_iload_n hx hb d_GR_set_14 rfl (lv_at hl 2 rfl) ?_
        refine lv_lconst (v := lN 0) hx hb d_GR_set_15 (by decide) ?_
        refine xw_last hx hb hK hP hA hS 1 hG.2.1 (by omega) rfl (by omega) (by decide) d_GR_set_16 (fun H locs hP hS => ?_)
        have hG := hG.limb (j := i) (x := 0)
        generalize va_up _ (g + 1) _ = C at hP hG
        refine lv_iinc (v := nI (i + 1)) (lv' := [(2, .int (nI (i + 1))), (0, .ref (b + g)), (1, .int (nI x))]) hx hb d_GR_set_17 hl (k := 2) rfl (show nI i + Int32.ofInt 1 = nI (i + 1) from nI_add _ _) (by decide) rfl (fun ls hl => ?_)
        refine lv_goto (tgt := 2) hx hb d_GR_set_20 (by decide) ?_
        exact ih2 (i + 1) (va_up a1 i 0) _ _ _ _ (by omega) (by omega) (fun k hk => by rw [va_up_ne _ _ (by omega)]; exact hq k (by omega)) (fun k hk => by
            by_cases q : k = i
            · rw [q, va_up_self]
            · rw [va_up_ne _ _ q]; exact hz k (by omega)) hP hS hG (lv_sub hl [1, 2, 0] rfl)
  exact loop2 (n + 1) 0 a _ _ _ _ (by omega) (by omega) (fun _ _ => rfl) (fun k hk => absurd hk (by omega)) hP hS hG (lv_sub hl [1, 2, 0] rfl)

set_option maxHeartbeats 4000000 in
set_option maxRecDepth 100000 in
/-- add: the sum, if it can stand there -/
theorem c_GR_add (l : Launch) (D : va_G) (ca : Nat → ClassId) (b N : Nat) (C0 : Nat → va_E) (g o n v n2 w : Nat) (a a2 : Nat → Nat) (hg : C0 g = gobj b g n) (hga : C0 (g + 1) = garr ca a) (ho : C0 o = gobj b o n2) (hoa : C0 (o + 1) = garr ca a2) (hN : g + 1 < N) (hoN : o + 1 < N) (hne : g ≠ o ∧ g + 1 ≠ o ∧ o + 1 ≠ g) (hr0 : gRep a n v) (hr2 : gRep a2 n2 w) : Met l y_GR_add (k_GR_add :: gw) ({ frames := 1, cells := 0, slots := 0, locals := 27 }) (xPc D ca b N C0 [.ref (b + g), .ref (b + o)]) (xQ D b N (fun r C1 => r = none ∧ isG ca b C1 g (v + w) ∧ ∀ k, k ≠ g → k ≠ g + 1 → C1 k = C0 k)) 0 0 (xr b N) := by
  refine Met.ofW (cc := b_GR_add) (maxL := 8) (ret := none) (by decide) rfl ?_
  intro p e s m args below meth c s₁ B hml hv
  obtain ⟨hav, hP, hK⟩ := hv
  have hx := B.exec
  have hb := B.bytes
  have hr := B.returns
  have hts := atoms_spec (ws := k_GR_add :: gw) B.pre
  have hown : s.vm.findClass R_GR = some m.cls := findClass_of_methodNamed B.named
  have hlocks := B.notSynchronized
  have hA : ∀ k, k < N → xr b N (b + k) := xr_in
  have hS : va_S (xr b N) s.heap s.heap [] := va_S.rf
  have hl := lv_entry ([.ref (b + g), .ref (b + o)]) (n := 8) (Nat.le_of_ble_eq_true rfl)
  rw [hav, lg_entry_eq]
  generalize (lg_sl ([.ref (b + g), .ref (b + o)]) ++ List.replicate (8 - (lg_sl ([.ref (b + g), .ref (b + o)])).length) Slot.unset).toArray = ls at hl ⊢
  have hl : lv_has ls 8 [(0, .ref (b + g)), (1, .ref (b + o))] := hl
  rw [← hav]
  have hG : GS ca b C0 g n a C0 := ⟨hg, hga, fun _ _ _ => rfl⟩
  have hn6 : n ≤ 6 := hr0.1.1
  have hn26 : n2 ≤ 6 := hr2.1.1
  obtain ⟨hne1, hne2, hne3⟩ := hne
  refine lv_lconst (v := lN 0) hx hb d_GR_add_0 (by decide) ?_
  refine lv_lstore_n (lv' := [(2, .long (lN 0)), (0, .ref (b + g)), (1, .ref (b + o))]) hx hb d_GR_add_1 rfl hl (by decide) rfl (fun ls hl => ?_)
  refine lv_aload_n hx hb d_GR_add_2 rfl (lv_at hl 1 rfl) ?_
  refine xw_get (v := .int (nI n)) hx hb hts (fun w h => mw (uw_GR w h)) hown hK hP hG.1 (by omega) rfl 1 (by decide) (hts _ (mw tb_91)) (fun _ h => h) rfl d_GR_add_3 ?_
  refine lv_aload_n hx hb d_GR_add_6 rfl (lv_at hl 2 rfl) ?_
  refine xw_get (v := .int (nI n2)) hx hb hts (fun w h => mw (uw_GR w h)) hown hK hP ((hG.2.2 o (by omega) (by omega)).trans ho) (by omega) rfl 1 (by decide) (hts _ (mw tb_91)) (fun _ h => h) rfl d_GR_add_7 ?_
  have j24 : ∀ (u : Nat), (u = n ∨ u = n2) → n ≤ u → n2 ≤ u → W p l e (headSpec (k_GR_add :: gw) ({ frames := 1, cells := 0, slots := 0, locals := 27 })).room s m args below meth c s.heap [] 0 0 (MQ below (xQ D b N (fun r C1 => r = none ∧ isG ca b C1 g (v + w) ∧ ∀ k, k ≠ g → k ≠ g + 1 → C1 k = C0 k)) args s 0 0 (xr b N)) (F0 m 24 ls [.int (nI u)]) := by
    intro u hu hun hum
    refine lv_istore (lv' := [(4, .int (nI u)), (2, .long (lN 0)), (0, .ref (b + g)), (1, .ref (b + o))]) hx hb d_GR_add_24 hl (by decide) rfl (fun ls hl => ?_)
    refine lv_iconst (v := nI 0) hx hb d_GR_add_26 (by decide) ?_
    refine lv_istore (lv' := [(5, .int (nI 0)), (4, .int (nI u)), (2, .long (lN 0)), (0, .ref (b + g)), (1, .ref (b + o))]) hx hb d_GR_add_27 hl (by decide) rfl (fun ls hl => ?_)
    have loop29 : ∀ (r : Nat) (i : Nat) (c1 : Nat) (a1 : Nat → Nat) (C : Nat → va_E) (H : Heap) (locs : List Loc) (ls : Array Slot), 6 < i + r → gAddI a a2 a1 u i c1 → va_P D classes (wl b N C) H → va_S (xr b N) s.heap H locs → GS ca b C0 g n a1 C → lv_has ls 8 [(0, .ref (b + g)), (1, .ref (b + o)), (2, .long (lN c1)), (4, .int (nI u)), (5, .int (nI i))] → W p l e (headSpec (k_GR_add :: gw) ({ frames := 1, cells := 0, slots := 0, locals := 27 })).room s m args below meth c H locs 0 0 (MQ below (xQ D b N (fun r C1 => r = none ∧ isG ca b C1 g (v + w) ∧ ∀ k, k ≠ g → k ≠ g + 1 → C1 k = C0 k)) args s 0 0 (xr b N)) (F0 m 29 ls []) := by
      intro r
      induction r with
      | zero => intro i c1 a1 C H locs ls hm hI; exact absurd hm (by have := hI.1; omega)
      | succ r ih29 =>
        intro i c1 a1 C H locs ls hm hI hP hS hG hl
        have hI0 := hI
        obtain ⟨hI1, hI2, hI3, hI4, hI5, hI6⟩ := hI0
        have j104 : (6 ≤ i ∨ (u ≤ i ∧ c1 = 0)) → W p l e (headSpec (k_GR_add :: gw) ({ frames := 1, cells := 0, slots := 0, locals := 27 })).room s m args below meth c H locs 0 0 (MQ below (xQ D b N (fun r C1 => r = none ∧ isG ca b C1 g (v + w) ∧ ∀ k, k ≠ g → k ≠ g + 1 → C1 k = C0 k)) args s 0 0 (xr b N)) (F0 m 104 ls []) := by
          intro h104
          refine lv_aload_n hx hb d_GR_add_104 rfl (lv_at hl 0 rfl) ?_
          refine lv_iload hx hb d_GR_add_105 (lv_at hl 4 rfl) ?_
          refine xw_put (v := .int (nI i)) (ty := t_GR 1) hx hb hts (fun w h => mw (uw_GR w h)) t_GR t_GR_ok n_GR hown hK hP hA hS hG.1 (by omega) rfl 1 (by decide) (hts _ (mw tb_91)) (fun _ h => h) rfl (by decide +kernel) rfl rfl (Nat.le_of_ble_eq_true rfl) d_GR_add_107 (fun H locs hP hS => ?_)
          have hG := hG.size (n1 := i)
          generalize va_up _ g _ = C at hP hG
          exact xw_vret hx hb hr hlocks hP hS ⟨rfl, ⟨_, _, hG.1, hG.2.1, gAdd_end hr0 hr2 hun hum hu hI h104⟩, hG.2.2⟩ d_GR_add_110
        have j49 : (i < u ∨ 0 < c1) → i < 6 → W p l e (headSpec (k_GR_add :: gw) ({ frames := 1, cells := 0, slots := 0, locals := 27 })).room s m args below meth c H locs 0 0 (MQ below (xQ D b N (fun r C1 => r = none ∧ isG ca b C1 g (v + w) ∧ ∀ k, k ≠ g → k ≠ g + 1 → C1 k = C0 k)) args s 0 0 (xr b N)) (F0 m 49 ls []) := by
          intro h49 h33b
          have e1 : a1 i < 100000000 := hI3 i h33b
          have e2 : a2 i < 100000000 := hr2.1.2.1 i h33b
          refine lv_aload_n hx hb d_GR_add_49 rfl (lv_at hl 0 rfl) ?_
          refine xw_get (v := .ref (b + (g + 1))) hx hb hts (fun w h => mw (uw_GR w h)) hown hK hP hG.1 (by omega) rfl 0 (by decide) (hts _ (mw tb_90)) (fun _ h => h) rfl d_GR_add_50 ?_
          refine lv_iload hx hb d_GR_add_53 (lv_at hl 4 rfl) ?_
          refine xw_lald hx hb hK hP 1 hG.2.1 (by omega) rfl (by omega) (by decide) d_GR_add_55 ?_
          refine lv_aload_n hx hb d_GR_add_56 rfl (lv_at hl 1 rfl) ?_
          refine xw_get (v := .ref (b + (o + 1))) hx hb hts (fun w h => mw (uw_GR w h)) hown hK hP ((hG.2.2 o (by omega) (by omega)).trans ho) (by omega) rfl 0 (by decide) (hts _ (mw tb_90)) (fun _ h => h) rfl d_GR_add_57 ?_
          refine lv_iload hx hb d_GR_add_60 (lv_at hl 4 rfl) ?_
          refine xw_lald hx hb hK hP 1 ((hG.2.2 (o + 1) (by omega) (by omega)).trans hoa) (by omega) rfl (by omega) (by decide) d_GR_add_62 ?_
          refine lv_ladd hx hb d_GR_add_63 ?_
          refine tl (lN ((a1 i) + (a2 i))) (lN_add _ _) ?_
          refine lv_lload_n hx hb d_GR_add_64 rfl (lv_at hl 2 rfl) ?_
          refine lv_ladd hx hb d_GR_add_65 ?_
          refine tl (lN (((a1 i) + (a2 i)) + c1)) (lN_add _ _) ?_
          refine lv_lstore (lv' := [(6, .long (lN (((a1 i) + (a2 i)) + c1))), (0, .ref (b + g)), (1, .ref (b + o)), (2, .long (lN c1)), (4, .int (nI u)), (5, .int (nI i))]) hx hb d_GR_add_66 hl (by decide) rfl (fun ls hl => ?_)
          refine lv_lload hx hb d_GR_add_68 (lv_at hl 0 rfl) ?_
          refine lv_ldc2 (v := lN 100000000) hx hb hown (hts _ (mw tb_257)) d_GR_add_70 ?_
          refine W.lcmp hx hb d_GR_add_73 ?_
          refine xl_lt (tgt := 81) hx hb d_GR_add_74 (by decide) (by omega) (by omega) (fun h74 => ?_) (fun h74 => ?_)
          · skip
            refine lv_lconst (v := lN 0) hx hb d_GR_add_81 (by decide) ?_
            refine lv_lstore_n (lv' := [(2, .long (lN 0)), (6, .long (lN (((a1 i) + (a2 i)) + c1))), (0, .ref (b + g)), (1, .ref (b + o)), (4, .int (nI u)), (5, .int (nI i))]) hx hb d_GR_add_82 rfl hl (by decide) rfl (fun ls hl => ?_)
            refine lv_aload_n hx hb d_GR_add_83 rfl (lv_at hl 2 rfl) ?_
            refine xw_get (v := .ref (b + (g + 1))) hx hb hts (fun w h => mw (uw_GR w h)) hown hK hP hG.1 (by omega) rfl 0 (by decide) (hts _ (mw tb_90)) (fun _ h => h) rfl d_GR_add_84 ?_
            refine lv_iload hx hb d_GR_add_87 (lv_at hl 5 rfl) ?_
            refine lv_lload hx hb d_GR_add_89 (lv_at hl 1 rfl) ?_
            refine lv_lload_n hx hb d_GR_add_91 rfl (lv_at hl 0 rfl) ?_
            refine lv_ldc2 (v := lN 100000000) hx hb hown (hts _ (mw tb_257)) d_GR_add_92 ?_
            refine lv_lmul hx hb d_GR_add_95 ?_
            refine tl (lN (0)) (by decide) ?_
            refine lv_lsub hx hb d_GR_add_96 ?_
            refine tl (lN ((((a1 i) + (a2 i)) + c1) - 0)) (lN_sub (by omega)) ?_
            refine xw_last hx hb hK hP hA hS 1 hG.2.1 (by omega) rfl (by omega) (by decide) d_GR_add_97 (fun H locs hP hS => ?_)
            have hG := hG.limb (j := i) (x := (((a1 i) + (a2 i)) + c1) - 0)
            generalize va_up _ (g + 1) _ = C at hP hG
            refine lv_iinc (v := nI (i + 1)) (lv' := [(5, .int (nI (i + 1))), (2, .long (lN 0)), (6, .long (lN (((a1 i) + (a2 i)) + c1))), (0, .ref (b + g)), (1, .ref (b + o)), (4, .int (nI u))]) hx hb d_GR_add_98 hl (k := 5) rfl (show nI i + Int32.ofInt 1 = nI (i + 1) from nI_add _ _) (by decide) rfl (fun ls hl => ?_)
            refine lv_goto (tgt := 29) hx hb d_GR_add_101 (by decide) ?_
            exact ih29 (i + 1) 0 (va_up a1 i ((((a1 i) + (a2 i)) + c1) - 0)) _ _ _ _ (by omega) (gAddI_s hr2.1.2.1 hI h33b h49 (fun k q1 q2 => ⟨hr0.1.2.2 k (by omega) q2, hr2.1.2.2 k (by omega) q2⟩) (by rw [if_neg (show ¬ gB ≤ a1 i + a2 i + c1 from Nat.not_le.mpr h74)]) (show _ = _ from by show _ + 0 * 100000000 = _; omega)) hP hS hG (lv_sub hl [3, 4, 1, 5, 0] rfl)
          · skip
            refine lv_lconst (v := lN 1) hx hb d_GR_add_77 (by decide) ?_
            refine lv_goto (tgt := 82) hx hb d_GR_add_78 (by decide) ?_
            refine lv_lstore_n (lv' := [(2, .long (lN 1)), (6, .long (lN (((a1 i) + (a2 i)) + c1))), (0, .ref (b + g)), (1, .ref (b + o)), (4, .int (nI u)), (5, .int (nI i))]) hx hb d_GR_add_82 rfl hl (by decide) rfl (fun ls hl => ?_)
            refine lv_aload_n hx hb d_GR_add_83 rfl (lv_at hl 2 rfl) ?_
            refine xw_get (v := .ref (b + (g + 1))) hx hb hts (fun w h => mw (uw_GR w h)) hown hK hP hG.1 (by omega) rfl 0 (by decide) (hts _ (mw tb_90)) (fun _ h => h) rfl d_GR_add_84 ?_
            refine lv_iload hx hb d_GR_add_87 (lv_at hl 5 rfl) ?_
            refine lv_lload hx hb d_GR_add_89 (lv_at hl 1 rfl) ?_
            refine lv_lload_n hx hb d_GR_add_91 rfl (lv_at hl 0 rfl) ?_
            refine lv_ldc2 (v := lN 100000000) hx hb hown (hts _ (mw tb_257)) d_GR_add_92 ?_
            refine lv_lmul hx hb d_GR_add_95 ?_
            refine tl (lN (100000000)) (by decide) ?_
            refine lv_lsub hx hb d_GR_add_96 ?_
            refine tl (lN ((((a1 i) + (a2 i)) + c1) - 100000000)) (lN_sub (by omega)) ?_
            refine xw_last hx hb hK hP hA hS 1 hG.2.1 (by omega) rfl (by omega) (by decide) d_GR_add_97 (fun H locs hP hS => ?_)
            have hG := hG.limb (j := i) (x := (((a1 i) + (a2 i)) + c1) - 100000000)
            generalize va_up _ (g + 1) _ = C at hP hG
            refine lv_iinc (v := nI (i + 1)) (lv' := [(5, .int (nI (i + 1))), (2, .long (lN 1)), (6, .long (lN (((a1 i) + (a2 i)) + c1))), (0, .ref (b + g)), (1, .ref (b + o)), (4, .int (nI u))]) hx hb d_GR_add_98 hl (k := 5) rfl (show nI i + Int32.ofInt 1 = nI (i + 1) from nI_add _ _) (by decide) rfl (fun ls hl => ?_)
            refine lv_goto (tgt := 29) hx hb d_GR_add_101 (by decide) ?_
            exact ih29 (i + 1) 1 (va_up a1 i ((((a1 i) + (a2 i)) + c1) - 100000000)) _ _ _ _ (by omega) (gAddI_s hr2.1.2.1 hI h33b h49 (fun k q1 q2 => ⟨hr0.1.2.2 k (by omega) q2, hr2.1.2.2 k (by omega) q2⟩) (by rw [if_pos (show gB ≤ a1 i + a2 i + c1 from h74)]) (show _ = _ from by show _ + 1 * 100000000 = _; omega)) hP hS hG (lv_sub hl [3, 4, 1, 5, 0] rfl)
        refine lv_iload hx hb d_GR_add_29 (lv_at hl 4 rfl) ?_
        refine lv_bipush (v := nI 6) hx hb d_GR_add_31 (by decide) ?_
        refine xi_ge (tgt := 104) hx hb d_GR_add_33 (by decide) (by omega) (by omega) (fun h33 => ?_) (fun h33 => ?_)
        · skip
          exact j104 (by omega)
        · skip
          refine lv_iload hx hb d_GR_add_36 (lv_at hl 4 rfl) ?_
          refine lv_iload hx hb d_GR_add_38 (lv_at hl 3 rfl) ?_
          refine xi_lt (tgt := 49) hx hb d_GR_add_40 (by decide) (by omega) (by omega) (fun h40 => ?_) (fun h40 => ?_)
          · skip
            exact j49 (by omega) (by omega)
          · skip
            refine lv_lload_n hx hb d_GR_add_43 rfl (lv_at hl 2 rfl) ?_
            refine lv_lconst (v := lN 0) hx hb d_GR_add_44 (by decide) ?_
            refine W.lcmp hx hb d_GR_add_45 ?_
            refine xl_le (tgt := 104) hx hb d_GR_add_46 (by decide) (by omega) (by omega) (fun h46 => ?_) (fun h46 => ?_)
            · skip
              exact j104 (by omega)
            · skip
              exact j49 (by omega) (by omega)
    exact loop29 7 0 0 a _ _ _ _ (by omega) (gAddI_0 hr0.1.2.1) hP hS hG (lv_sub hl [3, 4, 2, 1, 0] rfl)
  refine xi_le (tgt := 20) hx hb d_GR_add_10 (by decide) (by omega) (by omega) (fun h10 => ?_) (fun h10 => ?_)
  · skip
    refine lv_aload_n hx hb d_GR_add_20 rfl (lv_at hl 2 rfl) ?_
    refine xw_get (v := .int (nI n2)) hx hb hts (fun w h => mw (uw_GR w h)) hown hK hP ((hG.2.2 o (by omega) (by omega)).trans ho) (by omega) rfl 1 (by decide) (hts _ (mw tb_91)) (fun _ h => h) rfl d_GR_add_21 ?_
    exact j24 _ (by omega) (by omega) (by omega)
  · skip
    refine lv_aload_n hx hb d_GR_add_13 rfl (lv_at hl 1 rfl) ?_
    refine xw_get (v := .int (nI n)) hx hb hts (fun w h => mw (uw_GR w h)) hown hK hP hG.1 (by omega) rfl 1 (by decide) (hts _ (mw tb_91)) (fun _ h => h) rfl d_GR_add_14 ?_
    refine lv_goto (tgt := 24) hx hb d_GR_add_17 (by decide) ?_
    exact j24 _ (by omega) (by omega) (by omega)

