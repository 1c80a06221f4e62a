/-! Great: contracts -/
/-- C is C0 but for the Great g, which has n limbs in use and the limbs a -/
def GS (ca : Nat → ClassId) (b : Nat) (C0 : Nat → va_E) (g n : Nat) (a : Nat → Nat) (C : Nat → va_E) : Prop := C g = gobj b g n ∧ C (g + 1) = garr ca a ∧ ∀ k, k ≠ g → k ≠ g + 1 → C k = C0 k
theorem GS.limb {ca : Nat → ClassId} {b : Nat} {C0 : Nat → va_E} {g n : Nat} {a : Nat → Nat} {C : Nat → va_E} {j x : Nat} (h : GS ca b C0 g n a C) : GS ca b C0 g n (va_up a j x) (va_up C (g + 1) (.inl (ca 1, 6, .inr (.inl (vp_updL (fun k => lN (a k)) j (lN x)))))) := by
  rw [garr_up]
  refine ⟨by rw [va_up_ne _ _ (by omega)]; exact h.1, va_up_self _ _ _, fun k h1 h2 => by rw [va_up_ne _ _ h2]; exact h.2.2 k h1 h2⟩
theorem GS.size {ca : Nat → ClassId} {b : Nat} {C0 : Nat → va_E} {g n n1 : Nat} {a : Nat → Nat} {C : Nat → va_E} (h : GS ca b C0 g n a C) : GS ca b C0 g n1 a (va_up C g (.inr (2, ([.ref (b + (g + 1)), .int (nI n)] : List Value).set 1 (.int (nI n1))))) := by
  refine ⟨va_up_self _ _ _, by rw [va_up_ne _ _ (by omega)]; exact h.2.1, fun k h1 h2 => by rw [va_up_ne _ _ h1]; exact h.2.2 k h1 h2⟩
theorem dec1 {n : Nat} (h : 0 < n) : nI n + Int32.ofInt (-1) = nI (n - 1) := by
  obtain ⟨k, rfl⟩ : ∃ k, n = k + 1 := ⟨n - 1, by omega⟩
  exact pk_m1 k
theorem decs (x : Int32) : x + Int32.ofInt (-1) = x - nI 1 := by
  rw [Int32.sub_eq_add_neg]
  rfl
theorem nz0 : narrow .boolean (.int (nI 0)) = .int (nI 0) := by decide
theorem nz1 : narrow .boolean (.int (nI 1)) = .int (nI 1) := by decide
set_option maxHeartbeats 4000000 in
set_option maxRecDepth 100000 in
/-- isZero: whether no limb is in use -/
theorem c_GR_isZero (l : Launch) (D : va_G) (ca : Nat → ClassId) (b N : Nat) (C0 : Nat → va_E) (g n v : Nat) (a : Nat → Nat) (hg : C0 g = gobj b g n) (hga : C0 (g + 1) = garr ca a) (hN : g + 1 < N) (hr0 : gRep a n v) : Met l y_GR_isZero (k_GR_isZero :: gw) ({ frames := 1, cells := 0, slots := 0, locals := 20 }) (xPc D ca b N C0 [.ref (b + g)]) (xQ D b N (fun r C1 => r = some (.int (nI (if n = 0 then 1 else 0))) ∧ C1 = C0)) 0 0 (xr b N) := by
  refine Met.ofW (cc := b_GR_isZero) (maxL := 1) (ret := (some FieldType.boolean)) (by decide) rfl ?_
  intro p e s m args below meth c s₁ B hml hv
  obtain ⟨hav, hP, hK⟩ := hv
  have hx := B.exec
  have hb := B.bytes
  have hr := B.returns
  have hts := atoms_spec (ws := k_GR_isZero :: gw) B.pre
  have hown : s.vm.findClass R_GR = some m.cls := findClass_of_methodNamed B.named
  have hlocks := B.notSynchronized
  have hA : ∀ k, k < N → xr b N (b + k) := xr_in
  have hS : va_S (xr b N) s.heap s.heap [] := va_S.rf
  have hl := lv_entry ([.ref (b + g)]) (n := 1) (Nat.le_of_ble_eq_true rfl)
  rw [hav, lg_entry_eq]
  generalize (lg_sl ([.ref (b + g)]) ++ List.replicate (1 - (lg_sl ([.ref (b + g)])).length) Slot.unset).toArray = ls at hl ⊢
  have hl : lv_has ls 1 [(0, .ref (b + g))] := hl
  rw [← hav]
  have hG : GS ca b C0 g n a C0 := ⟨hg, hga, fun _ _ _ => rfl⟩
  have hn6 : n ≤ 6 := hr0.1.1
  refine lv_aload_n hx hb d_GR_isZero_0 rfl (lv_at hl 0 rfl) ?_
  refine xw_get (v := .int (nI n)) hx hb hts (fun w h => mw (uw_GR w h)) hown hK hP hG.1 (by omega) rfl 1 (by decide) (hts _ (mw tb_91)) (fun _ h => h) rfl d_GR_isZero_1 ?_
  refine xz_ne (tgt := 11) hx hb d_GR_isZero_4 (by decide) (by omega) (fun h4 => ?_) (fun h4 => ?_)
  · skip
    refine lv_iconst (v := nI 0) hx hb d_GR_isZero_11 (by decide) ?_
    exact xw_zret hx hb hr hlocks nz0 hP hS ⟨by rw [if_neg h4], rfl⟩ d_GR_isZero_12
  · skip
    refine lv_iconst (v := nI 1) hx hb d_GR_isZero_7 (by decide) ?_
    refine lv_goto (tgt := 12) hx hb d_GR_isZero_8 (by decide) ?_
    exact xw_zret hx hb hr hlocks nz1 hP hS ⟨by rw [if_pos h4], rfl⟩ d_GR_isZero_12

set_option maxHeartbeats 4000000 in
set_option maxRecDepth 100000 in
/-- set: a small number -/
theorem c_GR_set (l : Launch) (D : va_G) (ca : Nat → ClassId) (b N : Nat) (C0 : Nat → va_E) (g n v : Nat) (a : Nat → Nat) (x : Nat) (hg : C0 g = gobj b g n) (hga : C0 (g + 1) = garr ca a) (hN : g + 1 < N) (hr0 : gRep a n v) (hxx : x < gB) : Met l y_GR_set (k_GR_set :: gw) ({ frames := 1, cells := 0, slots := 0, locals := 22 }) (xPc D ca b N C0 [.ref (b + g), .int (nI x)]) (xQ D b N (fun r C1 => r = none ∧ isG ca b C1 g x ∧ ∀ k, k ≠ g → k ≠ g + 1 → C1 k = C0 k)) 0 0 (xr b N) := by
  refine Met.ofW (cc := b_GR_set) (maxL := 3) (ret := none) (by decide) rfl ?_
  intro p e s m args below meth c s₁ B hml hv
  obtain ⟨hav, hP, hK⟩ := hv
  have hx := B.exec
  have hb := B.bytes
  have hr := B.returns
  have hts := atoms_spec (ws := k_GR_set :: gw) B.pre
  have hown : s.vm.findClass R_GR = some m.cls := findClass_of_methodNamed B.named
  have hlocks := B.notSynchronized
  have hA : ∀ k, k < N → xr b N (b + k) := xr_in
  have hS : va_S (xr b N) s.heap s.heap [] := va_S.rf
  have hl := lv_entry ([.ref (b + g), .int (nI x)]) (n := 3) (Nat.le_of_ble_eq_true rfl)
  rw [hav, lg_entry_eq]
  generalize (lg_sl ([.ref (b + g), .int (nI x)]) ++ List.replicate (3 - (lg_sl ([.ref (b + g), .int (nI x)])).length) Slot.unset).toArray = ls at hl ⊢
  have hl : lv_has ls 3 [(0, .ref (b + g)), (1, .int (nI x))] := hl
  rw [← hav]
  have hG : GS ca b C0 g n a C0 := ⟨hg, hga, fun _ _ _ => rfl⟩
  have hn6 : n ≤ 6 := hr0.1.1
  have hxb : x < 100000000 := hxx
  refine lv_iconst (v := nI 0) hx hb d_GR_set_0 (by decide) ?_
  refine lv_istore_n (lv' := [(2, .int (nI 0)), (0, .ref (b + g)), (1, .int (nI x))]) hx hb d_GR_set_1 rfl hl (by decide) rfl (fun ls hl => ?_)
  have loop2 : ∀ (r : Nat) (i : Nat) (a1 : Nat → Nat) (C : Nat → va_E) (H : Heap) (locs : List Loc) (ls : Array Slot), n < i + r → i ≤ n → (∀ k, i ≤ k → a1 k = a k) → (∀ k, k < i → a1 k = 0) → va_P D classes (wl b N C) H → va_S (xr b N) s.heap H locs → GS ca b C0 g n a1 C → lv_has ls 3 [(0, .ref (b + g)), (1, .int (nI x)), (2, .int (nI i))] → W p l e (headSpec (k_GR_set :: gw) ({ frames := 1, cells := 0, slots := 0, locals := 22 })).room s m args below meth c H locs 0 0 (MQ below (xQ D b N (fun r C1 => r = none ∧ isG ca b C1 g x ∧ ∀ k, k ≠ g → k ≠ g + 1 → C1 k = C0 k)) args s 0 0 (xr b N)) (F0 m 2 ls []) := by
    intro r
    induction r with
    | zero => intro i a1 C H locs ls hm hi hq hz; exact absurd hm (by omega)
    | succ r ih2 =>
      intro i a1 C H locs ls hm hi hq hz hP hS hG hl
      refine lv_iload_n hx hb d_GR_set_2 rfl (lv_at hl 2 rfl) ?_
      refine lv_aload_n hx hb d_GR_set_3 rfl (lv_at hl 0 rfl) ?_
      refine xw_get (v := .int (nI n)) hx hb hts (fun w h => mw (uw_GR w h)) hown hK hP hG.1 (by omega) rfl 1 (by decide) (hts _ (mw tb_91)) (fun _ h => h) rfl d_GR_set_4 ?_
      refine xi_ge (tgt := 23) hx hb d_GR_set_7 (by decide) (by omega) (by omega) (fun h7 => ?_) (fun h7 => ?_)
      · skip
        have hz6 : ∀ k, k < 6 → a1 k = 0 := fun k h6 => by
          by_cases q : k < i
          · exact hz k q
          · rw [hq k (by omega)]; exact hr0.1.2.2 k (by omega) h6
        refine lv_aload_n hx hb d_GR_set_23 rfl (lv_at hl 0 rfl) ?_
        refine xw_get (v := .ref (b + (g + 1))) hx hb hts (fun w h => mw (uw_GR w h)) hown hK hP hG.1 (by omega) rfl 0 (by decide) (hts _ (mw tb_90)) (fun _ h => h) rfl d_GR_set_24 ?_
        refine lv_iconst (v := nI 0) hx hb d_GR_set_27 (by decide) ?_
        refine lv_iload_n hx hb d_GR_set_28 rfl (lv_at hl 1 rfl) ?_
        refine lv_i2l (v := lN x) hx hb d_GR_set_29 (nI_l (by omega)) ?_
        refine xw_last hx hb hK hP hA hS 1 hG.2.1 (by omega) rfl (by omega) (by decide) d_GR_set_30 (fun H locs hP hS => ?_)
        have hG := hG.limb (j := 0) (x := x)
        generalize va_up _ (g + 1) _ = C at hP hG
        refine lv_aload_n hx hb d_GR_set_31 rfl (lv_at hl 0 rfl) ?_
        refine lv_iload_n hx hb d_GR_set_32 rfl (lv_at hl 1 rfl) ?_
        refine xz_ne (tgt := 40) hx hb d_GR_set_33 (by decide) (by omega) (fun h33 => ?_) (fun h33 => ?_)
        · skip
          refine lv_iconst (v := nI 1) hx hb d_GR_set_40 (by decide) ?_
          refine xw_put (v := .int (nI 1)) (ty := t_GR 1) hx hb hts (fun w h => mw (uw_GR w h)) t_GR t_GR_ok n_GR hown hK hP hA hS hG.1 (by omega) rfl 1 (by decide) (hts _ (mw tb_91)) (fun _ h => h) rfl (by decide +kernel) rfl rfl (Nat.le_of_ble_eq_true rfl) d_GR_set_41 (fun H locs hP hS => ?_)
          have hG := hG.size (n1 := 1)
          generalize va_up _ g _ = C at hP hG
          have hrep := gRep_set (a := va_up a1 0 x) hxx (va_up_self _ _ _) (fun k h1 h2 => by rw [va_up_ne _ _ (by omega)]; exact hz6 k h2)
          rw [if_neg h33] at hrep
          exact xw_vret hx hb hr hlocks hP hS ⟨rfl, ⟨_, _, hG.1, hG.2.1, hrep⟩, hG.2.2⟩ d_GR_set_44
        · skip
          refine lv_iconst (v := nI 0) hx hb d_GR_set_36 (by decide) ?_
          refine lv_goto (tgt := 41) hx hb d_GR_set_37 (by decide) ?_
          refine xw_put (v := .int (nI 0)) (ty := t_GR 1) hx hb hts (fun w h => mw (uw_GR w h)) t_GR t_GR_ok n_GR hown hK hP hA hS hG.1 (by omega) rfl 1 (by decide) (hts _ (mw tb_91)) (fun _ h => h) rfl (by decide +kernel) rfl rfl (Nat.le_of_ble_eq_true rfl) d_GR_set_41 (fun H locs hP hS => ?_)
          have hG := hG.size (n1 := 0)
          generalize va_up _ g _ = C at hP hG
          have hrep := gRep_set (a := va_up a1 0 x) hxx (va_up_self _ _ _) (fun k h1 h2 => by rw [va_up_ne _ _ (by omega)]; exact hz6 k h2)
          rw [if_pos h33] at hrep
          exact xw_vret hx hb hr hlocks hP hS ⟨rfl, ⟨_, _, hG.1, hG.2.1, hrep⟩, hG.2.2⟩ d_GR_set_44
      · skip
        refine lv_aload_n hx hb d_GR_set_10 rfl (lv_at hl 0 rfl) ?_
        refine xw_get (v := .ref (b + (g + 1))) hx hb hts (fun w h => mw (uw_GR w h)) hown hK hP hG.1 (by omega) rfl 0 (by decide) (hts _ (mw tb_90)) (fun _ h => h) rfl d_GR_set_11 ?_
        refine lv_iload_n hx hb d_GR_set_14 rfl (lv_at hl 2 rfl) ?_
        refine lv_lconst (v := lN 0) hx hb d_GR_set_15 (by decide) ?_
        refine xw_last hx hb hK hP hA hS 1 hG.2.1 (by omega) rfl (by omega) (by decide) d_GR_set_16 (fun H locs hP hS => ?_)
        have hG := hG.limb (j := i) (x := 0)
        generalize va_up _ (g + 1) _ = C at hP hG
        refine lv_iinc (v := nI (i + 1)) (lv' := [(2, .int (nI (i + 1))), (0, .ref (b + g)), (1, .int (nI x))]) hx hb d_GR_set_17 hl (k := 2) rfl (show nI i + Int32.ofInt 1 = nI (i + 1) from nI_add _ _) (by decide) rfl (fun ls hl => ?_)
        refine lv_goto (tgt := 2) hx hb d_GR_set_20 (by decide) ?_
        exact ih2 (i + 1) (va_up a1 i 0) _ _ _ _ (by omega) (by omega) (fun k hk => by rw [va_up_ne _ _ (by omega)]; exact hq k (by omega)) (fun k hk => by
            by_cases q : k = i
            · rw [q, va_up_self]
            · rw [va_up_ne _ _ q]; exact hz k (by omega)) hP hS hG (lv_sub hl [1, 2, 0] rfl)
  exact loop2 (n + 1) 0 a _ _ _ _ (by omega) (by omega) (fun _ _ => rfl) (fun k hk => absurd hk (by omega)) hP hS hG (lv_sub hl [1, 2, 0] rfl)

set_option maxHeartbeats 4000000 in
set_option maxRecDepth 100000 in
/-- add: the sum, if it can stand there -/
theorem c_GR_add (l : Launch) (D : va_G) (ca : Nat → ClassId) (b N : Nat) (C0 : Nat → va_E) (g o n v n2 w : Nat) (a a2 : Nat → Nat) (hg : C0 g = gobj b g n) (hga : C0 (g + 1) = garr ca a) (ho : C0 o = gobj b o n2) (hoa : C0 (o + 1) = garr ca a2) (hN : g + 1 < N) (hoN : o + 1 < N) (hne : g ≠ o ∧ g + 1 ≠ o ∧ o + 1 ≠ g) (hr0 : gRep a n v) (hr2 : gRep a2 n2 w) : Met l y_GR_add (k_GR_add :: gw) ({ frames := 1, cells := 0, slots := 0, locals := 27 }) (xPc D ca b N C0 [.ref (b + g), .ref (b + o)]) (xQ D b N (fun r C1 => r = none ∧ isG ca b C1 g (v + w) ∧ ∀ k, k ≠ g → k ≠ g + 1 → C1 k = C0 k)) 0 0 (xr b N) := by
  refine Met.ofW (cc := b_GR_add) (maxL := 8) (ret := none) (by decide) rfl ?_
  intro p e s m args below meth c s₁ B hml hv
  obtain ⟨hav, hP, hK⟩ := hv
  have hx := B.exec
  have hb := B.bytes
  have hr := B.returns
  have hts := atoms_spec (ws := k_GR_add :: gw) B.pre
  have hown : s.vm.findClass R_GR = some m.cls := findClass_of_methodNamed B.named
  have hlocks := B.notSynchronized
  have hA : ∀ k, k < N → xr b N (b + k) := xr_in
  have hS : va_S (xr b N) s.heap s.heap [] := va_S.rf
  have hl := lv_entry ([.ref (b + g), .ref (b + o)]) (n := 8) (Nat.le_of_ble_eq_true rfl)
  rw [hav, lg_entry_eq]
  generalize (lg_sl ([.ref (b + g), .ref (b + o)]) ++ List.replicate (8 - (lg_sl ([.ref (b + g), .ref (b + o)])).length) Slot.unset).toArray = ls at hl ⊢
  have hl : lv_has ls 8 [(0, .ref (b + g)), (1, .ref (b + o))] := hl
  rw [← hav]
  have hG : GS ca b C0 g n a C0 := ⟨hg, hga, fun _ _ _ => rfl⟩
  have hn6 : n ≤ 6 := hr0.1.1
  have hn26 : n2 ≤ 6 := hr2.1.1
  obtain ⟨hne1, hne2, hne3⟩ := hne
  refine lv_lconst (v := lN 0) hx hb d_GR_add_0 (by decide) ?_
  refine lv_lstore_n (lv' := [(2, .long (lN 0)), (0, .ref (b + g)), (1, .ref (b + o))]) hx hb d_GR_add_1 rfl hl (by decide) rfl (fun ls hl => ?_)
  refine lv_aload_n hx hb d_GR_add_2 rfl (lv_at hl 1 rfl) ?_
  refine xw_get (v := .int (nI n)) hx hb hts (fun w h => mw (uw_GR w h)) hown hK hP hG.1 (by omega) rfl 1 (by decide) (hts _ (mw tb_91)) (fun _ h => h) rfl d_GR_add_3 ?_
  refine lv_aload_n hx hb d_GR_add_6 rfl (lv_at hl 2 rfl) ?_
  refine xw_get (v := .int (nI n2)) hx hb hts (fun w h => mw (uw_GR w h)) hown hK hP ((hG.2.2 o (by omega) (by omega)).trans ho) (by omega) rfl 1 (by decide) (hts _ (mw tb_91)) (fun _ h => h) rfl d_GR_add_7 ?_
  have j24 : ∀ (u : Nat), (u = n ∨ u = n2) → n ≤ u → n2 ≤ u → W p l e (headSpec (k_GR_add :: gw) ({ frames := 1, cells := 0, slots := 0, locals := 27 })).room s m args below meth c s.heap [] 0 0 (MQ below (xQ D b N (fun r C1 => r = none ∧ isG ca b C1 g (v + w) ∧ ∀ k, k ≠ g → k ≠ g + 1 → C1 k = C0 k)) args s 0 0 (xr b N)) (F0 m 24 ls [.int (nI u)]) := by
    intro u hu hun hum
    refine lv_istore (lv' := [(4, .int (nI u)), (2, .long (lN 0)), (0, .ref (b + g)), (1, .ref (b + o))]) hx hb d_GR_add_24 hl (by decide) rfl (fun ls hl => ?_)
    refine lv_iconst (v := nI 0) hx hb d_GR_add_26 (by decide) ?_
    refine lv_istore (lv' := [(5, .int (nI 0)), (4, .int (nI u)), (2, .long (lN 0)), (0, .ref (b + g)), (1, .ref (b + o))]) hx hb d_GR_add_27 hl (by decide) rfl (fun ls hl => ?_)
    have loop29 : ∀ (r : Nat) (i : Nat) (c1 : Nat) (a1 : Nat → Nat) (C : Nat → va_E) (H : Heap) (locs : List Loc) (ls : Array Slot), 6 < i + r → gAddI a a2 a1 u i c1 → va_P D classes (wl b N C) H → va_S (xr b N) s.heap H locs → GS ca b C0 g n a1 C → lv_has ls 8 [(0, .ref (b + g)), (1, .ref (b + o)), (2, .long (lN c1)), (4, .int (nI u)), (5, .int (nI i))] → W p l e (headSpec (k_GR_add :: gw) ({ frames := 1, cells := 0, slots := 0, locals := 27 })).room s m args below meth c H locs 0 0 (MQ below (xQ D b N (fun r C1 => r = none ∧ isG ca b C1 g (v + w) ∧ ∀ k, k ≠ g → k ≠ g + 1 → C1 k = C0 k)) args s 0 0 (xr b N)) (F0 m 29 ls []) := by
      intro r
      induction r with
      | zero => intro i c1 a1 C H locs ls hm hI; exact absurd hm (by have := hI.1; omega)
      | succ r ih29 =>
        intro i c1 a1 C H locs ls hm hI hP hS hG hl
        have hI0 := hI
        obtain ⟨hI1, hI2, hI3, hI4, hI5, hI6⟩ := hI0
        have j104 : (6 ≤ i ∨ (u ≤ i ∧ c1 = 0)) → W p l e (headSpec (k_GR_add :: gw) ({ frames := 1, cells := 0, slots := 0, locals := 27 })).room s m args below meth c H locs 0 0 (MQ below (xQ D b N (fun r C1 => r = none ∧ isG ca b C1 g (v + w) ∧ ∀ k, k ≠ g → k ≠ g + 1 → C1 k = C0 k)) args s 0 0 (xr b N)) (F0 m 104 ls []) := by
          intro h104
          refine lv_aload_n hx hb d_GR_add_104 rfl (lv_at hl 0 rfl) ?_
          refine lv_iload hx hb d_GR_add_105 (lv_at hl 4 rfl) ?_
          refine xw_put (v := .int (nI i)) (ty := t_GR 1) hx hb hts (fun w h => mw (uw_GR w h)) t_GR t_GR_ok n_GR hown hK hP hA hS hG.1 (by omega) rfl 1 (by decide) (hts _ (mw tb_91)) (fun _ h => h) rfl (by decide +kernel) rfl rfl (Nat.le_of_ble_eq_true rfl) d_GR_add_107 (fun H locs hP hS => ?_)
          have hG := hG.size (n1 := i)
          generalize va_up _ g _ = C at hP hG
          exact xw_vret hx hb hr hlocks hP hS ⟨rfl, ⟨_, _, hG.1, hG.2.1, gAdd_end hr0 hr2 hun hum hu hI h104⟩, hG.2.2⟩ d_GR_add_110
        have j49 : (i < u ∨ 0 < c1) → i < 6 → W p l e (headSpec (k_GR_add :: gw) ({ frames := 1, cells := 0, slots := 0, locals := 27 })).room s m args below meth c H locs 0 0 (MQ below (xQ D b N (fun r C1 => r = none ∧ isG ca b C1 g (v + w) ∧ ∀ k, k ≠ g → k ≠ g + 1 → C1 k = C0 k)) args s 0 0 (xr b N)) (F0 m 49 ls []) := by
          intro h49 h33b
          have e1 : a1 i < 100000000 := hI3 i h33b
          have e2 : a2 i < 100000000 := hr2.1.2.1 i h33b
          refine lv_aload_n hx hb d_GR_add_49 rfl (lv_at hl 0 rfl) ?_
          refine xw_get (v := .ref (b + (g + 1))) hx hb hts (fun w h => mw (uw_GR w h)) hown hK hP hG.1 (by omega) rfl 0 (by decide) (hts _ (mw tb_90)) (fun _ h => h) rfl d_GR_add_50 ?_
          refine lv_iload hx hb d_GR_add_53 (lv_at hl 4 rfl) ?_
          refine xw_lald hx hb hK hP 1 hG.2.1 (by omega) rfl (by omega) (by decide) d_GR_add_55 ?_
          refine lv_aload_n hx hb d_GR_add_56 rfl (lv_at hl 1 rfl) ?_
          refine xw_get (v := .ref (b + (o + 1))) hx hb hts (fun w h => mw (uw_GR w h)) hown hK hP ((hG.2.2 o (by omega) (by omega)).trans ho) (by omega) rfl 0 (by decide) (hts _ (mw tb_90)) (fun _ h => h) rfl d_GR_add_57 ?_
          refine lv_iload hx hb d_GR_add_60 (lv_at hl 4 rfl) ?_
          refine xw_lald hx hb hK hP 1 ((hG.2.2 (o + 1) (by omega) (by omega)).trans hoa) (by omega) rfl (by omega) (by decide) d_GR_add_62 ?_
          refine lv_ladd hx hb d_GR_add_63 ?_
          refine tl (lN ((a1 i) + (a2 i))) (lN_add _ _) ?_
          refine lv_lload_n hx hb d_GR_add_64 rfl (lv_at hl 2 rfl) ?_
          refine lv_ladd hx hb d_GR_add_65 ?_
          refine tl (lN (((a1 i) + (a2 i)) + c1)) (lN_add _ _) ?_
          refine lv_lstore (lv' := [(6, .long (lN (((a1 i) + (a2 i)) + c1))), (0, .ref (b + g)), (1, .ref (b + o)), (2, .long (lN c1)), (4, .int (nI u)), (5, .int (nI i))]) hx hb d_GR_add_66 hl (by decide) rfl (fun ls hl => ?_)
          refine lv_lload hx hb d_GR_add_68 (lv_at hl 0 rfl) ?_
          refine lv_ldc2 (v := lN 100000000) hx hb hown (hts _ (mw tb_257)) d_GR_add_70 ?_
          refine W.lcmp hx hb d_GR_add_73 ?_
          refine xl_lt (tgt := 81) hx hb d_GR_add_74 (by decide) (by omega) (by omega) (fun h74 => ?_) (fun h74 => ?_)
          · skip
            refine lv_lconst (v := lN 0) hx hb d_GR_add_81 (by decide) ?_
            refine lv_lstore_n (lv' := [(2, .long (lN 0)), (6, .long (lN (((a1 i) + (a2 i)) + c1))), (0, .ref (b + g)), (1, .ref (b + o)), (4, .int (nI u)), (5, .int (nI i))]) hx hb d_GR_add_82 rfl hl (by decide) rfl (fun ls hl => ?_)
            refine lv_aload_n hx hb d_GR_add_83 rfl (lv_at hl 2 rfl) ?_
            refine xw_get (v := .ref (b + (g + 1))) hx hb hts (fun w h => mw (uw_GR w h)) hown hK hP hG.1 (by omega) rfl 0 (by decide) (hts _ (mw tb_90)) (fun _ h => h) rfl d_GR_add_84 ?_
            refine lv_iload hx hb d_GR_add_87 (lv_at hl 5 rfl) ?_
            refine lv_lload hx hb d_GR_add_89 (lv_at hl 1 rfl) ?_
            refine lv_lload_n hx hb d_GR_add_91 rfl (lv_at hl 0 rfl) ?_
            refine lv_ldc2 (v := lN 100000000) hx hb hown (hts _ (mw tb_257)) d_GR_add_92 ?_
            refine lv_lmul hx hb d_GR_add_95 ?_
            refine tl (lN (0)) (by decide) ?_
            refine lv_lsub hx hb d_GR_add_96 ?_
            refine tl (lN ((((a1 i) + (a2 i)) + c1) - 0)) (lN_sub (by omega)) ?_
            refine xw_last hx hb hK hP hA hS 1 hG.2.1 (by omega) rfl (by omega) (by decide) d_GR_add_97 (fun H locs hP hS => ?_)
            have hG := hG.limb (j := i) (x := (((a1 i) + (a2 i)) + c1) - 0)
            generalize va_up _ (g + 1) _ = C at hP hG
            refine lv_iinc (v := nI (i + 1)) (lv' := [(5, .int (nI (i + 1))), (2, .long (lN 0)), (6, .long (lN (((a1 i) + (a2 i)) + c1))), (0, .ref (b + g)), (1, .ref (b + o)), (4, .int (nI u))]) hx hb d_GR_add_98 hl (k := 5) rfl (show nI i + Int32.ofInt 1 = nI (i + 1) from nI_add _ _) (by decide) rfl (fun ls hl => ?_)
            refine lv_goto (tgt := 29) hx hb d_GR_add_101 (by decide) ?_
            exact ih29 (i + 1) 0 (va_up a1 i ((((a1 i) + (a2 i)) + c1) - 0)) _ _ _ _ (by omega) (gAddI_s hr2.1.2.1 hI h33b h49 (fun k q1 q2 => ⟨hr0.1.2.2 k (by omega) q2, hr2.1.2.2 k (by omega) q2⟩) (by rw [if_neg (show ¬ gB ≤ a1 i + a2 i + c1 from Nat.not_le.mpr h74)]) (show _ = _ from by show _ + 0 * 100000000 = _; omega)) hP hS hG (lv_sub hl [3, 4, 1, 5, 0] rfl)
          · skip
            refine lv_lconst (v := lN 1) hx hb d_GR_add_77 (by decide) ?_
            refine lv_goto (tgt := 82) hx hb d_GR_add_78 (by decide) ?_
            refine lv_lstore_n (lv' := [(2, .long (lN 1)), (6, .long (lN (((a1 i) + (a2 i)) + c1))), (0, .ref (b + g)), (1, .ref (b + o)), (4, .int (nI u)), (5, .int (nI i))]) hx hb d_GR_add_82 rfl hl (by decide) rfl (fun ls hl => ?_)
            refine lv_aload_n hx hb d_GR_add_83 rfl (lv_at hl 2 rfl) ?_
            refine xw_get (v := .ref (b + (g + 1))) hx hb hts (fun w h => mw (uw_GR w h)) hown hK hP hG.1 (by omega) rfl 0 (by decide) (hts _ (mw tb_90)) (fun _ h => h) rfl d_GR_add_84 ?_
            refine lv_iload hx hb d_GR_add_87 (lv_at hl 5 rfl) ?_
            refine lv_lload hx hb d_GR_add_89 (lv_at hl 1 rfl) ?_
            refine lv_lload_n hx hb d_GR_add_91 rfl (lv_at hl 0 rfl) ?_
            refine lv_ldc2 (v := lN 100000000) hx hb hown (hts _ (mw tb_257)) d_GR_add_92 ?_
            refine lv_lmul hx hb d_GR_add_95 ?_
            refine tl (lN (100000000)) (by decide) ?_
            refine lv_lsub hx hb d_GR_add_96 ?_
            refine tl (lN ((((a1 i) + (a2 i)) + c1) - 100000000)) (lN_sub (by omega)) ?_
            refine xw_last hx hb hK hP hA hS 1 hG.2.1 (by omega) rfl (by omega) (by decide) d_GR_add_97 (fun H locs hP hS => ?_)
            have hG := hG.limb (j := i) (x := (((a1 i) + (a2 i)) + c1) - 100000000)
            generalize va_up _ (g + 1) _ = C at hP hG
            refine lv_iinc (v := nI (i + 1)) (lv' := [(5, .int (nI (i + 1))), (2, .long (lN 1)), (6, .long (lN (((a1 i) + (a2 i)) + c1))), (0, .ref (b + g)), (1, .ref (b + o)), (4, .int (nI u))]) hx hb d_GR_add_98 hl (k := 5) rfl (show nI i + Int32.ofInt 1 = nI (i + 1) from nI_add _ _) (by decide) rfl (fun ls hl => ?_)
            refine lv_goto (tgt := 29) hx hb d_GR_add_101 (by decide) ?_
            exact ih29 (i + 1) 1 (va_up a1 i ((((a1 i) + (a2 i)) + c1) - 100000000)) _ _ _ _ (by omega) (gAddI_s hr2.1.2.1 hI h33b h49 (fun k q1 q2 => ⟨hr0.1.2.2 k (by omega) q2, hr2.1.2.2 k (by omega) q2⟩) (by rw [if_pos (show gB ≤ a1 i + a2 i + c1 from h74)]) (show _ = _ from by show _ + 1 * 100000000 = _; omega)) hP hS hG (lv_sub hl [3, 4, 1, 5, 0] rfl)
        refine lv_iload hx hb d_GR_add_29 (lv_at hl 4 rfl) ?_
        refine lv_bipush (v := nI 6) hx hb d_GR_add_31 (by decide) ?_
        refine xi_ge (tgt := 104) hx hb d_GR_add_33 (by decide) (by omega) (by omega) (fun h33 => ?_) (fun h33 => ?_)
        · skip
          exact j104 (by omega)
        · skip
          refine lv_iload hx hb d_GR_add_36 (lv_at hl 4 rfl) ?_
          refine lv_iload hx hb d_GR_add_38 (lv_at hl 3 rfl) ?_
          refine xi_lt (tgt := 49) hx hb d_GR_add_40 (by decide) (by omega) (by omega) (fun h40 => ?_) (fun h40 => ?_)
          · skip
            exact j49 (by omega) (by omega)
          · skip
            refine lv_lload_n hx hb d_GR_add_43 rfl (lv_at hl 2 rfl) ?_
            refine lv_lconst (v := lN 0) hx hb d_GR_add_44 (by decide) ?_
            refine W.lcmp hx hb d_GR_add_45 ?_
            refine xl_le (tgt := 104) hx hb d_GR_add_46 (by decide) (by omega) (by omega) (fun h46 => ?_) (fun h46 => ?_)
            · skip
              exact j104 (by omega)
            · skip
              exact j49 (by omega) (by omega)
    exact loop29 7 0 0 a _ _ _ _ (by omega) (gAddI_0 hr0.1.2.1) hP hS hG (lv_sub hl [3, 4, 2, 1, 0] rfl)
  refine xi_le (tgt := 20) hx hb d_GR_add_10 (by decide) (by omega) (by omega) (fun h10 => ?_) (fun h10 => ?_)
  · skip
    refine lv_aload_n hx hb d_GR_add_20 rfl (lv_at hl 2 rfl) ?_
    refine xw_get (v := .int (nI n2)) hx hb hts (fun w h => mw (uw_GR w h)) hown hK hP ((hG.2.2 o (by omega) (by omega)).trans ho) (by omega) rfl 1 (by decide) (hts _ (mw tb_91)) (fun _ h => h) rfl d_GR_add_21 ?_
    exact j24 _ (by omega) (by omega) (by omega)
  · skip
    refine lv_aload_n hx hb d_GR_add_13 rfl (lv_at hl 1 rfl) ?_
    refine xw_get (v := .int (nI n)) hx hb hts (fun w h => mw (uw_GR w h)) hown hK hP hG.1 (by omega) rfl 1 (by decide) (hts _ (mw tb_91)) (fun _ h => h) rfl d_GR_add_14 ?_
    refine lv_goto (tgt := 24) hx hb d_GR_add_17 (by decide) ?_
    exact j24 _ (by omega) (by omega) (by omega)

set_option maxHeartbeats 4000000 in
set_option maxRecDepth 100000 in
/-- multiply: the product, if it can stand there -/
theorem c_GR_multiply (l : Launch) (D : va_G) (ca : Nat → ClassId) (b N : Nat) (C0 : Nat → va_E) (g o n v n2 w : Nat) (a a2 : Nat → Nat) (hg : C0 g = gobj b g n) (hga : C0 (g + 1) = garr ca a) (ho : C0 o = gobj b o n2) (hoa : C0 (o + 1) = garr ca a2) (hN : g + 1 < N) (hoN : o + 1 < N) (hne : g ≠ o ∧ g + 1 ≠ o ∧ o + 1 ≠ g) (hr0 : gRep a n v) (hr2 : gRep a2 n2 w) : Met l y_GR_multiply (k_GR_multiply :: gw) ({ frames := 1, cells := 0, slots := 0, locals := 30 }) (xPc D ca b N C0 [.ref (b + g), .ref (b + o)]) (xQ D b N (fun r C1 => r = none ∧ isG ca b C1 g (v * w) ∧ ∀ k, k ≠ g → k ≠ g + 1 → C1 k = C0 k)) 0 0 (xr b N) := by
  refine Met.ofW (cc := b_GR_multiply) (maxL := 11) (ret := none) (by decide) rfl ?_
  intro p e s m args below meth c s₁ B hml hv
  obtain ⟨hav, hP, hK⟩ := hv
  have hx := B.exec
  have hb := B.bytes
  have hr := B.returns
  have hts := atoms_spec (ws := k_GR_multiply :: gw) B.pre
  have hown : s.vm.findClass R_GR = some m.cls := findClass_of_methodNamed B.named
  have hlocks := B.notSynchronized
  have hA : ∀ k, k < N → xr b N (b + k) := xr_in
  have hS : va_S (xr b N) s.heap s.heap [] := va_S.rf
  have hl := lv_entry ([.ref (b + g), .ref (b + o)]) (n := 11) (Nat.le_of_ble_eq_true rfl)
  rw [hav, lg_entry_eq]
  generalize (lg_sl ([.ref (b + g), .ref (b + o)]) ++ List.replicate (11 - (lg_sl ([.ref (b + g), .ref (b + o)])).length) Slot.unset).toArray = ls at hl ⊢
  have hl : lv_has ls 11 [(0, .ref (b + g)), (1, .ref (b + o))] := hl
  rw [← hav]
  have hG : GS ca b C0 g n a C0 := ⟨hg, hga, fun _ _ _ => rfl⟩
  have hn6 : n ≤ 6 := hr0.1.1
  have hn26 : n2 ≤ 6 := hr2.1.1
  obtain ⟨hne1, hne2, hne3⟩ := hne
  refine lv_aload_n hx hb d_GR_multiply_0 rfl (lv_at hl 0 rfl) ?_
  refine xw_get (v := .int (nI n)) hx hb hts (fun w h => mw (uw_GR w h)) hown hK hP hG.1 (by omega) rfl 1 (by decide) (hts _ (mw tb_91)) (fun _ h => h) rfl d_GR_multiply_1 ?_
  refine lv_aload_n hx hb d_GR_multiply_4 rfl (lv_at hl 1 rfl) ?_
  refine xw_get (v := .int (nI n2)) hx hb hts (fun w h => mw (uw_GR w h)) hown hK hP ((hG.2.2 o (by omega) (by omega)).trans ho) (by omega) rfl 1 (by decide) (hts _ (mw tb_91)) (fun _ h => h) rfl d_GR_multiply_5 ?_
  refine lv_iadd hx hb d_GR_multiply_8 ?_
  refine ti (nI (n + n2)) (nI_add _ _) ?_
  refine lv_bipush (v := nI 6) hx hb d_GR_multiply_9 (by decide) ?_
  have j28 : ∀ (u0 : Nat), u0 ≤ 6 → (u0 = 6 ∨ u0 = n + n2) → W p l e (headSpec (k_GR_multiply :: gw) ({ frames := 1, cells := 0, slots := 0, locals := 30 })).room s m args below meth c s.heap [] 0 0 (MQ below (xQ D b N (fun r C1 => r = none ∧ isG ca b C1 g (v * w) ∧ ∀ k, k ≠ g → k ≠ g + 1 → C1 k = C0 k)) args s 0 0 (xr b N)) (F0 m 28 ls [.int (nI u0)]) := by
    intro u0 hu06 hu0
    refine lv_istore_n (lv' := [(2, .int (nI u0)), (0, .ref (b + g)), (1, .ref (b + o))]) hx hb d_GR_multiply_28 rfl hl (by decide) rfl (fun ls hl => ?_)
    refine lv_aload_n hx hb d_GR_multiply_29 rfl (lv_at hl 1 rfl) ?_
    refine xw_get (v := .int (nI n)) hx hb hts (fun w h => mw (uw_GR w h)) hown hK hP hG.1 (by omega) rfl 1 (by decide) (hts _ (mw tb_91)) (fun _ h => h) rfl d_GR_multiply_30 ?_
    refine lv_iconst (v := nI 1) hx hb d_GR_multiply_33 (by decide) ?_
    refine lv_isub hx hb d_GR_multiply_34 ?_
    refine lv_istore_n (lv' := [(3, .int (((nI n) - (nI 1)))), (2, .int (nI u0)), (0, .ref (b + g)), (1, .ref (b + o))]) hx hb d_GR_multiply_35 rfl hl (by decide) rfl (fun ls hl => ?_)
    have loop36 : ∀ (r : Nat) (i : Nat) (a1 : Nat → Nat) (C : Nat → va_E) (H : Heap) (locs : List Loc) (ls : Array Slot), i < r → i ≤ n → gMulI a a2 a1 i → va_P D classes (wl b N C) H → va_S (xr b N) s.heap H locs → GS ca b C0 g n a1 C → lv_has ls 11 [(0, .ref (b + g)), (1, .ref (b + o)), (2, .int (nI u0)), (3, .int ((nI i - nI 1)))] → W p l e (headSpec (k_GR_multiply :: gw) ({ frames := 1, cells := 0, slots := 0, locals := 30 })).room s m args below meth c H locs 0 0 (MQ below (xQ D b N (fun r C1 => r = none ∧ isG ca b C1 g (v * w) ∧ ∀ k, k ≠ g → k ≠ g + 1 → C1 k = C0 k)) args s 0 0 (xr b N)) (F0 m 36 ls []) := by
      intro r
      induction r with
      | zero => intro i a1 C H locs ls hm hin hI; exact absurd hm (by omega)
      | succ r ih36 =>
        intro i a1 C H locs ls hm hin hI hP hS hG hl
        refine lv_iload_n hx hb d_GR_multiply_36 rfl (lv_at hl 3 rfl) ?_
        refine lv_if_lt (tgt := 149) hx hb d_GR_multiply_37 (by decide) (fun h37 => ?_) (fun h37 => ?_)
        · skip
          have hi0 : i = 0 := by
            rcases Nat.eq_zero_or_pos i with q | q
            · exact q
            · exact absurd h37 (by rw [pk_sub q]; exact nI_pos (by omega))
          subst hi0
          have loop149 : ∀ (r : Nat) (u : Nat) (C : Nat → va_E) (H : Heap) (locs : List Loc) (ls : Array Slot), u < r → u ≤ 6 → (∀ k, u ≤ k → k < 6 → a1 k = 0) → va_P D classes (wl b N C) H → va_S (xr b N) s.heap H locs → GS ca b C0 g n a1 C → lv_has ls 11 [(0, .ref (b + g)), (2, .int (nI u))] → W p l e (headSpec (k_GR_multiply :: gw) ({ frames := 1, cells := 0, slots := 0, locals := 30 })).room s m args below meth c H locs 0 0 (MQ below (xQ D b N (fun r C1 => r = none ∧ isG ca b C1 g (v * w) ∧ ∀ k, k ≠ g → k ≠ g + 1 → C1 k = C0 k)) args s 0 0 (xr b N)) (F0 m 149 ls []) := by
            intro r
            induction r with
            | zero => intro u C H locs ls hm hu6 hz; exact absurd hm (by omega)
            | succ r ih149 =>
              intro u C H locs ls hm hu6 hz hP hS hG hl
              have j172 : (0 < u → a1 (u - 1) ≠ 0) → W p l e (headSpec (k_GR_multiply :: gw) ({ frames := 1, cells := 0, slots := 0, locals := 30 })).room s m args below meth c H locs 0 0 (MQ below (xQ D b N (fun r C1 => r = none ∧ isG ca b C1 g (v * w) ∧ ∀ k, k ≠ g → k ≠ g + 1 → C1 k = C0 k)) args s 0 0 (xr b N)) (F0 m 172 ls []) := by
                intro h172
                refine lv_aload_n hx hb d_GR_multiply_172 rfl (lv_at hl 0 rfl) ?_
                refine lv_iload_n hx hb d_GR_multiply_173 rfl (lv_at hl 1 rfl) ?_
                refine xw_put (v := .int (nI u)) (ty := t_GR 1) hx hb hts (fun w h => mw (uw_GR w h)) t_GR t_GR_ok n_GR hown hK hP hA hS hG.1 (by omega) rfl 1 (by decide) (hts _ (mw tb_91)) (fun _ h => h) rfl (by decide +kernel) rfl rfl (Nat.le_of_ble_eq_true rfl) d_GR_multiply_174 (fun H locs hP hS => ?_)
                have hG := hG.size (n1 := u)
                generalize va_up _ g _ = C at hP hG
                exact xw_vret hx hb hr hlocks hP hS ⟨rfl, ⟨_, _, hG.1, hG.2.1, gMul_end hr0 hr2 hI hu6 hz h172⟩, hG.2.2⟩ d_GR_multiply_177
              refine lv_iload_n hx hb d_GR_multiply_149 rfl (lv_at hl 1 rfl) ?_
              refine xz_le (tgt := 172) hx hb d_GR_multiply_150 (by decide) (by omega) (fun h150 => ?_) (fun h150 => ?_)
              · skip
                exact j172 (fun q => absurd q (by omega))
              · skip
                have e5 : a1 (u - 1) < 100000000 := hI.1 (u - 1) (by omega)
                refine lv_aload_n hx hb d_GR_multiply_153 rfl (lv_at hl 0 rfl) ?_
                refine xw_get (v := .ref (b + (g + 1))) hx hb hts (fun w h => mw (uw_GR w h)) hown hK hP hG.1 (by omega) rfl 0 (by decide) (hts _ (mw tb_90)) (fun _ h => h) rfl d_GR_multiply_154 ?_
                refine lv_iload_n hx hb d_GR_multiply_157 rfl (lv_at hl 1 rfl) ?_
                refine lv_iconst (v := nI 1) hx hb d_GR_multiply_158 (by decide) ?_
                refine lv_isub hx hb d_GR_multiply_159 ?_
                refine ti (nI (u - 1)) (pk_sub (by omega)) ?_
                refine xw_lald hx hb hK hP 1 hG.2.1 (by omega) rfl (by omega) (by decide) d_GR_multiply_160 ?_
                refine lv_lconst (v := lN 0) hx hb d_GR_multiply_161 (by decide) ?_
                refine W.lcmp hx hb d_GR_multiply_162 ?_
                refine xl_ne (tgt := 172) hx hb d_GR_multiply_163 (by decide) (by omega) (by omega) (fun h163 => ?_) (fun h163 => ?_)
                · skip
                  exact j172 (fun _ => h163)
                · skip
                  refine lv_iinc (v := nI (u - 1)) (lv' := [(2, .int (nI (u - 1))), (0, .ref (b + g))]) hx hb d_GR_multiply_166 hl (k := 1) rfl (show nI u + Int32.ofInt (-1) = nI (u - 1) from dec1 (by omega)) (by decide) rfl (fun ls hl => ?_)
                  refine lv_goto (tgt := 149) hx hb d_GR_multiply_169 (by decide) ?_
                  exact ih149 (u - 1) _ _ _ _ (by omega) (by omega) (fun k q1 q2 => by
                      by_cases q : k = u - 1
                      · rw [q]; exact h163
                      · exact hz k (by omega) q2) hP hS hG (lv_sub hl [1, 0] rfl)
          exact loop149 (u0 + 1) u0 _ _ _ _ (by omega) hu06 (fun k q1 q2 => gMul_le hr0.1 hr2.1 hI k (by omega) q2) hP hS hG (lv_sub hl [0, 2] rfl)
        · skip
          have hi1 : 0 < i := by
            rcases Nat.eq_zero_or_pos i with q | q
            · subst q; exact absurd (by decide) h37
            · exact q
          obtain ⟨i0, rfl⟩ : ∃ i0, i = i0 + 1 := ⟨i - 1, by omega⟩
          rw [show nI (i0 + 1) - nI 1 = nI i0 from pk_sub (by omega)] at hl
          have hx0 : a1 i0 < gB := hI.1 i0 (by omega)
          refine lv_aload_n hx hb d_GR_multiply_40 rfl (lv_at hl 0 rfl) ?_
          refine xw_get (v := .ref (b + (g + 1))) hx hb hts (fun w h => mw (uw_GR w h)) hown hK hP hG.1 (by omega) rfl 0 (by decide) (hts _ (mw tb_90)) (fun _ h => h) rfl d_GR_multiply_41 ?_
          refine lv_iload_n hx hb d_GR_multiply_44 rfl (lv_at hl 3 rfl) ?_
          refine xw_lald hx hb hK hP 1 hG.2.1 (by omega) rfl (by omega) (by decide) d_GR_multiply_45 ?_
          refine lv_lstore (lv' := [(4, .long (lN (a1 i0))), (0, .ref (b + g)), (1, .ref (b + o)), (2, .int (nI u0)), (3, .int (nI i0))]) hx hb d_GR_multiply_46 hl (by decide) rfl (fun ls hl => ?_)
          refine lv_lconst (v := lN 0) hx hb d_GR_multiply_48 (by decide) ?_
          refine lv_lstore (lv' := [(6, .long (lN 0)), (4, .long (lN (a1 i0))), (0, .ref (b + g)), (1, .ref (b + o)), (2, .int (nI u0)), (3, .int (nI i0))]) hx hb d_GR_multiply_49 hl (by decide) rfl (fun ls hl => ?_)
          refine lv_aload_n hx hb d_GR_multiply_51 rfl (lv_at hl 2 rfl) ?_
          refine xw_get (v := .ref (b + (g + 1))) hx hb hts (fun w h => mw (uw_GR w h)) hown hK hP hG.1 (by omega) rfl 0 (by decide) (hts _ (mw tb_90)) (fun _ h => h) rfl d_GR_multiply_52 ?_
          refine lv_iload_n hx hb d_GR_multiply_55 rfl (lv_at hl 5 rfl) ?_
          refine lv_lconst (v := lN 0) hx hb d_GR_multiply_56 (by decide) ?_
          refine xw_last hx hb hK hP hA hS 1 hG.2.1 (by omega) rfl (by omega) (by decide) d_GR_multiply_57 (fun H locs hP hS => ?_)
          have hG := hG.limb (j := i0) (x := 0)
          generalize va_up _ (g + 1) _ = C at hP hG
          refine lv_iconst (v := nI 0) hx hb d_GR_multiply_58 (by decide) ?_
          refine lv_istore (lv' := [(8, .int (nI 0)), (6, .long (lN 0)), (4, .long (lN (a1 i0))), (0, .ref (b + g)), (1, .ref (b + o)), (2, .int (nI u0)), (3, .int (nI i0))]) hx hb d_GR_multiply_59 hl (by decide) rfl (fun ls hl => ?_)
          have loop61 : ∀ (r : Nat) (j : Nat) (c1 : Nat) (M : Nat → Nat) (C : Nat → va_E) (H : Heap) (locs : List Loc) (ls : Array Slot), 6 < i0 + j + r → gMulJ (va_up a1 i0 0) a2 M (a1 i0) i0 j c1 → va_P D classes (wl b N C) H → va_S (xr b N) s.heap H locs → GS ca b C0 g n M C → lv_has ls 11 [(0, .ref (b + g)), (1, .ref (b + o)), (2, .int (nI u0)), (3, .int (nI i0)), (4, .long (lN (a1 i0))), (6, .long (lN c1)), (8, .int (nI j))] → W p l e (headSpec (k_GR_multiply :: gw) ({ frames := 1, cells := 0, slots := 0, locals := 30 })).room s m args below meth c H locs 0 0 (MQ below (xQ D b N (fun r C1 => r = none ∧ isG ca b C1 g (v * w) ∧ ∀ k, k ≠ g → k ≠ g + 1 → C1 k = C0 k)) args s 0 0 (xr b N)) (F0 m 61 ls []) := by
            intro r
            induction r with
            | zero => intro j c1 M C H locs ls hm hJ; exact absurd hm (by have := hJ.1; omega)
            | succ r ih61 =>
              intro j c1 M C H locs ls hm hJ hP hS hG hl
              have hJ1 := hJ.1
              have hJ2 : c1 < 100000000 := hJ.2.1
              have j143 : (6 ≤ i0 + j ∨ (n2 ≤ j ∧ c1 = 0)) → W p l e (headSpec (k_GR_multiply :: gw) ({ frames := 1, cells := 0, slots := 0, locals := 30 })).room s m args below meth c H locs 0 0 (MQ below (xQ D b N (fun r C1 => r = none ∧ isG ca b C1 g (v * w) ∧ ∀ k, k ≠ g → k ≠ g + 1 → C1 k = C0 k)) args s 0 0 (xr b N)) (F0 m 143 ls []) := by
                intro h143
                refine lv_iinc (v := nI i0 - nI 1) (lv' := [(3, .int ((nI i0 - nI 1))), (0, .ref (b + g)), (1, .ref (b + o)), (2, .int (nI u0)), (4, .long (lN (a1 i0))), (6, .long (lN c1)), (8, .int (nI j))]) hx hb d_GR_multiply_143 hl (k := 3) rfl (decs _) (by decide) rfl (fun ls hl => ?_)
                refine lv_goto (tgt := 36) hx hb d_GR_multiply_146 (by decide) ?_
                exact ih36 i0 M _ _ _ _ (by omega) (by omega) (gMulI_s (by omega) hr2.1.2.2 hI hJ h143) hP hS hG (lv_sub hl [1, 2, 3, 0] rfl)
              have j86 : i0 + j < 6 → W p l e (headSpec (k_GR_multiply :: gw) ({ frames := 1, cells := 0, slots := 0, locals := 30 })).room s m args below meth c H locs 0 0 (MQ below (xQ D b N (fun r C1 => r = none ∧ isG ca b C1 g (v * w) ∧ ∀ k, k ≠ g → k ≠ g + 1 → C1 k = C0 k)) args s 0 0 (xr b N)) (F0 m 86 ls []) := by
                intro h86
                have e1 : M (i0 + j) < 100000000 := hJ.2.2.1 _ h86
                have e2 : a2 j < 100000000 := hr2.1.2.1 j (by omega)
                have e3 : a1 i0 * a2 j ≤ 9999999800000001 := Nat.le_trans (Nat.mul_le_mul (Nat.le_sub_one_of_lt hx0) (Nat.le_sub_one_of_lt e2)) (by decide)
                refine lv_aload_n hx hb d_GR_multiply_86 rfl (lv_at hl 0 rfl) ?_
                refine xw_get (v := .ref (b + (g + 1))) hx hb hts (fun w h => mw (uw_GR w h)) hown hK hP hG.1 (by omega) rfl 0 (by decide) (hts _ (mw tb_90)) (fun _ h => h) rfl d_GR_multiply_87 ?_
                refine lv_iload_n hx hb d_GR_multiply_90 rfl (lv_at hl 3 rfl) ?_
                refine lv_iload hx hb d_GR_multiply_91 (lv_at hl 6 rfl) ?_
                refine lv_iadd hx hb d_GR_multiply_93 ?_
                refine ti (nI (i0 + j)) (nI_add _ _) ?_
                refine xw_lald hx hb hK hP 1 hG.2.1 (by omega) rfl (by omega) (by decide) d_GR_multiply_94 ?_
                refine lv_lload hx hb d_GR_multiply_95 (lv_at hl 4 rfl) ?_
                refine lv_aload_n hx hb d_GR_multiply_97 rfl (lv_at hl 1 rfl) ?_
                refine xw_get (v := .ref (b + (o + 1))) hx hb hts (fun w h => mw (uw_GR w h)) hown hK hP ((hG.2.2 o (by omega) (by omega)).trans ho) (by omega) rfl 0 (by decide) (hts _ (mw tb_90)) (fun _ h => h) rfl d_GR_multiply_98 ?_
                refine lv_iload hx hb d_GR_multiply_101 (lv_at hl 6 rfl) ?_
                refine xw_lald hx hb hK hP 1 ((hG.2.2 (o + 1) (by omega) (by omega)).trans hoa) (by omega) rfl (by omega) (by decide) d_GR_multiply_103 ?_
                refine lv_lmul hx hb d_GR_multiply_104 ?_
                refine tl (lN ((a1 i0) * (a2 j))) (lN_mul _ _) ?_
                refine lv_ladd hx hb d_GR_multiply_105 ?_
                refine tl (lN ((M (i0 + j)) + ((a1 i0) * (a2 j)))) (lN_add _ _) ?_
                refine lv_lload hx hb d_GR_multiply_106 (lv_at hl 5 rfl) ?_
                refine lv_ladd hx hb d_GR_multiply_108 ?_
                refine tl (lN (((M (i0 + j)) + ((a1 i0) * (a2 j))) + c1)) (lN_add _ _) ?_
                refine lv_lstore (lv' := [(9, .long (lN (((M (i0 + j)) + ((a1 i0) * (a2 j))) + c1))), (0, .ref (b + g)), (1, .ref (b + o)), (2, .int (nI u0)), (3, .int (nI i0)), (4, .long (lN (a1 i0))), (6, .long (lN c1)), (8, .int (nI j))]) hx hb d_GR_multiply_109 hl (by decide) rfl (fun ls hl => ?_)
                refine lv_lload hx hb d_GR_multiply_111 (lv_at hl 0 rfl) ?_
                refine lv_ldc2 (v := lN 100000000) hx hb hown (hts _ (mw tb_257)) d_GR_multiply_113 ?_
                refine lv_ldiv hx hb d_GR_multiply_116 (by decide) ?_
                refine tl (lN ((((M (i0 + j)) + ((a1 i0) * (a2 j))) + c1) / 100000000)) (pk_lDiv (by omega) (by decide) (by decide)) ?_
                refine lv_lstore (lv' := [(6, .long (lN ((((M (i0 + j)) + ((a1 i0) * (a2 j))) + c1) / 100000000))), (9, .long (lN (((M (i0 + j)) + ((a1 i0) * (a2 j))) + c1))), (0, .ref (b + g)), (1, .ref (b + o)), (2, .int (nI u0)), (3, .int (nI i0)), (4, .long (lN (a1 i0))), (8, .int (nI j))]) hx hb d_GR_multiply_117 hl (by decide) rfl (fun ls hl => ?_)
                refine lv_aload_n hx hb d_GR_multiply_119 rfl (lv_at hl 2 rfl) ?_
                refine xw_get (v := .ref (b + (g + 1))) hx hb hts (fun w h => mw (uw_GR w h)) hown hK hP hG.1 (by omega) rfl 0 (by decide) (hts _ (mw tb_90)) (fun _ h => h) rfl d_GR_multiply_120 ?_
                refine lv_iload_n hx hb d_GR_multiply_123 rfl (lv_at hl 5 rfl) ?_
                refine lv_iload hx hb d_GR_multiply_124 (lv_at hl 7 rfl) ?_
                refine lv_iadd hx hb d_GR_multiply_126 ?_
                refine ti (nI (i0 + j)) (nI_add _ _) ?_
                refine lv_lload hx hb d_GR_multiply_127 (lv_at hl 1 rfl) ?_
                refine lv_lload hx hb d_GR_multiply_129 (lv_at hl 0 rfl) ?_
                refine lv_ldc2 (v := lN 100000000) hx hb hown (hts _ (mw tb_257)) d_GR_multiply_131 ?_
                refine lv_lmul hx hb d_GR_multiply_134 ?_
                refine tl (lN (((((M (i0 + j)) + ((a1 i0) * (a2 j))) + c1) / 100000000) * 100000000)) (lN_mul _ _) ?_
                refine lv_lsub hx hb d_GR_multiply_135 ?_
                refine tl (lN ((((M (i0 + j)) + ((a1 i0) * (a2 j))) + c1) - (((((M (i0 + j)) + ((a1 i0) * (a2 j))) + c1) / 100000000) * 100000000))) (lN_sub (by omega)) ?_
                refine xw_last hx hb hK hP hA hS 1 hG.2.1 (by omega) rfl (by omega) (by decide) d_GR_multiply_136 (fun H locs hP hS => ?_)
                have hG := hG.limb (j := i0 + j) (x := (((M (i0 + j)) + ((a1 i0) * (a2 j))) + c1) - (((((M (i0 + j)) + ((a1 i0) * (a2 j))) + c1) / 100000000) * 100000000))
                generalize va_up _ (g + 1) _ = C at hP hG
                refine lv_iinc (v := nI (j + 1)) (lv' := [(8, .int (nI (j + 1))), (6, .long (lN ((((M (i0 + j)) + ((a1 i0) * (a2 j))) + c1) / 100000000))), (9, .long (lN (((M (i0 + j)) + ((a1 i0) * (a2 j))) + c1))), (0, .ref (b + g)), (1, .ref (b + o)), (2, .int (nI u0)), (3, .int (nI i0)), (4, .long (lN (a1 i0)))]) hx hb d_GR_multiply_137 hl (k := 7) rfl (show nI j + Int32.ofInt 1 = nI (j + 1) from nI_add _ _) (by decide) rfl (fun ls hl => ?_)
                refine lv_goto (tgt := 61) hx hb d_GR_multiply_140 (by decide) ?_
                exact ih61 (j + 1) ((((M (i0 + j)) + ((a1 i0) * (a2 j))) + c1) / 100000000) (va_up M (i0 + j) ((((M (i0 + j)) + ((a1 i0) * (a2 j))) + c1) - (((((M (i0 + j)) + ((a1 i0) * (a2 j))) + c1) / 100000000) * 100000000))) _ _ _ _ (by omega) (gMulJ_s hx0 hr2.1.2.1 hJ h86 rfl (by show _ + _ * 100000000 = _; omega)) hP hS hG (lv_sub hl [3, 4, 5, 6, 7, 1, 0] rfl)
              refine lv_iload_n hx hb d_GR_multiply_61 rfl (lv_at hl 3 rfl) ?_
              refine lv_iload hx hb d_GR_multiply_62 (lv_at hl 6 rfl) ?_
              refine lv_iadd hx hb d_GR_multiply_64 ?_
              refine ti (nI (i0 + j)) (nI_add _ _) ?_
              refine lv_bipush (v := nI 6) hx hb d_GR_multiply_65 (by decide) ?_
              refine xi_ge (tgt := 143) hx hb d_GR_multiply_67 (by decide) (by omega) (by omega) (fun h67 => ?_) (fun h67 => ?_)
              · skip
                exact j143 (by omega)
              · skip
                refine lv_iload hx hb d_GR_multiply_70 (lv_at hl 6 rfl) ?_
                refine lv_aload_n hx hb d_GR_multiply_72 rfl (lv_at hl 1 rfl) ?_
                refine xw_get (v := .int (nI n2)) hx hb hts (fun w h => mw (uw_GR w h)) hown hK hP ((hG.2.2 o (by omega) (by omega)).trans ho) (by omega) rfl 1 (by decide) (hts _ (mw tb_91)) (fun _ h => h) rfl d_GR_multiply_73 ?_
                refine xi_lt (tgt := 86) hx hb d_GR_multiply_76 (by decide) (by omega) (by omega) (fun h76 => ?_) (fun h76 => ?_)
                · skip
                  exact j86 (by omega)
                · skip
                  refine lv_lload hx hb d_GR_multiply_79 (lv_at hl 5 rfl) ?_
                  refine lv_lconst (v := lN 0) hx hb d_GR_multiply_81 (by decide) ?_
                  refine W.lcmp hx hb d_GR_multiply_82 ?_
                  refine xl_le (tgt := 143) hx hb d_GR_multiply_83 (by decide) (by omega) (by omega) (fun h83 => ?_) (fun h83 => ?_)
                  · skip
                    exact j143 (by omega)
                  · skip
                    exact j86 (by omega)
          exact loop61 7 0 0 (va_up a1 i0 0) _ _ _ _ (by omega) (gMulJ_0 (by omega) (fun k hk => by
              by_cases q : k = i0
              · rw [q, va_up_self]; exact gB_pos
              · rw [va_up_ne _ _ q]; exact hI.1 k hk)) hP hS hG (lv_sub hl [3, 4, 5, 6, 2, 1, 0] rfl)
    exact loop36 (n + 1) n a _ _ _ _ (by omega) (by omega) (gMulI_0 hr0.1) hP hS hG (lv_sub hl [2, 3, 1, 0] rfl)
  refine xi_ge (tgt := 26) hx hb d_GR_multiply_11 (by decide) (by omega) (by omega) (fun h11 => ?_) (fun h11 => ?_)
  · skip
    refine lv_bipush (v := nI 6) hx hb d_GR_multiply_26 (by decide) ?_
    exact j28 _ (by omega) (by omega)
  · skip
    refine lv_aload_n hx hb d_GR_multiply_14 rfl (lv_at hl 0 rfl) ?_
    refine xw_get (v := .int (nI n)) hx hb hts (fun w h => mw (uw_GR w h)) hown hK hP hG.1 (by omega) rfl 1 (by decide) (hts _ (mw tb_91)) (fun _ h => h) rfl d_GR_multiply_15 ?_
    refine lv_aload_n hx hb d_GR_multiply_18 rfl (lv_at hl 1 rfl) ?_
    refine xw_get (v := .int (nI n2)) hx hb hts (fun w h => mw (uw_GR w h)) hown hK hP ((hG.2.2 o (by omega) (by omega)).trans ho) (by omega) rfl 1 (by decide) (hts _ (mw tb_91)) (fun _ h => h) rfl d_GR_multiply_19 ?_
    refine lv_iadd hx hb d_GR_multiply_22 ?_
    refine ti (nI (n + n2)) (nI_add _ _) ?_
    refine lv_goto (tgt := 28) hx hb d_GR_multiply_23 (by decide) ?_
    exact j28 _ (by omega) (by omega)

set_option maxHeartbeats 4000000 in
set_option maxRecDepth 100000 in
/-- isAtLeast: compares -/
theorem c_GR_isAtLeast (l : Launch) (D : va_G) (ca : Nat → ClassId) (b N : Nat) (C0 : Nat → va_E) (g o n v n2 w : Nat) (a a2 : Nat → Nat) (hg : C0 g = gobj b g n) (hga : C0 (g + 1) = garr ca a) (ho : C0 o = gobj b o n2) (hoa : C0 (o + 1) = garr ca a2) (hN : g + 1 < N) (hoN : o + 1 < N) (hne : g ≠ o ∧ g + 1 ≠ o ∧ o + 1 ≠ g) (hr0 : gRep a n v) (hr2 : gRep a2 n2 w) (hv : v < gB ^ 6) (hw : w < gB ^ 6) : Met l y_GR_isAtLeast (k_GR_isAtLeast :: gw) ({ frames := 1, cells := 0, slots := 0, locals := 22 }) (xPc D ca b N C0 [.ref (b + g), .ref (b + o)]) (xQ D b N (fun r C1 => r = some (.int (nI (if w ≤ v then 1 else 0))) ∧ isG ca b C1 g v ∧ ∀ k, k ≠ g → k ≠ g + 1 → C1 k = C0 k)) 0 0 (xr b N) := by
  refine Met.ofW (cc := b_GR_isAtLeast) (maxL := 3) (ret := (some FieldType.boolean)) (by decide) rfl ?_
  intro p e s m args below meth c s₁ B hml hv
  obtain ⟨hav, hP, hK⟩ := hv
  have hx := B.exec
  have hb := B.bytes
  have hr := B.returns
  have hts := atoms_spec (ws := k_GR_isAtLeast :: gw) B.pre
  have hown : s.vm.findClass R_GR = some m.cls := findClass_of_methodNamed B.named
  have hlocks := B.notSynchronized
  have hA : ∀ k, k < N → xr b N (b + k) := xr_in
  have hS : va_S (xr b N) s.heap s.heap [] := va_S.rf
  have hl := lv_entry ([.ref (b + g), .ref (b + o)]) (n := 3) (Nat.le_of_ble_eq_true rfl)
  rw [hav, lg_entry_eq]
  generalize (lg_sl ([.ref (b + g), .ref (b + o)]) ++ List.replicate (3 - (lg_sl ([.ref (b + g), .ref (b + o)])).length) Slot.unset).toArray = ls at hl ⊢
  have hl : lv_has ls 3 [(0, .ref (b + g)), (1, .ref (b + o))] := hl
  rw [← hav]
  have hG : GS ca b C0 g n a C0 := ⟨hg, hga, fun _ _ _ => rfl⟩
  have hn6 : n ≤ 6 := hr0.1.1
  have hn26 : n2 ≤ 6 := hr2.1.1
  obtain ⟨hne1, hne2, hne3⟩ := hne
  have hva := (hr0.2 hv).1
  have hwa := (hr2.2 hw).1
  refine lv_iconst (v := nI 5) hx hb d_GR_isAtLeast_0 (by decide) ?_
  refine lv_istore_n (lv' := [(2, .int (nI 5)), (0, .ref (b + g)), (1, .ref (b + o))]) hx hb d_GR_isAtLeast_1 rfl hl (by decide) rfl (fun ls hl => ?_)
  rw [show nI 5 = nI 6 - nI 1 from by decide] at hl
  have loop2 : ∀ (r : Nat) (i : Nat) (C : Nat → va_E) (H : Heap) (locs : List Loc) (ls : Array Slot), i < r → i ≤ 6 → (∀ k, i ≤ k → k < 6 → a k = a2 k) → va_P D classes (wl b N C) H → va_S (xr b N) s.heap H locs → GS ca b C0 g n a C → lv_has ls 3 [(0, .ref (b + g)), (1, .ref (b + o)), (2, .int ((nI i - nI 1)))] → W p l e (headSpec (k_GR_isAtLeast :: gw) ({ frames := 1, cells := 0, slots := 0, locals := 22 })).room s m args below meth c H locs 0 0 (MQ below (xQ D b N (fun r C1 => r = some (.int (nI (if w ≤ v then 1 else 0))) ∧ isG ca b C1 g v ∧ ∀ k, k ≠ g → k ≠ g + 1 → C1 k = C0 k)) args s 0 0 (xr b N)) (F0 m 2 ls []) := by
    intro r
    induction r with
    | zero => intro i C H locs ls hm hi6 he; exact absurd hm (by omega)
    | succ r ih2 =>
      intro i C H locs ls hm hi6 he hP hS hG hl
      refine lv_iload_n hx hb d_GR_isAtLeast_2 rfl (lv_at hl 2 rfl) ?_
      refine lv_if_lt (tgt := 50) hx hb d_GR_isAtLeast_3 (by decide) (fun h3 => ?_) (fun h3 => ?_)
      · skip
        have hi0 : i = 0 := by
          rcases Nat.eq_zero_or_pos i with q | q
          · exact q
          · exact absurd h3 (by rw [pk_sub q]; exact nI_pos (by omega))
        subst hi0
        have hle : w ≤ v := by
          rw [← hva, ← hwa, gval_congr (fun k hk => he k (by omega) hk)]; exact Nat.le_refl _
        refine lv_iconst (v := nI 1) hx hb d_GR_isAtLeast_50 (by decide) ?_
        exact xw_zret hx hb hr hlocks nz1 hP hS ⟨by rw [if_pos hle], ⟨_, _, hG.1, hG.2.1, hr0⟩, hG.2.2⟩ d_GR_isAtLeast_51
      · skip
        have hi1 : 0 < i := by
          rcases Nat.eq_zero_or_pos i with q | q
          · subst q; exact absurd (by decide) h3
          · exact q
        obtain ⟨i0, rfl⟩ : ∃ i0, i = i0 + 1 := ⟨i - 1, by omega⟩
        rw [show nI (i0 + 1) - nI 1 = nI i0 from pk_sub (by omega)] at hl
        have e1 : a i0 < 100000000 := hr0.1.2.1 i0 (by omega)
        have e2 : a2 i0 < 100000000 := hr2.1.2.1 i0 (by omega)
        refine lv_aload_n hx hb d_GR_isAtLeast_6 rfl (lv_at hl 0 rfl) ?_
        refine xw_get (v := .ref (b + (g + 1))) hx hb hts (fun w h => mw (uw_GR w h)) hown hK hP hG.1 (by omega) rfl 0 (by decide) (hts _ (mw tb_90)) (fun _ h => h) rfl d_GR_isAtLeast_7 ?_
        refine lv_iload_n hx hb d_GR_isAtLeast_10 rfl (lv_at hl 2 rfl) ?_
        refine xw_lald hx hb hK hP 1 hG.2.1 (by omega) rfl (by omega) (by decide) d_GR_isAtLeast_11 ?_
        refine lv_aload_n hx hb d_GR_isAtLeast_12 rfl (lv_at hl 1 rfl) ?_
        refine xw_get (v := .ref (b + (o + 1))) hx hb hts (fun w h => mw (uw_GR w h)) hown hK hP ((hG.2.2 o (by omega) (by omega)).trans ho) (by omega) rfl 0 (by decide) (hts _ (mw tb_90)) (fun _ h => h) rfl d_GR_isAtLeast_13 ?_
        refine lv_iload_n hx hb d_GR_isAtLeast_16 rfl (lv_at hl 2 rfl) ?_
        refine xw_lald hx hb hK hP 1 ((hG.2.2 (o + 1) (by omega) (by omega)).trans hoa) (by omega) rfl (by omega) (by decide) d_GR_isAtLeast_17 ?_
        refine W.lcmp hx hb d_GR_isAtLeast_18 ?_
        refine xl_eq (tgt := 44) hx hb d_GR_isAtLeast_19 (by decide) (by omega) (by omega) (fun h19 => ?_) (fun h19 => ?_)
        · skip
          refine lv_iinc (v := nI i0 - nI 1) (lv' := [(2, .int ((nI i0 - nI 1))), (0, .ref (b + g)), (1, .ref (b + o))]) hx hb d_GR_isAtLeast_44 hl (k := 2) rfl (decs _) (by decide) rfl (fun ls hl => ?_)
          refine lv_goto (tgt := 2) hx hb d_GR_isAtLeast_47 (by decide) ?_
          exact ih2 i0 _ _ _ _ (by omega) (by omega) (fun k q1 q2 => by
              by_cases q : k = i0
              · rw [q]; exact h19
              · exact he k (by omega) q2) hP hS hG (lv_sub hl [1, 2, 0] rfl)
        · skip
          refine lv_aload_n hx hb d_GR_isAtLeast_22 rfl (lv_at hl 0 rfl) ?_
          refine xw_get (v := .ref (b + (g + 1))) hx hb hts (fun w h => mw (uw_GR w h)) hown hK hP hG.1 (by omega) rfl 0 (by decide) (hts _ (mw tb_90)) (fun _ h => h) rfl d_GR_isAtLeast_23 ?_
          refine lv_iload_n hx hb d_GR_isAtLeast_26 rfl (lv_at hl 2 rfl) ?_
          refine xw_lald hx hb hK hP 1 hG.2.1 (by omega) rfl (by omega) (by decide) d_GR_isAtLeast_27 ?_
          refine lv_aload_n hx hb d_GR_isAtLeast_28 rfl (lv_at hl 1 rfl) ?_
          refine xw_get (v := .ref (b + (o + 1))) hx hb hts (fun w h => mw (uw_GR w h)) hown hK hP ((hG.2.2 o (by omega) (by omega)).trans ho) (by omega) rfl 0 (by decide) (hts _ (mw tb_90)) (fun _ h => h) rfl d_GR_isAtLeast_29 ?_
          refine lv_iload_n hx hb d_GR_isAtLeast_32 rfl (lv_at hl 2 rfl) ?_
          refine xw_lald hx hb hK hP 1 ((hG.2.2 (o + 1) (by omega) (by omega)).trans hoa) (by omega) rfl (by omega) (by decide) d_GR_isAtLeast_33 ?_
          refine W.lcmp hx hb d_GR_isAtLeast_34 ?_
          refine xl_le (tgt := 42) hx hb d_GR_isAtLeast_35 (by decide) (by omega) (by omega) (fun h35 => ?_) (fun h35 => ?_)
          · skip
            have hle : ¬ w ≤ v := by
              rw [← hva, ← hwa]
              exact Nat.not_le.mpr (gval_gt (i := i0) (by omega) hr0.1.2.1 (fun k q1 q2 => (he k (by omega) q2).symm) (by omega))
            refine lv_iconst (v := nI 0) hx hb d_GR_isAtLeast_42 (by decide) ?_
            exact xw_zret hx hb hr hlocks nz0 hP hS ⟨by rw [if_neg hle], ⟨_, _, hG.1, hG.2.1, hr0⟩, hG.2.2⟩ d_GR_isAtLeast_43
          · skip
            have hle : w ≤ v := by
              rw [← hva, ← hwa]
              exact Nat.le_of_lt (gval_gt (i := i0) (by omega) hr2.1.2.1 (fun k q1 q2 => he k (by omega) q2) (by omega))
            refine lv_iconst (v := nI 1) hx hb d_GR_isAtLeast_38 (by decide) ?_
            refine lv_goto (tgt := 43) hx hb d_GR_isAtLeast_39 (by decide) ?_
            exact xw_zret hx hb hr hlocks nz1 hP hS ⟨by rw [if_pos hle], ⟨_, _, hG.1, hG.2.1, hr0⟩, hG.2.2⟩ d_GR_isAtLeast_43
  exact loop2 7 6 _ _ _ _ (by omega) (by omega) (fun k q1 q2 => absurd q2 (by omega)) hP hS hG (lv_sub hl [1, 2, 0] rfl)

set_option maxHeartbeats 4000000 in
set_option maxRecDepth 100000 in
/-- digitAt: a decimal digit -/
theorem c_GR_digitAt (l : Launch) (D : va_G) (ca : Nat → ClassId) (b N : Nat) (C0 : Nat → va_E) (g n v : Nat) (a : Nat → Nat) (dg : Nat) (hg : C0 g = gobj b g n) (hga : C0 (g + 1) = garr ca a) (hN : g + 1 < N) (hr0 : gRep a n v) (hv : v < gB ^ 6) (hdg : dg < 48) : Met l y_GR_digitAt (k_GR_digitAt :: gw) ({ frames := 1, cells := 0, slots := 0, locals := 24 }) (xPc D ca b N C0 [.ref (b + g), .int (nI dg)]) (xQ D b N (fun r C1 => r = some (.int (nI (v / 10 ^ dg % 10))) ∧ isG ca b C1 g v ∧ ∀ k, k ≠ g → k ≠ g + 1 → C1 k = C0 k)) 0 0 (xr b N) := by
  refine Met.ofW (cc := b_GR_digitAt) (maxL := 5) (ret := (some FieldType.int)) (by decide) rfl ?_
  intro p e s m args below meth c s₁ B hml hv
  obtain ⟨hav, hP, hK⟩ := hv
  have hx := B.exec
  have hb := B.bytes
  have hr := B.returns
  have hts := atoms_spec (ws := k_GR_digitAt :: gw) B.pre
  have hown : s.vm.findClass R_GR = some m.cls := findClass_of_methodNamed B.named
  have hlocks := B.notSynchronized
  have hA : ∀ k, k < N → xr b N (b + k) := xr_in
  have hS : va_S (xr b N) s.heap s.heap [] := va_S.rf
  have hl := lv_entry ([.ref (b + g), .int (nI dg)]) (n := 5) (Nat.le_of_ble_eq_true rfl)
  rw [hav, lg_entry_eq]
  generalize (lg_sl ([.ref (b + g), .int (nI dg)]) ++ List.replicate (5 - (lg_sl ([.ref (b + g), .int (nI dg)])).length) Slot.unset).toArray = ls at hl ⊢
  have hl : lv_has ls 5 [(0, .ref (b + g)), (1, .int (nI dg))] := hl
  rw [← hav]
  have hG : GS ca b C0 g n a C0 := ⟨hg, hga, fun _ _ _ => rfl⟩
  have hn6 : n ≤ 6 := hr0.1.1
  have hva := (hr0.2 hv).1
  have hq6 : dg / 8 < 6 := by omega
  have hlimb := gval_limb (n := 6) hr0.1.2.1 hq6
  rw [hva] at hlimb
  have hdig : v / 10 ^ dg % 10 = a (dg / 8) / 10 ^ (dg % 8) % 10 := by
    have := g_digit (r := dg % 8) (by omega) hlimb
    rwa [Nat.div_add_mod] at this
  have hab : a (dg / 8) < 100000000 := hr0.1.2.1 _ hq6
  refine lv_iload_n hx hb d_GR_digitAt_0 rfl (lv_at hl 1 rfl) ?_
  refine xz_lt (tgt := 10) hx hb d_GR_digitAt_1 (by decide) (by omega) (fun h1 => ?_) (fun h1 => ?_)
  · skip
    exact h1.elim
  · skip
    refine lv_iload_n hx hb d_GR_digitAt_4 rfl (lv_at hl 1 rfl) ?_
    refine lv_bipush (v := nI 48) hx hb d_GR_digitAt_5 (by decide) ?_
    refine xi_lt (tgt := 12) hx hb d_GR_digitAt_7 (by decide) (by omega) (by omega) (fun h7 => ?_) (fun h7 => ?_)
    · skip
      refine lv_aload_n hx hb d_GR_digitAt_12 rfl (lv_at hl 0 rfl) ?_
      refine xw_get (v := .ref (b + (g + 1))) hx hb hts (fun w h => mw (uw_GR w h)) hown hK hP hG.1 (by omega) rfl 0 (by decide) (hts _ (mw tb_90)) (fun _ h => h) rfl d_GR_digitAt_13 ?_
      refine lv_iload_n hx hb d_GR_digitAt_16 rfl (lv_at hl 1 rfl) ?_
      refine lv_bipush (v := nI 8) hx hb d_GR_digitAt_17 (by decide) ?_
      refine lv_idiv hx hb d_GR_digitAt_19 (by decide) ?_
      refine ti (nI (dg / 8)) (pk_div (by omega) (by decide) (by decide)) ?_
      refine xw_lald hx hb hK hP 1 hG.2.1 (by omega) rfl (by omega) (by decide) d_GR_digitAt_20 ?_
      refine lv_lstore_n (lv' := [(2, .long (lN (a (dg / 8)))), (0, .ref (b + g)), (1, .int (nI dg))]) hx hb d_GR_digitAt_21 rfl hl (by decide) rfl (fun ls hl => ?_)
      refine lv_iload_n hx hb d_GR_digitAt_22 rfl (lv_at hl 2 rfl) ?_
      refine lv_bipush (v := nI 8) hx hb d_GR_digitAt_23 (by decide) ?_
      refine lv_irem hx hb d_GR_digitAt_25 (by decide) ?_
      refine ti (nI (dg % 8)) (pk_rem (by omega) (by decide) (by decide)) ?_
      refine lv_istore (lv' := [(4, .int (nI (dg % 8))), (2, .long (lN (a (dg / 8)))), (0, .ref (b + g)), (1, .int (nI dg))]) hx hb d_GR_digitAt_26 hl (by decide) rfl (fun ls hl => ?_)
      have loop28 : ∀ (r : Nat) (t : Nat) (x : Nat) (C : Nat → va_E) (H : Heap) (locs : List Loc) (ls : Array Slot), t < r → t ≤ dg % 8 → x = a (dg / 8) / 10 ^ (dg % 8 - t) → va_P D classes (wl b N C) H → va_S (xr b N) s.heap H locs → GS ca b C0 g n a C → lv_has ls 5 [(0, .ref (b + g)), (1, .int (nI dg)), (2, .long (lN x)), (4, .int (nI t))] → W p l e (headSpec (k_GR_digitAt :: gw) ({ frames := 1, cells := 0, slots := 0, locals := 24 })).room s m args below meth c H locs 0 0 (MQ below (xQ D b N (fun r C1 => r = some (.int (nI (v / 10 ^ dg % 10))) ∧ isG ca b C1 g v ∧ ∀ k, k ≠ g → k ≠ g + 1 → C1 k = C0 k)) args s 0 0 (xr b N)) (F0 m 28 ls []) := by
        intro r
        induction r with
        | zero => intro t x C H locs ls hm ht hx1; exact absurd hm (by omega)
        | succ r ih28 =>
          intro t x C H locs ls hm ht hx1 hP hS hG hl
          refine lv_iload hx hb d_GR_digitAt_28 (lv_at hl 3 rfl) ?_
          refine xz_le (tgt := 45) hx hb d_GR_digitAt_30 (by decide) (by omega) (fun h30 => ?_) (fun h30 => ?_)
          · skip
            have hx2 : x < 100000000 := by rw [hx1]; exact Nat.lt_of_le_of_lt (Nat.div_le_self _ _) hab
            refine lv_lload_n hx hb d_GR_digitAt_45 rfl (lv_at hl 2 rfl) ?_
            refine lv_ldc2 (v := lN 10) hx hb hown (hts _ (mw tb_490)) d_GR_digitAt_46 ?_
            refine lv_lrem hx hb d_GR_digitAt_49 (by decide) ?_
            refine tl (lN (x % 10)) (pk_lRem (by omega) (by decide) (by decide)) ?_
            refine lv_l2i (v := nI (x % 10)) hx hb d_GR_digitAt_50 (lN_i _) ?_
            exact xw_iret hx hb hr hlocks hP hS ⟨by rw [hdig, hx1, h30, Nat.sub_zero], ⟨_, _, hG.1, hG.2.1, hr0⟩, hG.2.2⟩ d_GR_digitAt_51
          · skip
            have hx2 : x < 100000000 := by rw [hx1]; exact Nat.lt_of_le_of_lt (Nat.div_le_self _ _) hab
            refine lv_lload_n hx hb d_GR_digitAt_33 rfl (lv_at hl 2 rfl) ?_
            refine lv_ldc2 (v := lN 10) hx hb hown (hts _ (mw tb_490)) d_GR_digitAt_34 ?_
            refine lv_ldiv hx hb d_GR_digitAt_37 (by decide) ?_
            refine tl (lN (x / 10)) (pk_lDiv (by omega) (by decide) (by decide)) ?_
            refine lv_lstore_n (lv' := [(2, .long (lN (x / 10))), (0, .ref (b + g)), (1, .int (nI dg)), (4, .int (nI t))]) hx hb d_GR_digitAt_38 rfl hl (by decide) rfl (fun ls hl => ?_)
            refine lv_iinc (v := nI (t - 1)) (lv' := [(4, .int (nI (t - 1))), (2, .long (lN (x / 10))), (0, .ref (b + g)), (1, .int (nI dg))]) hx hb d_GR_digitAt_39 hl (k := 3) rfl (show nI t + Int32.ofInt (-1) = nI (t - 1) from dec1 (by omega)) (by decide) rfl (fun ls hl => ?_)
            refine lv_goto (tgt := 28) hx hb d_GR_digitAt_42 (by decide) ?_
            exact ih28 (t - 1) (x / 10) _ _ _ _ (by omega) (by omega) (by rw [hx1, Nat.div_div_eq_div_mul, ← Nat.pow_succ]; congr 2; omega) hP hS hG (lv_sub hl [2, 3, 1, 0] rfl)
      exact loop28 9 (dg % 8) (a (dg / 8)) _ _ _ _ (by omega) (by omega) (by rw [Nat.sub_self, Nat.pow_zero, Nat.div_one]) hP hS hG (lv_sub hl [2, 3, 1, 0] rfl)
    · skip
      exact absurd h7 (by omega)

