/-! The Model's great numbers: pure, then its methods set, copy, add, times, isNothing, isLess, digitOf -/
def mB : Nat := 10000
def mval (f : Nat → Nat) : Nat → Nat
  | 0 => 0
  | n + 1 => mval f n + f n * mB ^ n
theorem mB_pos : 0 < mB := by decide
theorem mpow_pos (n : Nat) : 0 < mB ^ n := Nat.pow_pos mB_pos
theorem mval_s (f : Nat → Nat) (n : Nat) : mval f (n + 1) = mval f n + f n * mB ^ n := rfl
theorem mval_congr {f g : Nat → Nat} {n : Nat} (h : ∀ i, i < n → f i = g i) : mval f n = mval g n := by
  induction n with
  | zero => rfl
  | succ n ih => rw [mval_s, mval_s, ih (fun i hi => h i (by omega)), h n (by omega)]
theorem mval_lt {f : Nat → Nat} {n : Nat} (h : ∀ i, i < n → f i < mB) : mval f n < mB ^ n := by
  induction n with
  | zero => simp [mval]
  | succ n ih =>
    have h1 := ih (fun i hi => h i (by omega))
    have h2 : f n + 1 ≤ mB := h n (by omega)
    have h3 : (f n + 1) * mB ^ n ≤ mB * mB ^ n := Nat.mul_le_mul_right _ h2
    have h4 : mB ^ (n + 1) = mB * mB ^ n := by rw [Nat.pow_succ, Nat.mul_comm]
    have h5 : (f n + 1) * mB ^ n = f n * mB ^ n + mB ^ n := by rw [Nat.add_mul, Nat.one_mul]
    rw [mval_s]
    omega
theorem mval_split (f : Nat → Nat) {m n : Nat} (h : m ≤ n) : ∃ r, mval f n = mval f m + r * mB ^ m := by
  induction n with
  | zero =>
    have : m = 0 := by omega
    subst this
    exact ⟨0, by omega⟩
  | succ n ih =>
    by_cases q : m = n + 1
    · subst q; exact ⟨0, by omega⟩
    · obtain ⟨r, hr⟩ := ih (by omega)
      refine ⟨r + f n * mB ^ (n - m), ?_⟩
      have e : mB ^ n = mB ^ (n - m) * mB ^ m := by rw [← Nat.pow_add]; congr 1; omega
      rw [mval_s, hr, Nat.add_mul, Nat.mul_assoc, ← e]
      omega
/-- the parts of the number at a place -/
abbrev bp (big : Nat → Nat) (x : Nat) : Nat → Nat := fun k => big (12 * x + k)
def bOk (f : Nat → Nat) : Prop := ∀ k, k < 12 → f k < mB
def bRep (f : Nat → Nat) (v : Nat) : Prop := bOk f ∧ (v < mB ^ 12 → mval f 12 = v)
/-- two rows agree but for the number at x -/
def bFr (big1 big : Nat → Nat) (x : Nat) : Prop := ∀ k, ¬ (12 * x ≤ k ∧ k < 12 * x + 12) → big1 k = big k
theorem bFr.bp {big1 big : Nat → Nat} {x y : Nat} (h : bFr big1 big x) (hy : y ≠ x) {k : Nat} (hk : k < 12) : big1 (12 * y + k) = big (12 * y + k) := h _ (by omega)
theorem bRep_congr {f g : Nat → Nat} {v : Nat} (h : bRep f v) (e : ∀ k, k < 12 → g k = f k) : bRep g v :=
  ⟨fun k hk => by rw [e k hk]; exact h.1 k hk, fun hv => by rw [mval_congr e]; exact h.2 hv⟩
theorem mvup {f : Nat → Nat} {i x : Nat} : mval (va_up f i x) i = mval f i := mval_congr (fun k hk => va_up_ne f x (by omega))
/-- set, i parts done: what is left is v / 10^4i -/
def mSetI (f : Nat → Nat) (v i t : Nat) : Prop := i ≤ 12 ∧ (∀ k, k < i → f k < mB) ∧ mval f i + t * mB ^ i = v ∧ t ≤ v
theorem mSetI_s {f : Nat → Nat} {v i t : Nat} (h : mSetI f v i t) (hi : i < 12) : mSetI (va_up f i (t % 10000)) v (i + 1) (t / 10000) := by
  obtain ⟨h1, h2, h3, h4⟩ := h
  refine ⟨by omega, fun k hk => ?_, ?_, by omega⟩
  · by_cases q : k = i
    · rw [q, va_up_self]; exact Nat.mod_lt _ mB_pos
    · rw [va_up_ne _ _ q]; exact h2 k (by omega)
  · rw [mval_s, mvup, va_up_self]
    have e4 : mB ^ (i + 1) = mB * mB ^ i := by rw [Nat.pow_succ, Nat.mul_comm]
    have e5 : (t % 10000 + t / 10000 * 10000) * mB ^ i = t * mB ^ i := by
      congr 1; omega
    rw [Nat.add_mul, Nat.mul_assoc] at e5
    rw [e4]
    show mval f i + t % 10000 * mB ^ i + t / 10000 * (10000 * mB ^ i) = v
    omega
theorem mSet_end {f : Nat → Nat} {v i t : Nat} (h : mSetI f v i t) (hi : 12 ≤ i) : bRep f v := by
  obtain ⟨h1, h2, h3, h4⟩ := h
  have e : i = 12 := by omega
  subst e
  refine ⟨h2, fun hv => ?_⟩
  rcases Nat.eq_zero_or_pos t with q | q
  · rw [q] at h3; omega
  · have : 1 * mB ^ 12 ≤ t * mB ^ 12 := Nat.mul_le_mul_right _ q
    omega
theorem bp_up {big : Nat → Nat} {x i z : Nat} : bp (va_up big (12 * x + i) z) x = va_up (bp big x) i z := by
  funext k
  by_cases q : k = i
  · subst q; show va_up big (12 * x + k) z (12 * x + k) = _; rw [va_up_self, va_up_self]
  · show va_up big (12 * x + i) z (12 * x + k) = _; rw [va_up_ne _ _ (by omega), va_up_ne _ _ q]
theorem bFr_up {big1 big : Nat → Nat} {x i z : Nat} (h : bFr big1 big x) (hi : i < 12) : bFr (va_up big1 (12 * x + i) z) big x := fun k hk => by
  rw [va_up_ne _ _ (by omega)]; exact h k hk
set_option maxHeartbeats 4000000 in
set_option maxRecDepth 100000 in
/-- a small number is set -/
theorem c_MO_set (l : Launch) (D : va_G) (ca : Nat → ClassId) (b : Nat) (C0 : Nat → va_E) {th : Nat} {dts : Nat} {tld : Nat} {fs9 : Nat} {ls9 : Nat} {cn9 : Nat} {lf9 : Nat} {mb9 : Nat} {mwt : Nat → Nat} {mab : Nat → Nat} {mbe : Nat → Nat} {on1 : Nat → Nat} {ot2 : Nat → Nat} {lea : Nat → Nat} {mos : Nat → Nat} {big : Nat → Nat} {wid : Nat → Nat} {yrs : Nat → Nat} (x v : Nat) (hX : MR ca b C0 th dts tld fs9 ls9 cn9 lf9 mb9 mwt mab mbe on1 ot2 lea mos big wid yrs) (hx91 : x < 91) (hv : v < 2 ^ 31) : Met l y_MO_set (k_MO_set :: gw) ({ frames := 1, cells := 0, slots := 0, locals := 12 }) (xPc D ca b 11 C0 [.ref (b + 0), .int (nI x), .int (nI v)]) (xQ D b 11 (fun r C1 => r = none ∧ ∃ big1, MR ca b C1 th dts tld fs9 ls9 cn9 lf9 mb9 mwt mab mbe on1 ot2 lea mos big1 wid yrs ∧ bRep (bp big1 x) v ∧ bFr big1 big x)) 0 0 (xr b 11) := by
  refine Met.ofW (cc := b_MO_set) (maxL := 5) (ret := none) (by decide) rfl ?_
  intro p e s m args below meth c s₁ B hml hv
  obtain ⟨hav, hP, hK⟩ := hv
  have hx := B.exec
  have hb := B.bytes
  have hr := B.returns
  have hts := atoms_spec (ws := k_MO_set :: gw) B.pre
  have hown : s.vm.findClass R_MO = some m.cls := findClass_of_methodNamed B.named
  have hlocks := B.notSynchronized
  have hA : ∀ k, k < 11 → xr b 11 (b + k) := xr_in
  have hS : va_S (xr b 11) s.heap s.heap [] := va_S.rf
  have hl := lv_entry ([.ref (b + 0), .int (nI x), .int (nI v)]) (n := 5) (Nat.le_of_ble_eq_true rfl)
  rw [hav, lg_entry_eq]
  generalize (lg_sl ([.ref (b + 0), .int (nI x), .int (nI v)]) ++ List.replicate (5 - (lg_sl ([.ref (b + 0), .int (nI x), .int (nI v)])).length) Slot.unset).toArray = ls at hl ⊢
  have hl : lv_has ls 5 [(0, .ref (b + 0)), (1, .int (nI x)), (2, .int (nI v))] := hl
  rw [← hav]
  refine lv_iload_n hx hb d_MO_set_0 rfl (lv_at hl 2 rfl) ?_
  refine lv_istore_n (lv' := [(3, .int (nI v)), (0, .ref (b + 0)), (1, .int (nI x)), (2, .int (nI v))]) hx hb d_MO_set_1 rfl hl (by decide) rfl (fun ls hl => ?_)
  refine lv_iconst (v := nI 0) hx hb d_MO_set_2 (by decide) ?_
  refine lv_istore (lv' := [(4, .int (nI 0)), (3, .int (nI v)), (0, .ref (b + 0)), (1, .int (nI x)), (2, .int (nI v))]) hx hb d_MO_set_3 hl (by decide) rfl (fun ls hl => ?_)
  have loop5 : ∀ (r : Nat) (i : Nat) (t : Nat) (bg : Nat → Nat) (C : Nat → va_E) (H : Heap) (locs : List Loc) (ls : Array Slot), 12 < i + r → mSetI (bp bg x) v i t → bFr bg big x → va_P D classes (wl b 11 C) H → va_S (xr b 11) s.heap H locs → MR ca b C th dts tld fs9 ls9 cn9 lf9 mb9 mwt mab mbe on1 ot2 lea mos bg wid yrs → lv_has ls 5 [(0, .ref (b + 0)), (1, .int (nI x)), (3, .int (nI t)), (4, .int (nI i))] → W p l e (headSpec (k_MO_set :: gw) ({ frames := 1, cells := 0, slots := 0, locals := 12 })).room s m args below meth c H locs 0 0 (MQ below (xQ D b 11 (fun r C1 => r = none ∧ ∃ big1, MR ca b C1 th dts tld fs9 ls9 cn9 lf9 mb9 mwt mab mbe on1 ot2 lea mos big1 wid yrs ∧ bRep (bp big1 x) v ∧ bFr big1 big x)) args s 0 0 (xr b 11)) (F0 m 5 ls []) := by
    intro r
    induction r with
    | zero => intro i t bg C H locs ls hms hI hFr; exact absurd hms (by have := hI.1; omega)
    | succ r ih5 =>
      intro i t bg C H locs ls hms hI hFr hP hS hX hl
      have hI1 := hI.1
      have hI4 := hI.2.2.2
      refine lv_iload hx hb d_MO_set_5 (lv_at hl 3 rfl) ?_
      refine lv_bipush (v := nI 12) hx hb d_MO_set_7 (by decide) ?_
      refine xi_ge (tgt := 41) hx hb d_MO_set_9 (by decide) (by omega) (by omega) (fun h9 => ?_) (fun h9 => ?_)
      · skip
        exact xw_vret hx hb hr hlocks hP hS ⟨rfl, _, hX, mSet_end hI h9, hFr⟩ d_MO_set_41
      · skip
        refine lv_aload_n hx hb d_MO_set_12 rfl (lv_at hl 0 rfl) ?_
        refine xw_get (v := .ref (b + 8)) hx hb hts (fun w h => mw (uw_MO w h)) hown hK hP (MR_0 hX) (by decide) rfl 10 (by decide) (hts _ (mw tb_605)) (fun _ h => h) rfl d_MO_set_13 ?_
        refine lv_bipush (v := nI 12) hx hb d_MO_set_16 (by decide) ?_
        refine lv_iload_n hx hb d_MO_set_18 rfl (lv_at hl 1 rfl) ?_
        refine lv_imul hx hb d_MO_set_19 ?_
        refine ti (nI (12 * x)) (pk_mul _ _) ?_
        refine lv_iload hx hb d_MO_set_20 (lv_at hl 3 rfl) ?_
        refine lv_iadd hx hb d_MO_set_22 ?_
        refine ti (nI ((12 * x) + i)) (nI_add _ _) ?_
        refine lv_iload_n hx hb d_MO_set_23 rfl (lv_at hl 2 rfl) ?_
        refine lv_sipush (v := nI 10000) hx hb d_MO_set_24 (by decide) ?_
        refine lv_irem hx hb d_MO_set_27 (by decide) ?_
        refine ti (nI (t % 10000)) (pk_rem (by omega) (by decide) (by decide)) ?_
        refine xw_iast hx hb hK hP hA hS 0 (MR_8 hX) (by decide) rfl (by omega) (by decide) d_MO_set_28 (fun H locs hP hS => ?_)
        have hX := MR_set_big (j := (12 * x) + i) (x := t % 10000) hX
        generalize va_up _ 8 _ = C at hP hX
        refine lv_iload_n hx hb d_MO_set_29 rfl (lv_at hl 2 rfl) ?_
        refine lv_sipush (v := nI 10000) hx hb d_MO_set_30 (by decide) ?_
        refine lv_idiv hx hb d_MO_set_33 (by decide) ?_
        refine ti (nI (t / 10000)) (pk_div (by omega) (by decide) (by decide)) ?_
        refine lv_istore_n (lv' := [(3, .int (nI (t / 10000))), (0, .ref (b + 0)), (1, .int (nI x)), (4, .int (nI i))]) hx hb d_MO_set_34 rfl hl (by decide) rfl (fun ls hl => ?_)
        refine lv_iinc (v := nI (i + 1)) (lv' := [(4, .int (nI (i + 1))), (3, .int (nI (t / 10000))), (0, .ref (b + 0)), (1, .int (nI x))]) hx hb d_MO_set_35 hl (k := 3) rfl (show nI i + Int32.ofInt 1 = nI (i + 1) from nI_add _ _) (by decide) rfl (fun ls hl => ?_)
        refine lv_goto (tgt := 5) hx hb d_MO_set_38 (by decide) ?_
        exact ih5 (i + 1) (t / 10000) (va_up bg ((12 * x) + i) (t % 10000)) _ _ _ _ (by omega) (by rw [bp_up]; exact mSetI_s hI h9) (bFr_up hFr h9) hP hS hX (lv_sub hl [2, 3, 1, 0] rfl)
  exact loop5 13 0 v big _ _ _ _ (by omega) ⟨by omega, fun k hk => absurd hk (by omega), by simp [mval], Nat.le_refl _⟩ (fun _ _ => rfl) hP hS hX (lv_sub hl [2, 3, 1, 0] rfl)

set_option maxHeartbeats 4000000 in
set_option maxRecDepth 100000 in
/-- a number is copied -/
theorem c_MO_copy (l : Launch) (D : va_G) (ca : Nat → ClassId) (b : Nat) (C0 : Nat → va_E) {th : Nat} {dts : Nat} {tld : Nat} {fs9 : Nat} {ls9 : Nat} {cn9 : Nat} {lf9 : Nat} {mb9 : Nat} {mwt : Nat → Nat} {mab : Nat → Nat} {mbe : Nat → Nat} {on1 : Nat → Nat} {ot2 : Nat → Nat} {lea : Nat → Nat} {mos : Nat → Nat} {big : Nat → Nat} {wid : Nat → Nat} {yrs : Nat → Nat} (x y : Nat) (hX : MR ca b C0 th dts tld fs9 ls9 cn9 lf9 mb9 mwt mab mbe on1 ot2 lea mos big wid yrs) (hx91 : x < 91) (hy91 : y < 91) (hxy : x ≠ y) (hby : bOk (bp big y)) : Met l y_MO_copy (k_MO_copy :: gw) ({ frames := 1, cells := 0, slots := 0, locals := 12 }) (xPc D ca b 11 C0 [.ref (b + 0), .int (nI x), .int (nI y)]) (xQ D b 11 (fun r C1 => r = none ∧ ∃ big1, MR ca b C1 th dts tld fs9 ls9 cn9 lf9 mb9 mwt mab mbe on1 ot2 lea mos big1 wid yrs ∧ (∀ k, k < 12 → big1 (12 * x + k) = big (12 * y + k)) ∧ bFr big1 big x)) 0 0 (xr b 11) := by
  refine Met.ofW (cc := b_MO_copy) (maxL := 4) (ret := none) (by decide) rfl ?_
  intro p e s m args below meth c s₁ B hml hv
  obtain ⟨hav, hP, hK⟩ := hv
  have hx := B.exec
  have hb := B.bytes
  have hr := B.returns
  have hts := atoms_spec (ws := k_MO_copy :: gw) B.pre
  have hown : s.vm.findClass R_MO = some m.cls := findClass_of_methodNamed B.named
  have hlocks := B.notSynchronized
  have hA : ∀ k, k < 11 → xr b 11 (b + k) := xr_in
  have hS : va_S (xr b 11) s.heap s.heap [] := va_S.rf
  have hl := lv_entry ([.ref (b + 0), .int (nI x), .int (nI y)]) (n := 4) (Nat.le_of_ble_eq_true rfl)
  rw [hav, lg_entry_eq]
  generalize (lg_sl ([.ref (b + 0), .int (nI x), .int (nI y)]) ++ List.replicate (4 - (lg_sl ([.ref (b + 0), .int (nI x), .int (nI y)])).length) Slot.unset).toArray = ls at hl ⊢
  have hl : lv_has ls 4 [(0, .ref (b + 0)), (1, .int (nI x)), (2, .int (nI y))] := hl
  rw [← hav]
  refine lv_iconst (v := nI 0) hx hb d_MO_copy_0 (by decide) ?_
  refine lv_istore_n (lv' := [(3, .int (nI 0)), (0, .ref (b + 0)), (1, .int (nI x)), (2, .int (nI y))]) hx hb d_MO_copy_1 rfl hl (by decide) rfl (fun ls hl => ?_)
  have loop2 : ∀ (r : Nat) (i : Nat) (bg : Nat → Nat) (C : Nat → va_E) (H : Heap) (locs : List Loc) (ls : Array Slot), 12 < i + r → i ≤ 12 → (∀ k, k < i → bg (12 * x + k) = big (12 * y + k)) → bFr bg big x → va_P D classes (wl b 11 C) H → va_S (xr b 11) s.heap H locs → MR ca b C th dts tld fs9 ls9 cn9 lf9 mb9 mwt mab mbe on1 ot2 lea mos bg wid yrs → lv_has ls 4 [(0, .ref (b + 0)), (1, .int (nI x)), (2, .int (nI y)), (3, .int (nI i))] → W p l e (headSpec (k_MO_copy :: gw) ({ frames := 1, cells := 0, slots := 0, locals := 12 })).room s m args below meth c H locs 0 0 (MQ below (xQ D b 11 (fun r C1 => r = none ∧ ∃ big1, MR ca b C1 th dts tld fs9 ls9 cn9 lf9 mb9 mwt mab mbe on1 ot2 lea mos big1 wid yrs ∧ (∀ k, k < 12 → big1 (12 * x + k) = big (12 * y + k)) ∧ bFr big1 big x)) args s 0 0 (xr b 11)) (F0 m 2 ls []) := by
    intro r
    induction r with
    | zero => intro i bg C H locs ls hms hi hI hFr; exact absurd hms (by omega)
    | succ r ih2 =>
      intro i bg C H locs ls hms hi hI hFr hP hS hX hl
      refine lv_iload_n hx hb d_MO_copy_2 rfl (lv_at hl 3 rfl) ?_
      refine lv_bipush (v := nI 12) hx hb d_MO_copy_3 (by decide) ?_
      refine xi_ge (tgt := 36) hx hb d_MO_copy_5 (by decide) (by omega) (by omega) (fun h5 => ?_) (fun h5 => ?_)
      · skip
        exact xw_vret hx hb hr hlocks hP hS ⟨rfl, _, hX, fun k hk => hI k (by omega), hFr⟩ d_MO_copy_36
      · skip
        refine lv_aload_n hx hb d_MO_copy_8 rfl (lv_at hl 0 rfl) ?_
        refine xw_get (v := .ref (b + 8)) hx hb hts (fun w h => mw (uw_MO w h)) hown hK hP (MR_0 hX) (by decide) rfl 10 (by decide) (hts _ (mw tb_605)) (fun _ h => h) rfl d_MO_copy_9 ?_
        refine lv_bipush (v := nI 12) hx hb d_MO_copy_12 (by decide) ?_
        refine lv_iload_n hx hb d_MO_copy_14 rfl (lv_at hl 1 rfl) ?_
        refine lv_imul hx hb d_MO_copy_15 ?_
        refine ti (nI (12 * x)) (pk_mul _ _) ?_
        refine lv_iload_n hx hb d_MO_copy_16 rfl (lv_at hl 3 rfl) ?_
        refine lv_iadd hx hb d_MO_copy_17 ?_
        refine ti (nI ((12 * x) + i)) (nI_add _ _) ?_
        refine lv_aload_n hx hb d_MO_copy_18 rfl (lv_at hl 0 rfl) ?_
        refine xw_get (v := .ref (b + 8)) hx hb hts (fun w h => mw (uw_MO w h)) hown hK hP (MR_0 hX) (by decide) rfl 10 (by decide) (hts _ (mw tb_605)) (fun _ h => h) rfl d_MO_copy_19 ?_
        refine lv_bipush (v := nI 12) hx hb d_MO_copy_22 (by decide) ?_
        refine lv_iload_n hx hb d_MO_copy_24 rfl (lv_at hl 2 rfl) ?_
        refine lv_imul hx hb d_MO_copy_25 ?_
        refine ti (nI (12 * y)) (pk_mul _ _) ?_
        refine lv_iload_n hx hb d_MO_copy_26 rfl (lv_at hl 3 rfl) ?_
        refine lv_iadd hx hb d_MO_copy_27 ?_
        refine ti (nI ((12 * y) + i)) (nI_add _ _) ?_
        refine xw_iald hx hb hK hP 0 (MR_8 hX) (by decide) rfl (by omega) (by decide) d_MO_copy_28 ?_
        refine xw_iast hx hb hK hP hA hS 0 (MR_8 hX) (by decide) rfl (by omega) (by decide) d_MO_copy_29 (fun H locs hP hS => ?_)
        have hX := MR_set_big (j := (12 * x) + i) (x := bg ((12 * y) + i)) hX
        generalize va_up _ 8 _ = C at hP hX
        refine lv_iinc (v := nI (i + 1)) (lv' := [(3, .int (nI (i + 1))), (0, .ref (b + 0)), (1, .int (nI x)), (2, .int (nI y))]) hx hb d_MO_copy_30 hl (k := 3) rfl (show nI i + Int32.ofInt 1 = nI (i + 1) from nI_add _ _) (by decide) rfl (fun ls hl => ?_)
        refine lv_goto (tgt := 2) hx hb d_MO_copy_33 (by decide) ?_
        exact ih2 (i + 1) (va_up bg ((12 * x) + i) (bg ((12 * y) + i))) _ _ _ _ (by omega) (by omega) (fun k hk => by
            by_cases q : k = i
            · rw [q, va_up_self]; exact hFr.bp (fun e => hxy e.symm) h5
            · rw [va_up_ne _ _ (by omega)]; exact hI k (by omega)) (bFr_up hFr h5) hP hS hX (lv_sub hl [1, 2, 3, 0] rfl)
  exact loop2 13 0 big _ _ _ _ (by omega) (by omega) (fun k hk => absurd hk (by omega)) (fun _ _ => rfl) hP hS hX (lv_sub hl [1, 2, 3, 0] rfl)

