/-! The Model's great numbers: add, times, isNothing, isLess, digitOf -/
def mAddI (f g f1 : Nat → Nat) (i c : Nat) : Prop := i ≤ 12 ∧ c ≤ 1 ∧ (∀ k, k < 12 → f1 k < mB) ∧ (∀ k, i ≤ k → f1 k = f k) ∧ mval f1 i + c * mB ^ i = mval f i + mval g i
theorem mAddI_s {f g f1 : Nat → Nat} {i c : Nat} (hg : bOk g) (h : mAddI f g f1 i c) (hi : i < 12) : mAddI f g (va_up f1 i ((f1 i + g i + c) % 10000)) (i + 1) ((f1 i + g i + c) / 10000) := by
  obtain ⟨h1, h2, h3, h4, h5⟩ := h
  have e1 : f1 i < 10000 := h3 i hi
  have e2 : g i < 10000 := hg i hi
  have e3 := h4 i (Nat.le_refl i)
  refine ⟨by omega, by omega, fun k hk => ?_, fun k hk => ?_, ?_⟩
  · by_cases q : k = i
    · rw [q, va_up_self]; exact Nat.mod_lt _ mB_pos
    · rw [va_up_ne _ _ q]; exact h3 k hk
  · rw [va_up_ne _ _ (by omega)]; exact h4 k (by omega)
  · rw [mval_s, mval_s, mval_s, mvup, va_up_self, ← e3]
    have e4 : mB ^ (i + 1) = 10000 * mB ^ i := by rw [Nat.pow_succ, Nat.mul_comm]; rfl
    have e5 : ((f1 i + g i + c) % 10000 + (f1 i + g i + c) / 10000 * 10000) * mB ^ i = (f1 i + g i + c) * mB ^ i := by
      congr 1; omega
    rw [Nat.add_mul, Nat.mul_assoc, Nat.add_mul, Nat.add_mul] at e5
    rw [e4]
    omega
theorem mAdd_end {f g f1 : Nat → Nat} {i c v w : Nat} (hf : bRep f v) (hg : bRep g w) (h : mAddI f g f1 i c) (hi : 12 ≤ i) : bRep f1 (v + w) := by
  obtain ⟨h1, h2, h3, h4, h5⟩ := h
  have e : i = 12 := by omega
  subst e
  refine ⟨h3, fun hv => ?_⟩
  rw [hf.2 (by omega), hg.2 (by omega)] at h5
  rcases Nat.eq_zero_or_pos c with q | q
  · rw [q] at h5; omega
  · have : 1 * mB ^ 12 ≤ c * mB ^ 12 := Nat.mul_le_mul_right _ q
    omega
/-- times, k parts of the first number taken -/
def mMulK (f g W : Nat → Nat) (k : Nat) : Prop := k ≤ 12 ∧ (∀ j, j < 25 → W j < mB) ∧ (∀ j, k + 12 ≤ j → j < 25 → W j = 0) ∧ mval W (k + 12) = mval f k * mval g 12
def mMulN (f g W W1 : Nat → Nat) (k n c : Nat) : Prop := n ≤ 12 ∧ c < mB ∧ (∀ j, j < 25 → W1 j < mB) ∧ (∀ j, k + n ≤ j → W1 j = W j) ∧ mval W1 (k + n) + c * mB ^ (k + n) = mval W (k + n) + f k * mval g n * mB ^ k
theorem mMulN_0 {f g W : Nat → Nat} {k : Nat} (h : ∀ j, j < 25 → W j < mB) : mMulN f g W W k 0 0 := ⟨by omega, mB_pos, h, fun _ _ => rfl, by simp [mval]⟩
theorem mMulN_s {f g W W1 : Nat → Nat} {k n c : Nat} (hf : f k < mB) (hg : bOk g) (h : mMulN f g W W1 k n c) (hk : k < 12) (hn : n < 12) : mMulN f g W (va_up W1 (k + n) ((W1 (k + n) + f k * g n + c) % 10000)) k (n + 1) ((W1 (k + n) + f k * g n + c) / 10000) := by
  obtain ⟨h1, h2, h3, h4, h5⟩ := h
  have e1 := h3 (k + n) (by omega)
  have e2 := hg n hn
  have e3 := h4 (k + n) (Nat.le_refl _)
  have hb : (W1 (k + n) + f k * g n + c) / 10000 < mB := by
    have e8 : f k * g n ≤ 99980001 := Nat.le_trans (Nat.mul_le_mul (Nat.le_sub_one_of_lt hf) (Nat.le_sub_one_of_lt e2)) (by decide)
    have e9 : mB = 10000 := rfl
    rw [e9] at h2 e1 ⊢
    omega
  refine ⟨by omega, hb, fun j hj => ?_, fun j hj => ?_, ?_⟩
  · by_cases q : j = k + n
    · rw [q, va_up_self]; exact Nat.mod_lt _ mB_pos
    · rw [va_up_ne _ _ q]; exact h3 j hj
  · rw [va_up_ne _ _ (by omega)]; exact h4 j (by omega)
  · rw [← Nat.add_assoc, mval_s, mval_s, mval_s g n, mvup, va_up_self, ← e3]
    have e4 : mB ^ (k + n + 1) = 10000 * mB ^ (k + n) := by rw [Nat.pow_succ, Nat.mul_comm]; rfl
    have e5 : ((W1 (k + n) + f k * g n + c) % 10000 + (W1 (k + n) + f k * g n + c) / 10000 * 10000) * mB ^ (k + n) = (W1 (k + n) + f k * g n + c) * mB ^ (k + n) := by
      congr 1; omega
    have e6 : f k * (mval g n + g n * mB ^ n) * mB ^ k = f k * mval g n * mB ^ k + f k * g n * mB ^ (k + n) := by
      rw [Nat.mul_add, Nat.add_mul, Nat.pow_add, ← Nat.mul_assoc (f k) (g n) (mB ^ n), Nat.mul_assoc (f k * g n), Nat.mul_comm (mB ^ n) (mB ^ k)]
    rw [Nat.add_mul, Nat.mul_assoc, Nat.add_mul, Nat.add_mul] at e5
    rw [e4, e6]
    omega
theorem mMulK_0 {f g W : Nat → Nat} (h : ∀ j, j < 25 → W j = 0) : mMulK f g W 0 := by
  refine ⟨by omega, fun j hj => by rw [h j hj]; exact mB_pos, fun j _ hj => h j hj, ?_⟩
  rw [mval_congr (g := fun _ => 0) (fun i hi => h i (by omega))]
  show mval (fun _ => 0) 12 = 0 * _
  rw [Nat.zero_mul]; decide
theorem mMulK_s {f g W W1 : Nat → Nat} {k c : Nat} (h : mMulK f g W k) (hk : k < 12) (hN : mMulN f g W W1 k 12 c) : mMulK f g (va_up W1 (k + 12) (W1 (k + 12) + c)) (k + 1) := by
  obtain ⟨h1, h2, h3, h4⟩ := h
  obtain ⟨n1, n2, n3, n4, n5⟩ := hN
  have z : W1 (k + 12) = 0 := by rw [n4 (k + 12) (Nat.le_refl _)]; exact h3 _ (Nat.le_refl _) (by omega)
  rw [z, Nat.zero_add]
  refine ⟨by omega, fun j hj => ?_, fun j hj1 hj2 => ?_, ?_⟩
  · by_cases q : j = k + 12
    · rw [q, va_up_self]; exact n2
    · rw [va_up_ne _ _ q]; exact n3 j hj
  · rw [va_up_ne _ _ (by omega), n4 j (by omega)]; exact h3 j (by omega) hj2
  · rw [show k + 1 + 12 = k + 12 + 1 by omega, mval_s, mvup, va_up_self, n5, h4, mval_s f k, Nat.add_mul]
    rw [Nat.mul_assoc (f k) (mB ^ k), Nat.mul_comm (mB ^ k), ← Nat.mul_assoc]
theorem mMul_end {f g W f1 : Nat → Nat} {v w : Nat} (hf : bRep f v) (hg : bRep g w) (h : mMulK f g W 12) (he : ∀ k, k < 12 → f1 k = W k) : bRep f1 (v * w) := by
  obtain ⟨-, h2, h3, h4⟩ := h
  refine ⟨fun k hk => by rw [he k hk]; exact h2 k (by omega), fun hv => ?_⟩
  rw [mval_congr he]
  have key : mval f 12 * mval g 12 = v * w := by
    by_cases q : v < mB ^ 12
    · by_cases q2 : w < mB ^ 12
      · rw [hf.2 q, hg.2 q2]
      · have hv0 : v = 0 := by
          rcases Nat.eq_zero_or_pos v with p | p
          · exact p
          · have : 1 * w ≤ v * w := Nat.mul_le_mul_right _ p
            omega
        rw [hf.2 q, hv0, Nat.zero_mul, Nat.zero_mul]
    · have hw0 : w = 0 := by
        rcases Nat.eq_zero_or_pos w with p | p
        · exact p
        · have : v * 1 ≤ v * w := Nat.mul_le_mul_left _ p
          omega
      rw [hg.2 (by rw [hw0]; exact mpow_pos 12), hw0, Nat.mul_zero, Nat.mul_zero]
  obtain ⟨r, hr⟩ := mval_split W (m := 12) (n := 24) (by omega)
  have h4 : mval W 24 = v * w := by rw [← key]; exact h4
  rcases Nat.eq_zero_or_pos r with p | p
  · rw [p] at hr; omega
  · have : 1 * mB ^ 12 ≤ r * mB ^ 12 := Nat.mul_le_mul_right _ p
    omega
theorem mval_zero {f : Nat → Nat} : ∀ n, mval f n = 0 ↔ ∀ k, k < n → f k = 0 := by
  intro n
  induction n with
  | zero => exact ⟨fun _ k hk => absurd hk (by omega), fun _ => rfl⟩
  | succ n ih =>
    rw [mval_s]
    constructor
    · intro h k hk
      by_cases q : k = n
      · subst q
        rcases Nat.eq_zero_or_pos (f k) with p | p
        · exact p
        · have := Nat.mul_le_mul_right (mB ^ k) p
          have := mpow_pos k
          omega
      · exact ih.mp (by omega) k (by omega)
    · intro h
      rw [ih.mpr (fun k hk => h k (by omega)), h n (by omega)]; simp
theorem mval_less {f g : Nat → Nat} {n : Nat} (hf : ∀ k, k < n → f k < mB) (hg : ∀ k, k < n → g k < mB) : mval f (n + 1) < mval g (n + 1) ↔ (f n < g n ∨ (f n = g n ∧ mval f n < mval g n)) := by
  have e1 := mval_lt hf
  have e2 := mval_lt hg
  rw [mval_s, mval_s]
  rcases Nat.lt_trichotomy (f n) (g n) with q | q | q
  · have : (f n + 1) * mB ^ n ≤ g n * mB ^ n := Nat.mul_le_mul_right _ q
    rw [Nat.add_mul, Nat.one_mul] at this
    constructor
    · intro _; exact Or.inl q
    · intro _; omega
  · rw [q]; omega
  · have : (g n + 1) * mB ^ n ≤ f n * mB ^ n := Nat.mul_le_mul_right _ q
    rw [Nat.add_mul, Nat.one_mul] at this
    constructor
    · intro h; omega
    · intro h; omega
theorem mval_part {f : Nat → Nat} {n q : Nat} (h : ∀ k, k < n → f k < mB) (hq : q < n) : mval f n / mB ^ q % mB = f q := by
  obtain ⟨r, hr⟩ := mval_split f (m := q + 1) (n := n) (by omega)
  have e1 := mval_lt (f := f) (n := q) (fun k hk => h k (by omega))
  have e4 : mB ^ (q + 1) = mB * mB ^ q := by rw [Nat.pow_succ, Nat.mul_comm]
  have e5 : mval f n = mval f q + (f q + r * mB) * mB ^ q := by
    rw [hr, mval_s, e4, Nat.add_mul, Nat.mul_assoc]
    omega
  rw [e5, Nat.add_mul_div_right _ _ (mpow_pos q), Nat.div_eq_of_lt e1, Nat.zero_add, Nat.add_mul_mod_self_right]
  exact Nat.mod_eq_of_lt (h q hq)
theorem m_digit {v q r x : Nat} (hr : r < 4) (hx : v / mB ^ q % mB = x) : v / 10 ^ (4 * q + r) % 10 = x / 10 ^ r % 10 := by
  have e1 : (10 : Nat) ^ (4 * q + r) = mB ^ q * 10 ^ r := by
    rw [Nat.pow_add, Nat.pow_mul]
    rfl
  have e2 : mB = 10 ^ (r + 1) * 10 ^ (3 - r) := by
    rw [← Nat.pow_add, show r + 1 + (3 - r) = 4 by omega]; decide
  rw [e1, ← Nat.div_div_eq_div_mul, ← hx]
  generalize v / mB ^ q = z
  rw [e2, Nat.pow_succ, Nat.mul_assoc, Nat.mod_mul_right_div_self, Nat.mod_mul_right_mod]
set_option maxHeartbeats 4000000 in
set_option maxRecDepth 100000 in
/-- a number is added -/
theorem c_MO_add (l : Launch) (D : va_G) (ca : Nat → ClassId) (b : Nat) (C0 : Nat → va_E) {th : Nat} {dts : Nat} {tld : Nat} {fs9 : Nat} {ls9 : Nat} {cn9 : Nat} {lf9 : Nat} {mb9 : Nat} {mwt : Nat → Nat} {mab : Nat → Nat} {mbe : Nat → Nat} {on1 : Nat → Nat} {ot2 : Nat → Nat} {lea : Nat → Nat} {mos : Nat → Nat} {big : Nat → Nat} {wid : Nat → Nat} {yrs : Nat → Nat} (x y v w : Nat) (hX : MR ca b C0 th dts tld fs9 ls9 cn9 lf9 mb9 mwt mab mbe on1 ot2 lea mos big wid yrs) (hx91 : x < 91) (hy91 : y < 91) (hxy : x ≠ y) (hbx : bRep (bp big x) v) (hby : bRep (bp big y) w) : Met l y_MO_add (k_MO_add :: gw) ({ frames := 1, cells := 0, slots := 0, locals := 12 }) (xPc D ca b 11 C0 [.ref (b + 0), .int (nI x), .int (nI y)]) (xQ D b 11 (fun r C1 => r = none ∧ ∃ big1, MR ca b C1 th dts tld fs9 ls9 cn9 lf9 mb9 mwt mab mbe on1 ot2 lea mos big1 wid yrs ∧ bRep (bp big1 x) (v + w) ∧ bFr big1 big x)) 0 0 (xr b 11) := by
  refine Met.ofW (cc := b_MO_add) (maxL := 6) (ret := none) (by decide) rfl ?_
  intro p e s m args below meth c s₁ B hml hv
  obtain ⟨hav, hP, hK⟩ := hv
  have hx := B.exec
  have hb := B.bytes
  have hr := B.returns
  have hts := atoms_spec (ws := k_MO_add :: gw) B.pre
  have hown : s.vm.findClass R_MO = some m.cls := findClass_of_methodNamed B.named
  have hlocks := B.notSynchronized
  have hA : ∀ k, k < 11 → xr b 11 (b + k) := xr_in
  have hS : va_S (xr b 11) s.heap s.heap [] := va_S.rf
  have hl := lv_entry ([.ref (b + 0), .int (nI x), .int (nI y)]) (n := 6) (Nat.le_of_ble_eq_true rfl)
  rw [hav, lg_entry_eq]
  generalize (lg_sl ([.ref (b + 0), .int (nI x), .int (nI y)]) ++ List.replicate (6 - (lg_sl ([.ref (b + 0), .int (nI x), .int (nI y)])).length) Slot.unset).toArray = ls at hl ⊢
  have hl : lv_has ls 6 [(0, .ref (b + 0)), (1, .int (nI x)), (2, .int (nI y))] := hl
  rw [← hav]
  refine lv_iconst (v := nI 0) hx hb d_MO_add_0 (by decide) ?_
  refine lv_istore_n (lv' := [(3, .int (nI 0)), (0, .ref (b + 0)), (1, .int (nI x)), (2, .int (nI y))]) hx hb d_MO_add_1 rfl hl (by decide) rfl (fun ls hl => ?_)
  refine lv_iconst (v := nI 0) hx hb d_MO_add_2 (by decide) ?_
  refine lv_istore (lv' := [(4, .int (nI 0)), (3, .int (nI 0)), (0, .ref (b + 0)), (1, .int (nI x)), (2, .int (nI y))]) hx hb d_MO_add_3 hl (by decide) rfl (fun ls hl => ?_)
  have loop5 : ∀ (r : Nat) (i : Nat) (c1 : Nat) (bg : Nat → Nat) (C : Nat → va_E) (H : Heap) (locs : List Loc) (ls : Array Slot), 12 < i + r → mAddI (bp big x) (bp big y) (bp bg x) i c1 → bFr bg big x → va_P D classes (wl b 11 C) H → va_S (xr b 11) s.heap H locs → MR ca b C th dts tld fs9 ls9 cn9 lf9 mb9 mwt mab mbe on1 ot2 lea mos bg wid yrs → lv_has ls 6 [(0, .ref (b + 0)), (1, .int (nI x)), (2, .int (nI y)), (3, .int (nI c1)), (4, .int (nI i))] → W p l e (headSpec (k_MO_add :: gw) ({ frames := 1, cells := 0, slots := 0, locals := 12 })).room s m args below meth c H locs 0 0 (MQ below (xQ D b 11 (fun r C1 => r = none ∧ ∃ big1, MR ca b C1 th dts tld fs9 ls9 cn9 lf9 mb9 mwt mab mbe on1 ot2 lea mos big1 wid yrs ∧ bRep (bp big1 x) (v + w) ∧ bFr big1 big x)) args s 0 0 (xr b 11)) (F0 m 5 ls []) := by
    intro r
    induction r with
    | zero => intro i c1 bg C H locs ls hms hI hFr; exact absurd hms (by have := hI.1; omega)
    | succ r ih5 =>
      intro i c1 bg C H locs ls hms hI hFr hP hS hX hl
      have hI1 := hI.1
      have hI2 := hI.2.1
      refine lv_iload hx hb d_MO_add_5 (lv_at hl 4 rfl) ?_
      refine lv_bipush (v := nI 12) hx hb d_MO_add_7 (by decide) ?_
      refine xi_ge (tgt := 72) hx hb d_MO_add_9 (by decide) (by omega) (by omega) (fun h9 => ?_) (fun h9 => ?_)
      · skip
        exact xw_vret hx hb hr hlocks hP hS ⟨rfl, _, hX, mAdd_end hbx hby hI h9, hFr⟩ d_MO_add_72
      · skip
        have e1 : bg (12 * x + i) < 10000 := hI.2.2.1 i h9
        have e2 : big (12 * y + i) < 10000 := hby.1 i h9
        have e3 : bg (12 * y + i) = big (12 * y + i) := hFr.bp (fun q => hxy q.symm) h9
        rw [← e3] at e2
        refine lv_aload_n hx hb d_MO_add_12 rfl (lv_at hl 0 rfl) ?_
        refine xw_get (v := .ref (b + 8)) hx hb hts (fun w h => mw (uw_MO w h)) hown hK hP (MR_0 hX) (by decide) rfl 10 (by decide) (hts _ (mw tb_605)) (fun _ h => h) rfl d_MO_add_13 ?_
        refine lv_bipush (v := nI 12) hx hb d_MO_add_16 (by decide) ?_
        refine lv_iload_n hx hb d_MO_add_18 rfl (lv_at hl 1 rfl) ?_
        refine lv_imul hx hb d_MO_add_19 ?_
        refine ti (nI (12 * x)) (pk_mul _ _) ?_
        refine lv_iload hx hb d_MO_add_20 (lv_at hl 4 rfl) ?_
        refine lv_iadd hx hb d_MO_add_22 ?_
        refine ti (nI ((12 * x) + i)) (nI_add _ _) ?_
        refine xw_iald hx hb hK hP 0 (MR_8 hX) (by decide) rfl (by omega) (by decide) d_MO_add_23 ?_
        refine lv_aload_n hx hb d_MO_add_24 rfl (lv_at hl 0 rfl) ?_
        refine xw_get (v := .ref (b + 8)) hx hb hts (fun w h => mw (uw_MO w h)) hown hK hP (MR_0 hX) (by decide) rfl 10 (by decide) (hts _ (mw tb_605)) (fun _ h => h) rfl d_MO_add_25 ?_
        refine lv_bipush (v := nI 12) hx hb d_MO_add_28 (by decide) ?_
        refine lv_iload_n hx hb d_MO_add_30 rfl (lv_at hl 2 rfl) ?_
        refine lv_imul hx hb d_MO_add_31 ?_
        refine ti (nI (12 * y)) (pk_mul _ _) ?_
        refine lv_iload hx hb d_MO_add_32 (lv_at hl 4 rfl) ?_
        refine lv_iadd hx hb d_MO_add_34 ?_
        refine ti (nI ((12 * y) + i)) (nI_add _ _) ?_
        refine xw_iald hx hb hK hP 0 (MR_8 hX) (by decide) rfl (by omega) (by decide) d_MO_add_35 ?_
        refine lv_iadd hx hb d_MO_add_36 ?_
        refine ti (nI ((bg ((12 * x) + i)) + (bg ((12 * y) + i)))) (nI_add _ _) ?_
        refine lv_iload_n hx hb d_MO_add_37 rfl (lv_at hl 3 rfl) ?_
        refine lv_iadd hx hb d_MO_add_38 ?_
        refine ti (nI (((bg ((12 * x) + i)) + (bg ((12 * y) + i))) + c1)) (nI_add _ _) ?_
        refine lv_istore (lv' := [(5, .int (nI (((bg ((12 * x) + i)) + (bg ((12 * y) + i))) + c1))), (0, .ref (b + 0)), (1, .int (nI x)), (2, .int (nI y)), (3, .int (nI c1)), (4, .int (nI i))]) hx hb d_MO_add_39 hl (by decide) rfl (fun ls hl => ?_)
        refine lv_aload_n hx hb d_MO_add_41 rfl (lv_at hl 1 rfl) ?_
        refine xw_get (v := .ref (b + 8)) hx hb hts (fun w h => mw (uw_MO w h)) hown hK hP (MR_0 hX) (by decide) rfl 10 (by decide) (hts _ (mw tb_605)) (fun _ h => h) rfl d_MO_add_42 ?_
        refine lv_bipush (v := nI 12) hx hb d_MO_add_45 (by decide) ?_
        refine lv_iload_n hx hb d_MO_add_47 rfl (lv_at hl 2 rfl) ?_
        refine lv_imul hx hb d_MO_add_48 ?_
        refine ti (nI (12 * x)) (pk_mul _ _) ?_
        refine lv_iload hx hb d_MO_add_49 (lv_at hl 5 rfl) ?_
        refine lv_iadd hx hb d_MO_add_51 ?_
        refine ti (nI ((12 * x) + i)) (nI_add _ _) ?_
        refine lv_iload hx hb d_MO_add_52 (lv_at hl 0 rfl) ?_
        refine lv_sipush (v := nI 10000) hx hb d_MO_add_54 (by decide) ?_
        refine lv_irem hx hb d_MO_add_57 (by decide) ?_
        refine ti (nI ((((bg ((12 * x) + i)) + (bg ((12 * y) + i))) + c1) % 10000)) (pk_rem (by omega) (by decide) (by decide)) ?_
        refine xw_iast hx hb hK hP hA hS 0 (MR_8 hX) (by decide) rfl (by omega) (by decide) d_MO_add_58 (fun H locs hP hS => ?_)
        have hX := MR_set_big (j := (12 * x) + i) (x := (((bg ((12 * x) + i)) + (bg ((12 * y) + i))) + c1) % 10000) hX
        generalize va_up _ 8 _ = C at hP hX
        refine lv_iload hx hb d_MO_add_59 (lv_at hl 0 rfl) ?_
        refine lv_sipush (v := nI 10000) hx hb d_MO_add_61 (by decide) ?_
        refine lv_idiv hx hb d_MO_add_64 (by decide) ?_
        refine ti (nI ((((bg ((12 * x) + i)) + (bg ((12 * y) + i))) + c1) / 10000)) (pk_div (by omega) (by decide) (by decide)) ?_
        refine lv_istore_n (lv' := [(3, .int (nI ((((bg ((12 * x) + i)) + (bg ((12 * y) + i))) + c1) / 10000))), (5, .int (nI (((bg ((12 * x) + i)) + (bg ((12 * y) + i))) + c1))), (0, .ref (b + 0)), (1, .int (nI x)), (2, .int (nI y)), (4, .int (nI i))]) hx hb d_MO_add_65 rfl hl (by decide) rfl (fun ls hl => ?_)
        refine lv_iinc (v := nI (i + 1)) (lv' := [(4, .int (nI (i + 1))), (3, .int (nI ((((bg ((12 * x) + i)) + (bg ((12 * y) + i))) + c1) / 10000))), (5, .int (nI (((bg ((12 * x) + i)) + (bg ((12 * y) + i))) + c1))), (0, .ref (b + 0)), (1, .int (nI x)), (2, .int (nI y))]) hx hb d_MO_add_66 hl (k := 5) rfl (show nI i + Int32.ofInt 1 = nI (i + 1) from nI_add _ _) (by decide) rfl (fun ls hl => ?_)
        refine lv_goto (tgt := 5) hx hb d_MO_add_69 (by decide) ?_
        exact ih5 (i + 1) ((((bg ((12 * x) + i)) + (bg ((12 * y) + i))) + c1) / 10000) (va_up bg ((12 * x) + i) ((((bg ((12 * x) + i)) + (bg ((12 * y) + i))) + c1) % 10000)) _ _ _ _ (by omega) (by rw [e3, bp_up]; exact mAddI_s hby.1 hI h9) (bFr_up hFr h9) hP hS hX (lv_sub hl [3, 4, 5, 1, 0] rfl)
  exact loop5 13 0 0 big _ _ _ _ (by omega) ⟨by omega, by omega, hbx.1, fun _ _ => rfl, by simp [mval]⟩ (fun _ _ => rfl) hP hS hX (lv_sub hl [2, 3, 4, 1, 0] rfl)

set_option maxHeartbeats 4000000 in
set_option maxRecDepth 100000 in
/-- a number is multiplied -/
theorem c_MO_times (l : Launch) (D : va_G) (ca : Nat → ClassId) (b : Nat) (C0 : Nat → va_E) {th : Nat} {dts : Nat} {tld : Nat} {fs9 : Nat} {ls9 : Nat} {cn9 : Nat} {lf9 : Nat} {mb9 : Nat} {mwt : Nat → Nat} {mab : Nat → Nat} {mbe : Nat → Nat} {on1 : Nat → Nat} {ot2 : Nat → Nat} {lea : Nat → Nat} {mos : Nat → Nat} {big : Nat → Nat} {wid : Nat → Nat} {yrs : Nat → Nat} (x y v w : Nat) (hX : MR ca b C0 th dts tld fs9 ls9 cn9 lf9 mb9 mwt mab mbe on1 ot2 lea mos big wid yrs) (hx91 : x < 91) (hy91 : y < 91) (hxy : x ≠ y) (hbx : bRep (bp big x) v) (hby : bRep (bp big y) w) : Met l y_MO_times (k_MO_times :: gw) ({ frames := 1, cells := 0, slots := 0, locals := 12 }) (xPc D ca b 11 C0 [.ref (b + 0), .int (nI x), .int (nI y)]) (xQ D b 11 (fun r C1 => r = none ∧ ∃ big1 wid1, MR ca b C1 th dts tld fs9 ls9 cn9 lf9 mb9 mwt mab mbe on1 ot2 lea mos big1 wid1 yrs ∧ bRep (bp big1 x) (v * w) ∧ bFr big1 big x)) 0 0 (xr b 11) := by
  refine Met.ofW (cc := b_MO_times) (maxL := 7) (ret := none) (by decide) rfl ?_
  intro p e s m args below meth c s₁ B hml hv
  obtain ⟨hav, hP, hK⟩ := hv
  have hx := B.exec
  have hb := B.bytes
  have hr := B.returns
  have hts := atoms_spec (ws := k_MO_times :: gw) B.pre
  have hown : s.vm.findClass R_MO = some m.cls := findClass_of_methodNamed B.named
  have hlocks := B.notSynchronized
  have hA : ∀ k, k < 11 → xr b 11 (b + k) := xr_in
  have hS : va_S (xr b 11) s.heap s.heap [] := va_S.rf
  have hl := lv_entry ([.ref (b + 0), .int (nI x), .int (nI y)]) (n := 7) (Nat.le_of_ble_eq_true rfl)
  rw [hav, lg_entry_eq]
  generalize (lg_sl ([.ref (b + 0), .int (nI x), .int (nI y)]) ++ List.replicate (7 - (lg_sl ([.ref (b + 0), .int (nI x), .int (nI y)])).length) Slot.unset).toArray = ls at hl ⊢
  have hl : lv_has ls 7 [(0, .ref (b + 0)), (1, .int (nI x)), (2, .int (nI y))] := hl
  rw [← hav]
  refine lv_iconst (v := nI 0) hx hb d_MO_times_0 (by decide) ?_
  refine lv_istore_n (lv' := [(3, .int (nI 0)), (0, .ref (b + 0)), (1, .int (nI x)), (2, .int (nI y))]) hx hb d_MO_times_1 rfl hl (by decide) rfl (fun ls hl => ?_)
  have loop2 : ∀ (r : Nat) (i : Nat) (C : Nat → va_E) (H : Heap) (locs : List Loc) (ls : Array Slot), 25 < i + r → i ≤ 25 → va_P D classes (wl b 11 C) H → va_S (xr b 11) s.heap H locs → MR ca b C th dts tld fs9 ls9 cn9 lf9 mb9 mwt mab mbe on1 ot2 lea mos big (upto i Z0 wid) yrs → lv_has ls 7 [(0, .ref (b + 0)), (1, .int (nI x)), (2, .int (nI y)), (3, .int (nI i))] → W p l e (headSpec (k_MO_times :: gw) ({ frames := 1, cells := 0, slots := 0, locals := 12 })).room s m args below meth c H locs 0 0 (MQ below (xQ D b 11 (fun r C1 => r = none ∧ ∃ big1 wid1, MR ca b C1 th dts tld fs9 ls9 cn9 lf9 mb9 mwt mab mbe on1 ot2 lea mos big1 wid1 yrs ∧ bRep (bp big1 x) (v * w) ∧ bFr big1 big x)) args s 0 0 (xr b 11)) (F0 m 2 ls []) := by
    intro r
    induction r with
    | zero => intro i C H locs ls hms hi; exact absurd hms (by omega)
    | succ r ih2 =>
      intro i C H locs ls hms hi hP hS hX hl
      refine lv_iload_n hx hb d_MO_times_2 rfl (lv_at hl 3 rfl) ?_
      refine lv_bipush (v := nI 25) hx hb d_MO_times_3 (by decide) ?_
      refine xi_ge (tgt := 21) hx hb d_MO_times_5 (by decide) (by omega) (by omega) (fun h5 => ?_) (fun h5 => ?_)
      · skip
        have ei : i = 25 := by omega
        rw [ei] at hX
        refine lv_iconst (v := nI 0) hx hb d_MO_times_21 (by decide) ?_
        refine lv_istore_n (lv' := [(3, .int (nI 0)), (0, .ref (b + 0)), (1, .int (nI x)), (2, .int (nI y))]) hx hb d_MO_times_22 rfl hl (by decide) rfl (fun ls hl => ?_)
        have loop23 : ∀ (r : Nat) (k : Nat) (Wv : Nat → Nat) (C : Nat → va_E) (H : Heap) (locs : List Loc) (ls : Array Slot), 12 < k + r → mMulK (bp big x) (bp big y) Wv k → va_P D classes (wl b 11 C) H → va_S (xr b 11) s.heap H locs → MR ca b C th dts tld fs9 ls9 cn9 lf9 mb9 mwt mab mbe on1 ot2 lea mos big Wv yrs → lv_has ls 7 [(0, .ref (b + 0)), (1, .int (nI x)), (2, .int (nI y)), (3, .int (nI k))] → W p l e (headSpec (k_MO_times :: gw) ({ frames := 1, cells := 0, slots := 0, locals := 12 })).room s m args below meth c H locs 0 0 (MQ below (xQ D b 11 (fun r C1 => r = none ∧ ∃ big1 wid1, MR ca b C1 th dts tld fs9 ls9 cn9 lf9 mb9 mwt mab mbe on1 ot2 lea mos big1 wid1 yrs ∧ bRep (bp big1 x) (v * w) ∧ bFr big1 big x)) args s 0 0 (xr b 11)) (F0 m 23 ls []) := by
          intro r
          induction r with
          | zero => intro k Wv C H locs ls hms hKK; exact absurd hms (by have := hKK.1; omega)
          | succ r ih23 =>
            intro k Wv C H locs ls hms hKK hP hS hX hl
            have hKK1 := hKK.1
            refine lv_iload_n hx hb d_MO_times_23 rfl (lv_at hl 3 rfl) ?_
            refine lv_bipush (v := nI 12) hx hb d_MO_times_24 (by decide) ?_
            refine xi_ge (tgt := 137) hx hb d_MO_times_26 (by decide) (by omega) (by omega) (fun h26 => ?_) (fun h26 => ?_)
            · skip
              have ek : k = 12 := by omega
              have hK12 := hKK
              rw [ek] at hK12
              refine lv_iconst (v := nI 0) hx hb d_MO_times_137 (by decide) ?_
              refine lv_istore_n (lv' := [(3, .int (nI 0)), (0, .ref (b + 0)), (1, .int (nI x)), (2, .int (nI y))]) hx hb d_MO_times_138 rfl hl (by decide) rfl (fun ls hl => ?_)
              have loop139 : ∀ (r : Nat) (j : Nat) (bg : Nat → Nat) (C : Nat → va_E) (H : Heap) (locs : List Loc) (ls : Array Slot), 12 < j + r → j ≤ 12 → (∀ k, k < j → bg (12 * x + k) = Wv k) → bFr bg big x → va_P D classes (wl b 11 C) H → va_S (xr b 11) s.heap H locs → MR ca b C th dts tld fs9 ls9 cn9 lf9 mb9 mwt mab mbe on1 ot2 lea mos bg Wv yrs → lv_has ls 7 [(0, .ref (b + 0)), (1, .int (nI x)), (3, .int (nI j))] → W p l e (headSpec (k_MO_times :: gw) ({ frames := 1, cells := 0, slots := 0, locals := 12 })).room s m args below meth c H locs 0 0 (MQ below (xQ D b 11 (fun r C1 => r = none ∧ ∃ big1 wid1, MR ca b C1 th dts tld fs9 ls9 cn9 lf9 mb9 mwt mab mbe on1 ot2 lea mos big1 wid1 yrs ∧ bRep (bp big1 x) (v * w) ∧ bFr big1 big x)) args s 0 0 (xr b 11)) (F0 m 139 ls []) := by
                intro r
                induction r with
                | zero => intro j bg C H locs ls hms hj hC hFr; exact absurd hms (by omega)
                | succ r ih139 =>
                  intro j bg C H locs ls hms hj hC hFr hP hS hX hl
                  refine lv_iload_n hx hb d_MO_times_139 rfl (lv_at hl 2 rfl) ?_
                  refine lv_bipush (v := nI 12) hx hb d_MO_times_140 (by decide) ?_
                  refine xi_ge (tgt := 168) hx hb d_MO_times_142 (by decide) (by omega) (by omega) (fun h142 => ?_) (fun h142 => ?_)
                  · skip
                    exact xw_vret hx hb hr hlocks hP hS ⟨rfl, _, _, hX, mMul_end hbx hby hK12 (fun k hk => hC k (by omega)), hFr⟩ d_MO_times_168
                  · skip
                    refine lv_aload_n hx hb d_MO_times_145 rfl (lv_at hl 0 rfl) ?_
                    refine xw_get (v := .ref (b + 8)) hx hb hts (fun w h => mw (uw_MO w h)) hown hK hP (MR_0 hX) (by decide) rfl 10 (by decide) (hts _ (mw tb_605)) (fun _ h => h) rfl d_MO_times_146 ?_
                    refine lv_bipush (v := nI 12) hx hb d_MO_times_149 (by decide) ?_
                    refine lv_iload_n hx hb d_MO_times_151 rfl (lv_at hl 1 rfl) ?_
                    refine lv_imul hx hb d_MO_times_152 ?_
                    refine ti (nI (12 * x)) (pk_mul _ _) ?_
                    refine lv_iload_n hx hb d_MO_times_153 rfl (lv_at hl 2 rfl) ?_
                    refine lv_iadd hx hb d_MO_times_154 ?_
                    refine ti (nI ((12 * x) + j)) (nI_add _ _) ?_
                    refine lv_aload_n hx hb d_MO_times_155 rfl (lv_at hl 0 rfl) ?_
                    refine xw_get (v := .ref (b + 9)) hx hb hts (fun w h => mw (uw_MO w h)) hown hK hP (MR_0 hX) (by decide) rfl 11 (by decide) (hts _ (mw tb_606)) (fun _ h => h) rfl d_MO_times_156 ?_
                    refine lv_iload_n hx hb d_MO_times_159 rfl (lv_at hl 2 rfl) ?_
                    refine xw_iald hx hb hK hP 0 (MR_9 hX) (by decide) rfl (by omega) (by decide) d_MO_times_160 ?_
                    refine xw_iast hx hb hK hP hA hS 0 (MR_8 hX) (by decide) rfl (by omega) (by decide) d_MO_times_161 (fun H locs hP hS => ?_)
                    have hX := MR_set_big (j := (12 * x) + j) (x := Wv j) hX
                    generalize va_up _ 8 _ = C at hP hX
                    refine lv_iinc (v := nI (j + 1)) (lv' := [(3, .int (nI (j + 1))), (0, .ref (b + 0)), (1, .int (nI x))]) hx hb d_MO_times_162 hl (k := 2) rfl (show nI j + Int32.ofInt 1 = nI (j + 1) from nI_add _ _) (by decide) rfl (fun ls hl => ?_)
                    refine lv_goto (tgt := 139) hx hb d_MO_times_165 (by decide) ?_
                    exact ih139 (j + 1) (va_up bg ((12 * x) + j) (Wv j)) _ _ _ _ (by omega) (by omega) (fun k hk => by
                        by_cases q : k = j
                        · rw [q, va_up_self]
                        · rw [va_up_ne _ _ (by omega)]; exact hC k (by omega)) (bFr_up hFr h142) hP hS hX (lv_sub hl [1, 2, 0] rfl)
              exact loop139 13 0 big _ _ _ _ (by omega) (by omega) (fun k hk => absurd hk (by omega)) (fun _ _ => rfl) hP hS hX (lv_sub hl [1, 2, 0] rfl)
            · skip
              refine lv_iconst (v := nI 0) hx hb d_MO_times_29 (by decide) ?_
              refine lv_istore (lv' := [(4, .int (nI 0)), (0, .ref (b + 0)), (1, .int (nI x)), (2, .int (nI y)), (3, .int (nI k))]) hx hb d_MO_times_30 hl (by decide) rfl (fun ls hl => ?_)
              refine lv_iconst (v := nI 0) hx hb d_MO_times_32 (by decide) ?_
              refine lv_istore (lv' := [(5, .int (nI 0)), (4, .int (nI 0)), (0, .ref (b + 0)), (1, .int (nI x)), (2, .int (nI y)), (3, .int (nI k))]) hx hb d_MO_times_33 hl (by decide) rfl (fun ls hl => ?_)
              have loop35 : ∀ (r : Nat) (n : Nat) (c1 : Nat) (Wv1 : Nat → Nat) (C : Nat → va_E) (H : Heap) (locs : List Loc) (ls : Array Slot), 12 < n + r → mMulN (bp big x) (bp big y) Wv Wv1 k n c1 → va_P D classes (wl b 11 C) H → va_S (xr b 11) s.heap H locs → MR ca b C th dts tld fs9 ls9 cn9 lf9 mb9 mwt mab mbe on1 ot2 lea mos big Wv1 yrs → lv_has ls 7 [(0, .ref (b + 0)), (1, .int (nI x)), (2, .int (nI y)), (3, .int (nI k)), (4, .int (nI c1)), (5, .int (nI n))] → W p l e (headSpec (k_MO_times :: gw) ({ frames := 1, cells := 0, slots := 0, locals := 12 })).room s m args below meth c H locs 0 0 (MQ below (xQ D b 11 (fun r C1 => r = none ∧ ∃ big1 wid1, MR ca b C1 th dts tld fs9 ls9 cn9 lf9 mb9 mwt mab mbe on1 ot2 lea mos big1 wid1 yrs ∧ bRep (bp big1 x) (v * w) ∧ bFr big1 big x)) args s 0 0 (xr b 11)) (F0 m 35 ls []) := by
                intro r
                induction r with
                | zero => intro n c1 Wv1 C H locs ls hms hN; exact absurd hms (by have := hN.1; omega)
                | succ r ih35 =>
                  intro n c1 Wv1 C H locs ls hms hN hP hS hX hl
                  have hN1 := hN.1
                  have hN2 : c1 < 10000 := hN.2.1
                  refine lv_iload hx hb d_MO_times_35 (lv_at hl 5 rfl) ?_
                  refine lv_bipush (v := nI 12) hx hb d_MO_times_37 (by decide) ?_
                  refine xi_ge (tgt := 110) hx hb d_MO_times_39 (by decide) (by omega) (by omega) (fun h39 => ?_) (fun h39 => ?_)
                  · skip
                    have en : n = 12 := by omega
                    have hN12 := hN
                    rw [en] at hN12
                    have e5 : Wv1 (k + 12) < 10000 := hN.2.2.1 _ (by omega)
                    refine lv_aload_n hx hb d_MO_times_110 rfl (lv_at hl 0 rfl) ?_
                    refine xw_get (v := .ref (b + 9)) hx hb hts (fun w h => mw (uw_MO w h)) hown hK hP (MR_0 hX) (by decide) rfl 11 (by decide) (hts _ (mw tb_606)) (fun _ h => h) rfl d_MO_times_111 ?_
                    refine lv_iload_n hx hb d_MO_times_114 rfl (lv_at hl 3 rfl) ?_
                    refine lv_bipush (v := nI 12) hx hb d_MO_times_115 (by decide) ?_
                    refine lv_iadd hx hb d_MO_times_117 ?_
                    refine ti (nI (k + 12)) (nI_add _ _) ?_
                    refine lv_aload_n hx hb d_MO_times_118 rfl (lv_at hl 0 rfl) ?_
                    refine xw_get (v := .ref (b + 9)) hx hb hts (fun w h => mw (uw_MO w h)) hown hK hP (MR_0 hX) (by decide) rfl 11 (by decide) (hts _ (mw tb_606)) (fun _ h => h) rfl d_MO_times_119 ?_
                    refine lv_iload_n hx hb d_MO_times_122 rfl (lv_at hl 3 rfl) ?_
                    refine lv_bipush (v := nI 12) hx hb d_MO_times_123 (by decide) ?_
                    refine lv_iadd hx hb d_MO_times_125 ?_
                    refine ti (nI (k + 12)) (nI_add _ _) ?_
                    refine xw_iald hx hb hK hP 0 (MR_9 hX) (by decide) rfl (by omega) (by decide) d_MO_times_126 ?_
                    refine lv_iload hx hb d_MO_times_127 (lv_at hl 4 rfl) ?_
                    refine lv_iadd hx hb d_MO_times_129 ?_
                    refine ti (nI ((Wv1 (k + 12)) + c1)) (nI_add _ _) ?_
                    refine xw_iast hx hb hK hP hA hS 0 (MR_9 hX) (by decide) rfl (by omega) (by decide) d_MO_times_130 (fun H locs hP hS => ?_)
                    have hX := MR_set_wid (j := k + 12) (x := (Wv1 (k + 12)) + c1) hX
                    generalize va_up _ 9 _ = C at hP hX
                    refine lv_iinc (v := nI (k + 1)) (lv' := [(3, .int (nI (k + 1))), (0, .ref (b + 0)), (1, .int (nI x)), (2, .int (nI y)), (4, .int (nI c1)), (5, .int (nI n))]) hx hb d_MO_times_131 hl (k := 3) rfl (show nI k + Int32.ofInt 1 = nI (k + 1) from nI_add _ _) (by decide) rfl (fun ls hl => ?_)
                    refine lv_goto (tgt := 23) hx hb d_MO_times_134 (by decide) ?_
                    exact ih23 (k + 1) (va_up Wv1 (k + 12) ((Wv1 (k + 12)) + c1)) _ _ _ _ (by omega) (mMulK_s hKK h26 hN12) hP hS hX (lv_sub hl [1, 2, 3, 0] rfl)
                  · skip
                    have e1 : Wv1 (k + n) < 10000 := hN.2.2.1 _ (by omega)
                    have e2 : big (12 * x + k) < 10000 := hbx.1 k h26
                    have e3 : big (12 * y + n) < 10000 := hby.1 n h39
                    have e4 : big (12 * x + k) * big (12 * y + n) ≤ 99980001 := Nat.le_trans (Nat.mul_le_mul (Nat.le_sub_one_of_lt e2) (Nat.le_sub_one_of_lt e3)) (by decide)
                    refine lv_aload_n hx hb d_MO_times_42 rfl (lv_at hl 0 rfl) ?_
                    refine xw_get (v := .ref (b + 9)) hx hb hts (fun w h => mw (uw_MO w h)) hown hK hP (MR_0 hX) (by decide) rfl 11 (by decide) (hts _ (mw tb_606)) (fun _ h => h) rfl d_MO_times_43 ?_
                    refine lv_iload_n hx hb d_MO_times_46 rfl (lv_at hl 3 rfl) ?_
                    refine lv_iload hx hb d_MO_times_47 (lv_at hl 5 rfl) ?_
                    refine lv_iadd hx hb d_MO_times_49 ?_
                    refine ti (nI (k + n)) (nI_add _ _) ?_
                    refine xw_iald hx hb hK hP 0 (MR_9 hX) (by decide) rfl (by omega) (by decide) d_MO_times_50 ?_
                    refine lv_aload_n hx hb d_MO_times_51 rfl (lv_at hl 0 rfl) ?_
                    refine xw_get (v := .ref (b + 8)) hx hb hts (fun w h => mw (uw_MO w h)) hown hK hP (MR_0 hX) (by decide) rfl 10 (by decide) (hts _ (mw tb_605)) (fun _ h => h) rfl d_MO_times_52 ?_
                    refine lv_bipush (v := nI 12) hx hb d_MO_times_55 (by decide) ?_
                    refine lv_iload_n hx hb d_MO_times_57 rfl (lv_at hl 1 rfl) ?_
                    refine lv_imul hx hb d_MO_times_58 ?_
                    refine ti (nI (12 * x)) (pk_mul _ _) ?_
                    refine lv_iload_n hx hb d_MO_times_59 rfl (lv_at hl 3 rfl) ?_
                    refine lv_iadd hx hb d_MO_times_60 ?_
                    refine ti (nI ((12 * x) + k)) (nI_add _ _) ?_
                    refine xw_iald hx hb hK hP 0 (MR_8 hX) (by decide) rfl (by omega) (by decide) d_MO_times_61 ?_
                    refine lv_aload_n hx hb d_MO_times_62 rfl (lv_at hl 0 rfl) ?_
                    refine xw_get (v := .ref (b + 8)) hx hb hts (fun w h => mw (uw_MO w h)) hown hK hP (MR_0 hX) (by decide) rfl 10 (by decide) (hts _ (mw tb_605)) (fun _ h => h) rfl d_MO_times_63 ?_
                    refine lv_bipush (v := nI 12) hx hb d_MO_times_66 (by decide) ?_
                    refine lv_iload_n hx hb d_MO_times_68 rfl (lv_at hl 2 rfl) ?_
                    refine lv_imul hx hb d_MO_times_69 ?_
                    refine ti (nI (12 * y)) (pk_mul _ _) ?_
                    refine lv_iload hx hb d_MO_times_70 (lv_at hl 5 rfl) ?_
                    refine lv_iadd hx hb d_MO_times_72 ?_
                    refine ti (nI ((12 * y) + n)) (nI_add _ _) ?_
                    refine xw_iald hx hb hK hP 0 (MR_8 hX) (by decide) rfl (by omega) (by decide) d_MO_times_73 ?_
                    refine lv_imul hx hb d_MO_times_74 ?_
                    refine ti (nI ((big ((12 * x) + k)) * (big ((12 * y) + n)))) (pk_mul _ _) ?_
                    refine lv_iadd hx hb d_MO_times_75 ?_
                    refine ti (nI ((Wv1 (k + n)) + ((big ((12 * x) + k)) * (big ((12 * y) + n))))) (nI_add _ _) ?_
                    refine lv_iload hx hb d_MO_times_76 (lv_at hl 4 rfl) ?_
                    refine lv_iadd hx hb d_MO_times_78 ?_
                    refine ti (nI (((Wv1 (k + n)) + ((big ((12 * x) + k)) * (big ((12 * y) + n)))) + c1)) (nI_add _ _) ?_
                    refine lv_istore (lv' := [(6, .int (nI (((Wv1 (k + n)) + ((big ((12 * x) + k)) * (big ((12 * y) + n)))) + c1))), (0, .ref (b + 0)), (1, .int (nI x)), (2, .int (nI y)), (3, .int (nI k)), (4, .int (nI c1)), (5, .int (nI n))]) hx hb d_MO_times_79 hl (by decide) rfl (fun ls hl => ?_)
                    refine lv_aload_n hx hb d_MO_times_81 rfl (lv_at hl 1 rfl) ?_
                    refine xw_get (v := .ref (b + 9)) hx hb hts (fun w h => mw (uw_MO w h)) hown hK hP (MR_0 hX) (by decide) rfl 11 (by decide) (hts _ (mw tb_606)) (fun _ h => h) rfl d_MO_times_82 ?_
                    refine lv_iload_n hx hb d_MO_times_85 rfl (lv_at hl 4 rfl) ?_
                    refine lv_iload hx hb d_MO_times_86 (lv_at hl 6 rfl) ?_
                    refine lv_iadd hx hb d_MO_times_88 ?_
                    refine ti (nI (k + n)) (nI_add _ _) ?_
                    refine lv_iload hx hb d_MO_times_89 (lv_at hl 0 rfl) ?_
                    refine lv_sipush (v := nI 10000) hx hb d_MO_times_91 (by decide) ?_
                    refine lv_irem hx hb d_MO_times_94 (by decide) ?_
                    refine ti (nI ((((Wv1 (k + n)) + ((big ((12 * x) + k)) * (big ((12 * y) + n)))) + c1) % 10000)) (pk_rem (by omega) (by decide) (by decide)) ?_
                    refine xw_iast hx hb hK hP hA hS 0 (MR_9 hX) (by decide) rfl (by omega) (by decide) d_MO_times_95 (fun H locs hP hS => ?_)
                    have hX := MR_set_wid (j := k + n) (x := (((Wv1 (k + n)) + ((big ((12 * x) + k)) * (big ((12 * y) + n)))) + c1) % 10000) hX
                    generalize va_up _ 9 _ = C at hP hX
                    refine lv_iload hx hb d_MO_times_96 (lv_at hl 0 rfl) ?_
                    refine lv_sipush (v := nI 10000) hx hb d_MO_times_98 (by decide) ?_
                    refine lv_idiv hx hb d_MO_times_101 (by decide) ?_
                    refine ti (nI ((((Wv1 (k + n)) + ((big ((12 * x) + k)) * (big ((12 * y) + n)))) + c1) / 10000)) (pk_div (by omega) (by decide) (by decide)) ?_
                    refine lv_istore (lv' := [(4, .int (nI ((((Wv1 (k + n)) + ((big ((12 * x) + k)) * (big ((12 * y) + n)))) + c1) / 10000))), (6, .int (nI (((Wv1 (k + n)) + ((big ((12 * x) + k)) * (big ((12 * y) + n)))) + c1))), (0, .ref (b + 0)), (1, .int (nI x)), (2, .int (nI y)), (3, .int (nI k)), (5, .int (nI n))]) hx hb d_MO_times_102 hl (by decide) rfl (fun ls hl => ?_)
                    refine lv_iinc (v := nI (n + 1)) (lv' := [(5, .int (nI (n + 1))), (4, .int (nI ((((Wv1 (k + n)) + ((big ((12 * x) + k)) * (big ((12 * y) + n)))) + c1) / 10000))), (6, .int (nI (((Wv1 (k + n)) + ((big ((12 * x) + k)) * (big ((12 * y) + n)))) + c1))), (0, .ref (b + 0)), (1, .int (nI x)), (2, .int (nI y)), (3, .int (nI k))]) hx hb d_MO_times_104 hl (k := 6) rfl (show nI n + Int32.ofInt 1 = nI (n + 1) from nI_add _ _) (by decide) rfl (fun ls hl => ?_)
                    refine lv_goto (tgt := 35) hx hb d_MO_times_107 (by decide) ?_
                    exact ih35 (n + 1) ((((Wv1 (k + n)) + ((big ((12 * x) + k)) * (big ((12 * y) + n)))) + c1) / 10000) (va_up Wv1 (k + n) ((((Wv1 (k + n)) + ((big ((12 * x) + k)) * (big ((12 * y) + n)))) + c1) % 10000)) _ _ _ _ (by omega) (mMulN_s (hbx.1 k h26) hby.1 hN h26 h39) hP hS hX (lv_sub hl [3, 4, 5, 6, 1, 0] rfl)
              exact loop35 13 0 0 Wv _ _ _ _ (by omega) (mMulN_0 hKK.2.1) hP hS hX (lv_sub hl [2, 3, 4, 5, 1, 0] rfl)
        exact loop23 13 0 (upto 25 Z0 wid) _ _ _ _ (by omega) (mMulK_0 (fun j hj => upto_lt _ _ hj)) hP hS hX (lv_sub hl [1, 2, 3, 0] rfl)
      · skip
        refine lv_aload_n hx hb d_MO_times_8 rfl (lv_at hl 0 rfl) ?_
        refine xw_get (v := .ref (b + 9)) hx hb hts (fun w h => mw (uw_MO w h)) hown hK hP (MR_0 hX) (by decide) rfl 11 (by decide) (hts _ (mw tb_606)) (fun _ h => h) rfl d_MO_times_9 ?_
        refine lv_iload_n hx hb d_MO_times_12 rfl (lv_at hl 3 rfl) ?_
        refine lv_iconst (v := nI 0) hx hb d_MO_times_13 (by decide) ?_
        refine xw_iast hx hb hK hP hA hS 0 (MR_9 hX) (by decide) rfl (by omega) (by decide) d_MO_times_14 (fun H locs hP hS => ?_)
        have hX := MR_set_wid (j := i) (x := 0) hX
        generalize va_up _ 9 _ = C at hP hX
        refine lv_iinc (v := nI (i + 1)) (lv' := [(3, .int (nI (i + 1))), (0, .ref (b + 0)), (1, .int (nI x)), (2, .int (nI y))]) hx hb d_MO_times_15 hl (k := 3) rfl (show nI i + Int32.ofInt 1 = nI (i + 1) from nI_add _ _) (by decide) rfl (fun ls hl => ?_)
        refine lv_goto (tgt := 2) hx hb d_MO_times_18 (by decide) ?_
        have hX : MR ca b C th dts tld fs9 ls9 cn9 lf9 mb9 mwt mab mbe on1 ot2 lea mos big (upto (i + 1) Z0 wid) yrs := by rw [← upto_s i Z0 wid]; exact hX
        exact ih2 (i + 1) _ _ _ _ (by omega) (by omega) hP hS hX (lv_sub hl [1, 2, 3, 0] rfl)
  rw [← upto_0 Z0 wid] at hX
  exact loop2 26 0 _ _ _ _ (by omega) (by omega) hP hS hX (lv_sub hl [1, 2, 3, 0] rfl)

set_option maxHeartbeats 4000000 in
set_option maxRecDepth 100000 in
/-- whether a number is 0 -/
theorem c_MO_isNothing (l : Launch) (D : va_G) (ca : Nat → ClassId) (b : Nat) (C0 : Nat → va_E) {th : Nat} {dts : Nat} {tld : Nat} {fs9 : Nat} {ls9 : Nat} {cn9 : Nat} {lf9 : Nat} {mb9 : Nat} {mwt : Nat → Nat} {mab : Nat → Nat} {mbe : Nat → Nat} {on1 : Nat → Nat} {ot2 : Nat → Nat} {lea : Nat → Nat} {mos : Nat → Nat} {big : Nat → Nat} {wid : Nat → Nat} {yrs : Nat → Nat} (x : Nat) (hX : MR ca b C0 th dts tld fs9 ls9 cn9 lf9 mb9 mwt mab mbe on1 ot2 lea mos big wid yrs) (hx91 : x < 91) (hbx : bOk (bp big x)) : Met l y_MO_isNothing (k_MO_isNothing :: gw) ({ frames := 1, cells := 0, slots := 0, locals := 12 }) (xPc D ca b 11 C0 [.ref (b + 0), .int (nI x)]) (xQ D b 11 (fun r C1 => ∃ z : Bool, r = some (.int (nI z.toNat)) ∧ (z = true ↔ ∀ k, k < 12 → big (12 * x + k) = 0) ∧ MR ca b C1 th dts tld fs9 ls9 cn9 lf9 mb9 mwt mab mbe on1 ot2 lea mos big wid yrs)) 0 0 (xr b 11) := by
  refine Met.ofW (cc := b_MO_isNothing) (maxL := 4) (ret := (some FieldType.boolean)) (by decide) rfl ?_
  intro p e s m args below meth c s₁ B hml hv
  obtain ⟨hav, hP, hK⟩ := hv
  have hx := B.exec
  have hb := B.bytes
  have hr := B.returns
  have hts := atoms_spec (ws := k_MO_isNothing :: gw) B.pre
  have hown : s.vm.findClass R_MO = some m.cls := findClass_of_methodNamed B.named
  have hlocks := B.notSynchronized
  have hA : ∀ k, k < 11 → xr b 11 (b + k) := xr_in
  have hS : va_S (xr b 11) s.heap s.heap [] := va_S.rf
  have hl := lv_entry ([.ref (b + 0), .int (nI x)]) (n := 4) (Nat.le_of_ble_eq_true rfl)
  rw [hav, lg_entry_eq]
  generalize (lg_sl ([.ref (b + 0), .int (nI x)]) ++ List.replicate (4 - (lg_sl ([.ref (b + 0), .int (nI x)])).length) Slot.unset).toArray = ls at hl ⊢
  have hl : lv_has ls 4 [(0, .ref (b + 0)), (1, .int (nI x))] := hl
  rw [← hav]
  refine lv_iconst (v := nI 1) hx hb d_MO_isNothing_0 (by decide) ?_
  refine lv_istore_n (lv' := [(2, .int (nI 1)), (0, .ref (b + 0)), (1, .int (nI x))]) hx hb d_MO_isNothing_1 rfl hl (by decide) rfl (fun ls hl => ?_)
  refine lv_iconst (v := nI 0) hx hb d_MO_isNothing_2 (by decide) ?_
  refine lv_istore_n (lv' := [(3, .int (nI 0)), (2, .int (nI 1)), (0, .ref (b + 0)), (1, .int (nI x))]) hx hb d_MO_isNothing_3 rfl hl (by decide) rfl (fun ls hl => ?_)
  have loop4 : ∀ (r : Nat) (i : Nat) (z : Bool) (C : Nat → va_E) (H : Heap) (locs : List Loc) (ls : Array Slot), 12 < i + r → i ≤ 12 → (z = true ↔ ∀ k, k < i → big (12 * x + k) = 0) → va_P D classes (wl b 11 C) H → va_S (xr b 11) s.heap H locs → MR ca b C th dts tld fs9 ls9 cn9 lf9 mb9 mwt mab mbe on1 ot2 lea mos big wid yrs → lv_has ls 4 [(0, .ref (b + 0)), (1, .int (nI x)), (2, .int (nI z.toNat)), (3, .int (nI i))] → W p l e (headSpec (k_MO_isNothing :: gw) ({ frames := 1, cells := 0, slots := 0, locals := 12 })).room s m args below meth c H locs 0 0 (MQ below (xQ D b 11 (fun r C1 => ∃ z : Bool, r = some (.int (nI z.toNat)) ∧ (z = true ↔ ∀ k, k < 12 → big (12 * x + k) = 0) ∧ MR ca b C1 th dts tld fs9 ls9 cn9 lf9 mb9 mwt mab mbe on1 ot2 lea mos big wid yrs)) args s 0 0 (xr b 11)) (F0 m 4 ls []) := by
    intro r
    induction r with
    | zero => intro i z C H locs ls hms hi hz; exact absurd hms (by omega)
    | succ r ih4 =>
      intro i z C H locs ls hms hi hz hP hS hX hl
      refine lv_iload_n hx hb d_MO_isNothing_4 rfl (lv_at hl 3 rfl) ?_
      refine lv_bipush (v := nI 12) hx hb d_MO_isNothing_5 (by decide) ?_
      refine xi_ge (tgt := 40) hx hb d_MO_isNothing_7 (by decide) (by omega) (by omega) (fun h7 => ?_) (fun h7 => ?_)
      · skip
        refine lv_iload_n hx hb d_MO_isNothing_40 rfl (lv_at hl 2 rfl) ?_
        exact xw_zret hx hb hr hlocks (nzB _) hP hS ⟨z, rfl, by rw [hz, show i = 12 by omega], hX⟩ d_MO_isNothing_41
      · skip
        refine lv_iload_n hx hb d_MO_isNothing_10 rfl (lv_at hl 2 rfl) ?_
        refine xz_eq (tgt := 32) hx hb d_MO_isNothing_11 (by decide) (tn31 _) (fun h11 => ?_) (fun h11 => ?_)
        · skip
          refine lv_iconst (v := nI 0) hx hb d_MO_isNothing_32 (by decide) ?_
          refine lv_istore_n (lv' := [(2, .int (nI 0)), (0, .ref (b + 0)), (1, .int (nI x)), (3, .int (nI i))]) hx hb d_MO_isNothing_33 rfl hl (by decide) rfl (fun ls hl => ?_)
          refine lv_iinc (v := nI (i + 1)) (lv' := [(3, .int (nI (i + 1))), (2, .int (nI 0)), (0, .ref (b + 0)), (1, .int (nI x))]) hx hb d_MO_isNothing_34 hl (k := 3) rfl (show nI i + Int32.ofInt 1 = nI (i + 1) from nI_add _ _) (by decide) rfl (fun ls hl => ?_)
          refine lv_goto (tgt := 4) hx hb d_MO_isNothing_37 (by decide) ?_
          exact ih4 (i + 1) false _ _ _ _ (by omega) (by omega) ⟨fun q => (by cases q), fun q => by have := hz.mpr (fun k hk => q k (by omega)); rw [bf h11] at this; cases this⟩ hP hS hX (lv_sub hl [2, 3, 1, 0] rfl)
        · skip
          have e1 : big (12 * x + i) < 10000 := hbx i h7
          refine lv_aload_n hx hb d_MO_isNothing_14 rfl (lv_at hl 0 rfl) ?_
          refine xw_get (v := .ref (b + 8)) hx hb hts (fun w h => mw (uw_MO w h)) hown hK hP (MR_0 hX) (by decide) rfl 10 (by decide) (hts _ (mw tb_605)) (fun _ h => h) rfl d_MO_isNothing_15 ?_
          refine lv_bipush (v := nI 12) hx hb d_MO_isNothing_18 (by decide) ?_
          refine lv_iload_n hx hb d_MO_isNothing_20 rfl (lv_at hl 1 rfl) ?_
          refine lv_imul hx hb d_MO_isNothing_21 ?_
          refine ti (nI (12 * x)) (pk_mul _ _) ?_
          refine lv_iload_n hx hb d_MO_isNothing_22 rfl (lv_at hl 3 rfl) ?_
          refine lv_iadd hx hb d_MO_isNothing_23 ?_
          refine ti (nI ((12 * x) + i)) (nI_add _ _) ?_
          refine xw_iald hx hb hK hP 0 (MR_8 hX) (by decide) rfl (by omega) (by decide) d_MO_isNothing_24 ?_
          refine xz_ne (tgt := 32) hx hb d_MO_isNothing_25 (by decide) (by omega) (fun h25 => ?_) (fun h25 => ?_)
          · skip
            refine lv_iconst (v := nI 0) hx hb d_MO_isNothing_32 (by decide) ?_
            refine lv_istore_n (lv' := [(2, .int (nI 0)), (0, .ref (b + 0)), (1, .int (nI x)), (3, .int (nI i))]) hx hb d_MO_isNothing_33 rfl hl (by decide) rfl (fun ls hl => ?_)
            refine lv_iinc (v := nI (i + 1)) (lv' := [(3, .int (nI (i + 1))), (2, .int (nI 0)), (0, .ref (b + 0)), (1, .int (nI x))]) hx hb d_MO_isNothing_34 hl (k := 3) rfl (show nI i + Int32.ofInt 1 = nI (i + 1) from nI_add _ _) (by decide) rfl (fun ls hl => ?_)
            refine lv_goto (tgt := 4) hx hb d_MO_isNothing_37 (by decide) ?_
            exact ih4 (i + 1) false _ _ _ _ (by omega) (by omega) ⟨fun q => (by cases q), fun q => absurd (q i (by omega)) h25⟩ hP hS hX (lv_sub hl [2, 3, 1, 0] rfl)
          · skip
            refine lv_iconst (v := nI 1) hx hb d_MO_isNothing_28 (by decide) ?_
            refine lv_goto (tgt := 33) hx hb d_MO_isNothing_29 (by decide) ?_
            refine lv_istore_n (lv' := [(2, .int (nI 1)), (0, .ref (b + 0)), (1, .int (nI x)), (3, .int (nI i))]) hx hb d_MO_isNothing_33 rfl hl (by decide) rfl (fun ls hl => ?_)
            refine lv_iinc (v := nI (i + 1)) (lv' := [(3, .int (nI (i + 1))), (2, .int (nI 1)), (0, .ref (b + 0)), (1, .int (nI x))]) hx hb d_MO_isNothing_34 hl (k := 3) rfl (show nI i + Int32.ofInt 1 = nI (i + 1) from nI_add _ _) (by decide) rfl (fun ls hl => ?_)
            refine lv_goto (tgt := 4) hx hb d_MO_isNothing_37 (by decide) ?_
            exact ih4 (i + 1) true _ _ _ _ (by omega) (by omega) ⟨fun _ k hk => by
                by_cases q : k = i
                · rw [q]; exact h25
                · exact hz.mp (bt h11) k (by omega), fun _ => rfl⟩ hP hS hX (lv_sub hl [2, 3, 1, 0] rfl)
  exact loop4 13 0 true _ _ _ _ (by omega) (by omega) ⟨fun _ k hk => absurd hk (by omega), fun _ => rfl⟩ hP hS hX (lv_sub hl [2, 3, 1, 0] rfl)

set_option maxHeartbeats 4000000 in
set_option maxRecDepth 100000 in
/-- whether a number is less -/
theorem c_MO_isLess (l : Launch) (D : va_G) (ca : Nat → ClassId) (b : Nat) (C0 : Nat → va_E) {th : Nat} {dts : Nat} {tld : Nat} {fs9 : Nat} {ls9 : Nat} {cn9 : Nat} {lf9 : Nat} {mb9 : Nat} {mwt : Nat → Nat} {mab : Nat → Nat} {mbe : Nat → Nat} {on1 : Nat → Nat} {ot2 : Nat → Nat} {lea : Nat → Nat} {mos : Nat → Nat} {big : Nat → Nat} {wid : Nat → Nat} {yrs : Nat → Nat} (x y : Nat) (hX : MR ca b C0 th dts tld fs9 ls9 cn9 lf9 mb9 mwt mab mbe on1 ot2 lea mos big wid yrs) (hx91 : x < 91) (hy91 : y < 91) (hbx : bOk (bp big x)) (hby : bOk (bp big y)) : Met l y_MO_isLess (k_MO_isLess :: gw) ({ frames := 1, cells := 0, slots := 0, locals := 12 }) (xPc D ca b 11 C0 [.ref (b + 0), .int (nI x), .int (nI y)]) (xQ D b 11 (fun r C1 => ∃ z : Bool, r = some (.int (nI z.toNat)) ∧ (z = true ↔ mval (bp big x) 12 < mval (bp big y) 12) ∧ MR ca b C1 th dts tld fs9 ls9 cn9 lf9 mb9 mwt mab mbe on1 ot2 lea mos big wid yrs)) 0 0 (xr b 11) := by
  refine Met.ofW (cc := b_MO_isLess) (maxL := 7) (ret := (some FieldType.boolean)) (by decide) rfl ?_
  intro p e s m args below meth c s₁ B hml hv
  obtain ⟨hav, hP, hK⟩ := hv
  have hx := B.exec
  have hb := B.bytes
  have hr := B.returns
  have hts := atoms_spec (ws := k_MO_isLess :: gw) B.pre
  have hown : s.vm.findClass R_MO = some m.cls := findClass_of_methodNamed B.named
  have hlocks := B.notSynchronized
  have hA : ∀ k, k < 11 → xr b 11 (b + k) := xr_in
  have hS : va_S (xr b 11) s.heap s.heap [] := va_S.rf
  have hl := lv_entry ([.ref (b + 0), .int (nI x), .int (nI y)]) (n := 7) (Nat.le_of_ble_eq_true rfl)
  rw [hav, lg_entry_eq]
  generalize (lg_sl ([.ref (b + 0), .int (nI x), .int (nI y)]) ++ List.replicate (7 - (lg_sl ([.ref (b + 0), .int (nI x), .int (nI y)])).length) Slot.unset).toArray = ls at hl ⊢
  have hl : lv_has ls 7 [(0, .ref (b + 0)), (1, .int (nI x)), (2, .int (nI y))] := hl
  rw [← hav]
  refine lv_iconst (v := nI 0) hx hb d_MO_isLess_0 (by decide) ?_
  refine lv_istore_n (lv' := [(3, .int (nI 0)), (0, .ref (b + 0)), (1, .int (nI x)), (2, .int (nI y))]) hx hb d_MO_isLess_1 rfl hl (by decide) rfl (fun ls hl => ?_)
  refine lv_iconst (v := nI 0) hx hb d_MO_isLess_2 (by decide) ?_
  refine lv_istore (lv' := [(4, .int (nI 0)), (3, .int (nI 0)), (0, .ref (b + 0)), (1, .int (nI x)), (2, .int (nI y))]) hx hb d_MO_isLess_3 hl (by decide) rfl (fun ls hl => ?_)
  have loop5 : ∀ (r : Nat) (i : Nat) (z : Bool) (C : Nat → va_E) (H : Heap) (locs : List Loc) (ls : Array Slot), 12 < i + r → i ≤ 12 → (z = true ↔ mval (bp big x) i < mval (bp big y) i) → va_P D classes (wl b 11 C) H → va_S (xr b 11) s.heap H locs → MR ca b C th dts tld fs9 ls9 cn9 lf9 mb9 mwt mab mbe on1 ot2 lea mos big wid yrs → lv_has ls 7 [(0, .ref (b + 0)), (1, .int (nI x)), (2, .int (nI y)), (3, .int (nI z.toNat)), (4, .int (nI i))] → W p l e (headSpec (k_MO_isLess :: gw) ({ frames := 1, cells := 0, slots := 0, locals := 12 })).room s m args below meth c H locs 0 0 (MQ below (xQ D b 11 (fun r C1 => ∃ z : Bool, r = some (.int (nI z.toNat)) ∧ (z = true ↔ mval (bp big x) 12 < mval (bp big y) 12) ∧ MR ca b C1 th dts tld fs9 ls9 cn9 lf9 mb9 mwt mab mbe on1 ot2 lea mos big wid yrs)) args s 0 0 (xr b 11)) (F0 m 5 ls []) := by
    intro r
    induction r with
    | zero => intro i z C H locs ls hms hi hz; exact absurd hms (by omega)
    | succ r ih5 =>
      intro i z C H locs ls hms hi hz hP hS hX hl
      refine lv_iload hx hb d_MO_isLess_5 (lv_at hl 4 rfl) ?_
      refine lv_bipush (v := nI 12) hx hb d_MO_isLess_7 (by decide) ?_
      refine xi_ge (tgt := 70) hx hb d_MO_isLess_9 (by decide) (by omega) (by omega) (fun h9 => ?_) (fun h9 => ?_)
      · skip
        refine lv_iload_n hx hb d_MO_isLess_70 rfl (lv_at hl 3 rfl) ?_
        exact xw_zret hx hb hr hlocks (nzB _) hP hS ⟨z, rfl, by rw [hz, show i = 12 by omega], hX⟩ d_MO_isLess_71
      · skip
        have e1 : big (12 * x + i) < 10000 := hbx i h9
        have e2 : big (12 * y + i) < 10000 := hby i h9
        have hls := mval_less (f := bp big x) (g := bp big y) (n := i) (fun k hk => hbx k (by omega)) (fun k hk => hby k (by omega))
        refine lv_aload_n hx hb d_MO_isLess_12 rfl (lv_at hl 0 rfl) ?_
        refine xw_get (v := .ref (b + 8)) hx hb hts (fun w h => mw (uw_MO w h)) hown hK hP (MR_0 hX) (by decide) rfl 10 (by decide) (hts _ (mw tb_605)) (fun _ h => h) rfl d_MO_isLess_13 ?_
        refine lv_bipush (v := nI 12) hx hb d_MO_isLess_16 (by decide) ?_
        refine lv_iload_n hx hb d_MO_isLess_18 rfl (lv_at hl 1 rfl) ?_
        refine lv_imul hx hb d_MO_isLess_19 ?_
        refine ti (nI (12 * x)) (pk_mul _ _) ?_
        refine lv_iload hx hb d_MO_isLess_20 (lv_at hl 4 rfl) ?_
        refine lv_iadd hx hb d_MO_isLess_22 ?_
        refine ti (nI ((12 * x) + i)) (nI_add _ _) ?_
        refine xw_iald hx hb hK hP 0 (MR_8 hX) (by decide) rfl (by omega) (by decide) d_MO_isLess_23 ?_
        refine lv_istore (lv' := [(5, .int (nI (big ((12 * x) + i)))), (0, .ref (b + 0)), (1, .int (nI x)), (2, .int (nI y)), (3, .int (nI z.toNat)), (4, .int (nI i))]) hx hb d_MO_isLess_24 hl (by decide) rfl (fun ls hl => ?_)
        refine lv_aload_n hx hb d_MO_isLess_26 rfl (lv_at hl 1 rfl) ?_
        refine xw_get (v := .ref (b + 8)) hx hb hts (fun w h => mw (uw_MO w h)) hown hK hP (MR_0 hX) (by decide) rfl 10 (by decide) (hts _ (mw tb_605)) (fun _ h => h) rfl d_MO_isLess_27 ?_
        refine lv_bipush (v := nI 12) hx hb d_MO_isLess_30 (by decide) ?_
        refine lv_iload_n hx hb d_MO_isLess_32 rfl (lv_at hl 3 rfl) ?_
        refine lv_imul hx hb d_MO_isLess_33 ?_
        refine ti (nI (12 * y)) (pk_mul _ _) ?_
        refine lv_iload hx hb d_MO_isLess_34 (lv_at hl 5 rfl) ?_
        refine lv_iadd hx hb d_MO_isLess_36 ?_
        refine ti (nI ((12 * y) + i)) (nI_add _ _) ?_
        refine xw_iald hx hb hK hP 0 (MR_8 hX) (by decide) rfl (by omega) (by decide) d_MO_isLess_37 ?_
        refine lv_istore (lv' := [(6, .int (nI (big ((12 * y) + i)))), (5, .int (nI (big ((12 * x) + i)))), (0, .ref (b + 0)), (1, .int (nI x)), (2, .int (nI y)), (3, .int (nI z.toNat)), (4, .int (nI i))]) hx hb d_MO_isLess_38 hl (by decide) rfl (fun ls hl => ?_)
        refine lv_iload hx hb d_MO_isLess_40 (lv_at hl 1 rfl) ?_
        refine lv_iload hx hb d_MO_isLess_42 (lv_at hl 0 rfl) ?_
        refine xi_ne (tgt := 51) hx hb d_MO_isLess_44 (by decide) (by omega) (by omega) (fun h44 => ?_) (fun h44 => ?_)
        · skip
          refine lv_iload hx hb d_MO_isLess_51 (lv_at hl 1 rfl) ?_
          refine lv_iload hx hb d_MO_isLess_53 (lv_at hl 0 rfl) ?_
          refine xi_ge (tgt := 62) hx hb d_MO_isLess_55 (by decide) (by omega) (by omega) (fun h55 => ?_) (fun h55 => ?_)
          · skip
            refine lv_iconst (v := nI 0) hx hb d_MO_isLess_62 (by decide) ?_
            refine lv_istore_n (lv' := [(3, .int (nI 0)), (6, .int (nI (big ((12 * y) + i)))), (5, .int (nI (big ((12 * x) + i)))), (0, .ref (b + 0)), (1, .int (nI x)), (2, .int (nI y)), (4, .int (nI i))]) hx hb d_MO_isLess_63 rfl hl (by decide) rfl (fun ls hl => ?_)
            refine lv_iinc (v := nI (i + 1)) (lv' := [(4, .int (nI (i + 1))), (3, .int (nI 0)), (6, .int (nI (big ((12 * y) + i)))), (5, .int (nI (big ((12 * x) + i)))), (0, .ref (b + 0)), (1, .int (nI x)), (2, .int (nI y))]) hx hb d_MO_isLess_64 hl (k := 6) rfl (show nI i + Int32.ofInt 1 = nI (i + 1) from nI_add _ _) (by decide) rfl (fun ls hl => ?_)
            refine lv_goto (tgt := 5) hx hb d_MO_isLess_67 (by decide) ?_
            exact ih5 (i + 1) false _ _ _ _ (by omega) (by omega) ⟨fun q => (by cases q), fun q => (hls.mp q).elim (fun q => absurd q (by show ¬ big (12 * x + i) < big (12 * y + i); omega)) (fun q => absurd q.1 h44)⟩ hP hS hX (lv_sub hl [4, 5, 6, 1, 0] rfl)
          · skip
            refine lv_iconst (v := nI 1) hx hb d_MO_isLess_58 (by decide) ?_
            refine lv_goto (tgt := 63) hx hb d_MO_isLess_59 (by decide) ?_
            refine lv_istore_n (lv' := [(3, .int (nI 1)), (6, .int (nI (big ((12 * y) + i)))), (5, .int (nI (big ((12 * x) + i)))), (0, .ref (b + 0)), (1, .int (nI x)), (2, .int (nI y)), (4, .int (nI i))]) hx hb d_MO_isLess_63 rfl hl (by decide) rfl (fun ls hl => ?_)
            refine lv_iinc (v := nI (i + 1)) (lv' := [(4, .int (nI (i + 1))), (3, .int (nI 1)), (6, .int (nI (big ((12 * y) + i)))), (5, .int (nI (big ((12 * x) + i)))), (0, .ref (b + 0)), (1, .int (nI x)), (2, .int (nI y))]) hx hb d_MO_isLess_64 hl (k := 6) rfl (show nI i + Int32.ofInt 1 = nI (i + 1) from nI_add _ _) (by decide) rfl (fun ls hl => ?_)
            refine lv_goto (tgt := 5) hx hb d_MO_isLess_67 (by decide) ?_
            exact ih5 (i + 1) true _ _ _ _ (by omega) (by omega) ⟨fun _ => hls.mpr (Or.inl (by show big (12 * x + i) < big (12 * y + i); omega)), fun _ => rfl⟩ hP hS hX (lv_sub hl [4, 5, 6, 1, 0] rfl)
        · skip
          refine lv_iload_n hx hb d_MO_isLess_47 rfl (lv_at hl 5 rfl) ?_
          refine lv_goto (tgt := 63) hx hb d_MO_isLess_48 (by decide) ?_
          refine lv_istore_n (lv' := [(3, .int (nI z.toNat)), (6, .int (nI (big ((12 * y) + i)))), (5, .int (nI (big ((12 * x) + i)))), (0, .ref (b + 0)), (1, .int (nI x)), (2, .int (nI y)), (4, .int (nI i))]) hx hb d_MO_isLess_63 rfl hl (by decide) rfl (fun ls hl => ?_)
          refine lv_iinc (v := nI (i + 1)) (lv' := [(4, .int (nI (i + 1))), (3, .int (nI z.toNat)), (6, .int (nI (big ((12 * y) + i)))), (5, .int (nI (big ((12 * x) + i)))), (0, .ref (b + 0)), (1, .int (nI x)), (2, .int (nI y))]) hx hb d_MO_isLess_64 hl (k := 6) rfl (show nI i + Int32.ofInt 1 = nI (i + 1) from nI_add _ _) (by decide) rfl (fun ls hl => ?_)
          refine lv_goto (tgt := 5) hx hb d_MO_isLess_67 (by decide) ?_
          exact ih5 (i + 1) z _ _ _ _ (by omega) (by omega) ⟨fun q => hls.mpr (Or.inr ⟨h44, hz.mp q⟩), fun q => (hls.mp q).elim (fun q => absurd q (by show ¬ big (12 * x + i) < big (12 * y + i); omega)) (fun q => hz.mpr q.2)⟩ hP hS hX (lv_sub hl [4, 5, 6, 1, 0] rfl)
  exact loop5 13 0 false _ _ _ _ (by omega) (by omega) ⟨fun q => (by cases q), fun q => absurd q (by simp [mval])⟩ hP hS hX (lv_sub hl [2, 3, 4, 1, 0] rfl)

set_option maxHeartbeats 4000000 in
set_option maxRecDepth 100000 in
/-- a decimal digit -/
theorem c_MO_digitOf (l : Launch) (D : va_G) (ca : Nat → ClassId) (b : Nat) (C0 : Nat → va_E) {th : Nat} {dts : Nat} {tld : Nat} {fs9 : Nat} {ls9 : Nat} {cn9 : Nat} {lf9 : Nat} {mb9 : Nat} {mwt : Nat → Nat} {mab : Nat → Nat} {mbe : Nat → Nat} {on1 : Nat → Nat} {ot2 : Nat → Nat} {lea : Nat → Nat} {mos : Nat → Nat} {big : Nat → Nat} {wid : Nat → Nat} {yrs : Nat → Nat} (x k v : Nat) (hX : MR ca b C0 th dts tld fs9 ls9 cn9 lf9 mb9 mwt mab mbe on1 ot2 lea mos big wid yrs) (hx91 : x < 91) (hk : k < 48) (hbx : bRep (bp big x) v) (hv : v < mB ^ 12) : Met l y_MO_digitOf (k_MO_digitOf :: gw) ({ frames := 1, cells := 0, slots := 0, locals := 12 }) (xPc D ca b 11 C0 [.ref (b + 0), .int (nI x), .int (nI k)]) (xQ D b 11 (fun r C1 => r = some (.int (nI (v / 10 ^ k % 10))) ∧ MR ca b C1 th dts tld fs9 ls9 cn9 lf9 mb9 mwt mab mbe on1 ot2 lea mos big wid yrs)) 0 0 (xr b 11) := by
  refine Met.ofW (cc := b_MO_digitOf) (maxL := 5) (ret := (some FieldType.int)) (by decide) rfl ?_
  intro p e s m args below meth c s₁ B hml hv
  obtain ⟨hav, hP, hK⟩ := hv
  have hx := B.exec
  have hb := B.bytes
  have hr := B.returns
  have hts := atoms_spec (ws := k_MO_digitOf :: gw) B.pre
  have hown : s.vm.findClass R_MO = some m.cls := findClass_of_methodNamed B.named
  have hlocks := B.notSynchronized
  have hA : ∀ k, k < 11 → xr b 11 (b + k) := xr_in
  have hS : va_S (xr b 11) s.heap s.heap [] := va_S.rf
  have hl := lv_entry ([.ref (b + 0), .int (nI x), .int (nI k)]) (n := 5) (Nat.le_of_ble_eq_true rfl)
  rw [hav, lg_entry_eq]
  generalize (lg_sl ([.ref (b + 0), .int (nI x), .int (nI k)]) ++ List.replicate (5 - (lg_sl ([.ref (b + 0), .int (nI x), .int (nI k)])).length) Slot.unset).toArray = ls at hl ⊢
  have hl : lv_has ls 5 [(0, .ref (b + 0)), (1, .int (nI x)), (2, .int (nI k))] := hl
  rw [← hav]
  have hq : k / 4 < 12 := by omega
  have hpt := mval_part (n := 12) hbx.1 hq
  rw [hbx.2 hv] at hpt
  have hdig : v / 10 ^ k % 10 = big (12 * x + k / 4) / 10 ^ (k % 4) % 10 := by
    have := m_digit (r := k % 4) (by omega) hpt
    rwa [Nat.div_add_mod] at this
  have hab : big (12 * x + k / 4) < 10000 := hbx.1 _ hq
  refine lv_aload_n hx hb d_MO_digitOf_0 rfl (lv_at hl 0 rfl) ?_
  refine xw_get (v := .ref (b + 8)) hx hb hts (fun w h => mw (uw_MO w h)) hown hK hP (MR_0 hX) (by decide) rfl 10 (by decide) (hts _ (mw tb_605)) (fun _ h => h) rfl d_MO_digitOf_1 ?_
  refine lv_bipush (v := nI 12) hx hb d_MO_digitOf_4 (by decide) ?_
  refine lv_iload_n hx hb d_MO_digitOf_6 rfl (lv_at hl 1 rfl) ?_
  refine lv_imul hx hb d_MO_digitOf_7 ?_
  refine ti (nI (12 * x)) (pk_mul _ _) ?_
  refine lv_iload_n hx hb d_MO_digitOf_8 rfl (lv_at hl 2 rfl) ?_
  refine lv_iconst (v := nI 4) hx hb d_MO_digitOf_9 (by decide) ?_
  refine lv_idiv hx hb d_MO_digitOf_10 (by decide) ?_
  refine ti (nI (k / 4)) (pk_div (by omega) (by decide) (by decide)) ?_
  refine lv_iadd hx hb d_MO_digitOf_11 ?_
  refine ti (nI ((12 * x) + (k / 4))) (nI_add _ _) ?_
  refine xw_iald hx hb hK hP 0 (MR_8 hX) (by decide) rfl (by omega) (by decide) d_MO_digitOf_12 ?_
  refine lv_istore_n (lv' := [(3, .int (nI (big ((12 * x) + (k / 4))))), (0, .ref (b + 0)), (1, .int (nI x)), (2, .int (nI k))]) hx hb d_MO_digitOf_13 rfl hl (by decide) rfl (fun ls hl => ?_)
  refine lv_iload_n hx hb d_MO_digitOf_14 rfl (lv_at hl 3 rfl) ?_
  refine lv_iconst (v := nI 4) hx hb d_MO_digitOf_15 (by decide) ?_
  refine lv_irem hx hb d_MO_digitOf_16 (by decide) ?_
  refine ti (nI (k % 4)) (pk_rem (by omega) (by decide) (by decide)) ?_
  refine xz_ne (tgt := 24) hx hb d_MO_digitOf_17 (by decide) (by omega) (fun h17 => ?_) (fun h17 => ?_)
  · skip
    refine lv_iload_n hx hb d_MO_digitOf_24 rfl (lv_at hl 3 rfl) ?_
    refine lv_iconst (v := nI 4) hx hb d_MO_digitOf_25 (by decide) ?_
    refine lv_irem hx hb d_MO_digitOf_26 (by decide) ?_
    refine ti (nI (k % 4)) (pk_rem (by omega) (by decide) (by decide)) ?_
    refine lv_iconst (v := nI 1) hx hb d_MO_digitOf_27 (by decide) ?_
    refine xi_ne (tgt := 36) hx hb d_MO_digitOf_28 (by decide) (by omega) (by omega) (fun h28 => ?_) (fun h28 => ?_)
    · skip
      refine lv_iload_n hx hb d_MO_digitOf_36 rfl (lv_at hl 3 rfl) ?_
      refine lv_iconst (v := nI 4) hx hb d_MO_digitOf_37 (by decide) ?_
      refine lv_irem hx hb d_MO_digitOf_38 (by decide) ?_
      refine ti (nI (k % 4)) (pk_rem (by omega) (by decide) (by decide)) ?_
      refine lv_iconst (v := nI 2) hx hb d_MO_digitOf_39 (by decide) ?_
      refine xi_ne (tgt := 48) hx hb d_MO_digitOf_40 (by decide) (by omega) (by omega) (fun h40 => ?_) (fun h40 => ?_)
      · skip
        refine lv_sipush (v := nI 1000) hx hb d_MO_digitOf_48 (by decide) ?_
        refine lv_istore (lv' := [(4, .int (nI 1000)), (3, .int (nI (big ((12 * x) + (k / 4))))), (0, .ref (b + 0)), (1, .int (nI x)), (2, .int (nI k))]) hx hb d_MO_digitOf_51 hl (by decide) rfl (fun ls hl => ?_)
        refine lv_iload_n hx hb d_MO_digitOf_53 rfl (lv_at hl 1 rfl) ?_
        refine lv_iload hx hb d_MO_digitOf_54 (lv_at hl 0 rfl) ?_
        refine lv_idiv hx hb d_MO_digitOf_56 (by decide) ?_
        refine ti (nI ((big ((12 * x) + (k / 4))) / 1000)) (pk_div (by omega) (by decide) (by decide)) ?_
        refine lv_bipush (v := nI 10) hx hb d_MO_digitOf_57 (by decide) ?_
        refine lv_irem hx hb d_MO_digitOf_59 (by decide) ?_
        refine ti (nI (((big ((12 * x) + (k / 4))) / 1000) % 10)) (pk_rem (by omega) (by decide) (by decide)) ?_
        exact xw_iret hx hb hr hlocks hP hS ⟨by rw [hdig, show k % 4 = 3 by omega, show (10 : Nat) ^ 3 = 1000 from rfl], hX⟩ d_MO_digitOf_60
      · skip
        refine lv_bipush (v := nI 100) hx hb d_MO_digitOf_43 (by decide) ?_
        refine lv_goto (tgt := 51) hx hb d_MO_digitOf_45 (by decide) ?_
        refine lv_istore (lv' := [(4, .int (nI 100)), (3, .int (nI (big ((12 * x) + (k / 4))))), (0, .ref (b + 0)), (1, .int (nI x)), (2, .int (nI k))]) hx hb d_MO_digitOf_51 hl (by decide) rfl (fun ls hl => ?_)
        refine lv_iload_n hx hb d_MO_digitOf_53 rfl (lv_at hl 1 rfl) ?_
        refine lv_iload hx hb d_MO_digitOf_54 (lv_at hl 0 rfl) ?_
        refine lv_idiv hx hb d_MO_digitOf_56 (by decide) ?_
        refine ti (nI ((big ((12 * x) + (k / 4))) / 100)) (pk_div (by omega) (by decide) (by decide)) ?_
        refine lv_bipush (v := nI 10) hx hb d_MO_digitOf_57 (by decide) ?_
        refine lv_irem hx hb d_MO_digitOf_59 (by decide) ?_
        refine ti (nI (((big ((12 * x) + (k / 4))) / 100) % 10)) (pk_rem (by omega) (by decide) (by decide)) ?_
        exact xw_iret hx hb hr hlocks hP hS ⟨by rw [hdig, h40, show (10 : Nat) ^ 2 = 100 from rfl], hX⟩ d_MO_digitOf_60
    · skip
      refine lv_bipush (v := nI 10) hx hb d_MO_digitOf_31 (by decide) ?_
      refine lv_goto (tgt := 51) hx hb d_MO_digitOf_33 (by decide) ?_
      refine lv_istore (lv' := [(4, .int (nI 10)), (3, .int (nI (big ((12 * x) + (k / 4))))), (0, .ref (b + 0)), (1, .int (nI x)), (2, .int (nI k))]) hx hb d_MO_digitOf_51 hl (by decide) rfl (fun ls hl => ?_)
      refine lv_iload_n hx hb d_MO_digitOf_53 rfl (lv_at hl 1 rfl) ?_
      refine lv_iload hx hb d_MO_digitOf_54 (lv_at hl 0 rfl) ?_
      refine lv_idiv hx hb d_MO_digitOf_56 (by decide) ?_
      refine ti (nI ((big ((12 * x) + (k / 4))) / 10)) (pk_div (by omega) (by decide) (by decide)) ?_
      refine lv_bipush (v := nI 10) hx hb d_MO_digitOf_57 (by decide) ?_
      refine lv_irem hx hb d_MO_digitOf_59 (by decide) ?_
      refine ti (nI (((big ((12 * x) + (k / 4))) / 10) % 10)) (pk_rem (by omega) (by decide) (by decide)) ?_
      exact xw_iret hx hb hr hlocks hP hS ⟨by rw [hdig, h28, Nat.pow_one], hX⟩ d_MO_digitOf_60
  · skip
    refine lv_iconst (v := nI 1) hx hb d_MO_digitOf_20 (by decide) ?_
    refine lv_goto (tgt := 51) hx hb d_MO_digitOf_21 (by decide) ?_
    refine lv_istore (lv' := [(4, .int (nI 1)), (3, .int (nI (big ((12 * x) + (k / 4))))), (0, .ref (b + 0)), (1, .int (nI x)), (2, .int (nI k))]) hx hb d_MO_digitOf_51 hl (by decide) rfl (fun ls hl => ?_)
    refine lv_iload_n hx hb d_MO_digitOf_53 rfl (lv_at hl 1 rfl) ?_
    refine lv_iload hx hb d_MO_digitOf_54 (lv_at hl 0 rfl) ?_
    refine lv_idiv hx hb d_MO_digitOf_56 (by decide) ?_
    refine ti (nI (big ((12 * x) + (k / 4)))) ((pk_div (by omega) (by decide) (by decide)).trans (by rw [Nat.div_one])) ?_
    refine lv_bipush (v := nI 10) hx hb d_MO_digitOf_57 (by decide) ?_
    refine lv_irem hx hb d_MO_digitOf_59 (by decide) ?_
    refine ti (nI ((big ((12 * x) + (k / 4))) % 10)) (pk_rem (by omega) (by decide) (by decide)) ?_
    exact xw_iret hx hb hr hlocks hP hS ⟨by rw [hdig, h17, Nat.pow_zero, Nat.div_one], hX⟩ d_MO_digitOf_60

