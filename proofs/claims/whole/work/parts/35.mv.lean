/-! The Model with its great numbers as naturals -/
def MV (ca : Nat → ClassId) (b : Nat) (C : Nat → va_E) (th : Nat) (dts : Nat) (tld : Nat) (fs9 : Nat) (ls9 : Nat) (cn9 : Nat) (lf9 : Nat) (mb9 : Nat) (mwt : Nat → Nat) (mab : Nat → Nat) (mbe : Nat → Nat) (on1 : Nat → Nat) (ot2 : Nat → Nat) (lea : Nat → Nat) (mos : Nat → Nat) (yrs : Nat → Nat) (bv : Nat → Nat) : Prop := ∃ big wid : Nat → Nat, MR ca b C th dts tld fs9 ls9 cn9 lf9 mb9 mwt mab mbe on1 ot2 lea mos big wid yrs ∧ ∀ x, x < 91 → bRep (bp big x) (bv x)
section MV
variable {ca : Nat → ClassId} {b : Nat} {C : Nat → va_E} {th : Nat} {dts : Nat} {tld : Nat} {fs9 : Nat} {ls9 : Nat} {cn9 : Nat} {lf9 : Nat} {mb9 : Nat} {mwt : Nat → Nat} {mab : Nat → Nat} {mbe : Nat → Nat} {on1 : Nat → Nat} {ot2 : Nat → Nat} {lea : Nat → Nat} {mos : Nat → Nat} {yrs : Nat → Nat} {bv : Nat → Nat}
theorem MV_0 (h : MV ca b C th dts tld fs9 ls9 cn9 lf9 mb9 mwt mab mbe on1 ot2 lea mos yrs bv) : C 0 = .inr (5, [.int (nI th), .int (nI dts), .ref (b + 1), .ref (b + 2), .ref (b + 3), .int (nI tld), .ref (b + 4), .ref (b + 5), .ref (b + 6), .ref (b + 7), .ref (b + 8), .ref (b + 9), .ref (b + 10), .int (nI fs9), .int (nI ls9), .int (nI cn9), .int (nI lf9), .int (nI mb9)]) := by obtain ⟨big, wid, h, -⟩ := h; exact MR_0 h
theorem MV_1 (h : MV ca b C th dts tld fs9 ls9 cn9 lf9 mb9 mwt mab mbe on1 ot2 lea mos yrs bv) : C 1 = .inl (ca 0, 72, .inl (fun k => nI (mwt k))) := by obtain ⟨big, wid, h, -⟩ := h; exact MR_1 h
theorem MV_2 (h : MV ca b C th dts tld fs9 ls9 cn9 lf9 mb9 mwt mab mbe on1 ot2 lea mos yrs bv) : C 2 = .inl (ca 0, 6, .inl (fun k => nI (mab k))) := by obtain ⟨big, wid, h, -⟩ := h; exact MR_2 h
theorem MV_3 (h : MV ca b C th dts tld fs9 ls9 cn9 lf9 mb9 mwt mab mbe on1 ot2 lea mos yrs bv) : C 3 = .inl (ca 0, 6, .inl (fun k => nI (mbe k))) := by obtain ⟨big, wid, h, -⟩ := h; exact MR_3 h
theorem MV_4 (h : MV ca b C th dts tld fs9 ls9 cn9 lf9 mb9 mwt mab mbe on1 ot2 lea mos yrs bv) : C 4 = .inl (ca 0, 6, .inl (fun k => nI (on1 k))) := by obtain ⟨big, wid, h, -⟩ := h; exact MR_4 h
theorem MV_5 (h : MV ca b C th dts tld fs9 ls9 cn9 lf9 mb9 mwt mab mbe on1 ot2 lea mos yrs bv) : C 5 = .inl (ca 0, 6, .inl (fun k => nI (ot2 k))) := by obtain ⟨big, wid, h, -⟩ := h; exact MR_5 h
theorem MV_6 (h : MV ca b C th dts tld fs9 ls9 cn9 lf9 mb9 mwt mab mbe on1 ot2 lea mos yrs bv) : C 6 = .inl (ca 0, 6, .inl (fun k => nI (lea k))) := by obtain ⟨big, wid, h, -⟩ := h; exact MR_6 h
theorem MV_7 (h : MV ca b C th dts tld fs9 ls9 cn9 lf9 mb9 mwt mab mbe on1 ot2 lea mos yrs bv) : C 7 = .inl (ca 0, 6, .inl (fun k => nI (mos k))) := by obtain ⟨big, wid, h, -⟩ := h; exact MR_7 h
theorem MV_10 (h : MV ca b C th dts tld fs9 ls9 cn9 lf9 mb9 mwt mab mbe on1 ot2 lea mos yrs bv) : C 10 = .inl (ca 0, 6, .inl (fun k => nI (yrs k))) := by obtain ⟨big, wid, h, -⟩ := h; exact MR_10 h
theorem MV_set_th {x1 : Nat} (h : MV ca b C th dts tld fs9 ls9 cn9 lf9 mb9 mwt mab mbe on1 ot2 lea mos yrs bv) : MV ca b (va_up C 0 (.inr (5, ([.int (nI th), .int (nI dts), .ref (b + 1), .ref (b + 2), .ref (b + 3), .int (nI tld), .ref (b + 4), .ref (b + 5), .ref (b + 6), .ref (b + 7), .ref (b + 8), .ref (b + 9), .ref (b + 10), .int (nI fs9), .int (nI ls9), .int (nI cn9), .int (nI lf9), .int (nI mb9)] : List Value).set 0 (.int (nI x1))))) x1 dts tld fs9 ls9 cn9 lf9 mb9 mwt mab mbe on1 ot2 lea mos yrs bv := by obtain ⟨big, wid, h, hB⟩ := h; exact ⟨big, wid, MR_set_th h, hB⟩
theorem MV_set_dts {x1 : Nat} (h : MV ca b C th dts tld fs9 ls9 cn9 lf9 mb9 mwt mab mbe on1 ot2 lea mos yrs bv) : MV ca b (va_up C 0 (.inr (5, ([.int (nI th), .int (nI dts), .ref (b + 1), .ref (b + 2), .ref (b + 3), .int (nI tld), .ref (b + 4), .ref (b + 5), .ref (b + 6), .ref (b + 7), .ref (b + 8), .ref (b + 9), .ref (b + 10), .int (nI fs9), .int (nI ls9), .int (nI cn9), .int (nI lf9), .int (nI mb9)] : List Value).set 1 (.int (nI x1))))) th x1 tld fs9 ls9 cn9 lf9 mb9 mwt mab mbe on1 ot2 lea mos yrs bv := by obtain ⟨big, wid, h, hB⟩ := h; exact ⟨big, wid, MR_set_dts h, hB⟩
theorem MV_set_tld {x1 : Nat} (h : MV ca b C th dts tld fs9 ls9 cn9 lf9 mb9 mwt mab mbe on1 ot2 lea mos yrs bv) : MV ca b (va_up C 0 (.inr (5, ([.int (nI th), .int (nI dts), .ref (b + 1), .ref (b + 2), .ref (b + 3), .int (nI tld), .ref (b + 4), .ref (b + 5), .ref (b + 6), .ref (b + 7), .ref (b + 8), .ref (b + 9), .ref (b + 10), .int (nI fs9), .int (nI ls9), .int (nI cn9), .int (nI lf9), .int (nI mb9)] : List Value).set 5 (.int (nI x1))))) th dts x1 fs9 ls9 cn9 lf9 mb9 mwt mab mbe on1 ot2 lea mos yrs bv := by obtain ⟨big, wid, h, hB⟩ := h; exact ⟨big, wid, MR_set_tld h, hB⟩
theorem MV_set_fs9 {x1 : Nat} (h : MV ca b C th dts tld fs9 ls9 cn9 lf9 mb9 mwt mab mbe on1 ot2 lea mos yrs bv) : MV ca b (va_up C 0 (.inr (5, ([.int (nI th), .int (nI dts), .ref (b + 1), .ref (b + 2), .ref (b + 3), .int (nI tld), .ref (b + 4), .ref (b + 5), .ref (b + 6), .ref (b + 7), .ref (b + 8), .ref (b + 9), .ref (b + 10), .int (nI fs9), .int (nI ls9), .int (nI cn9), .int (nI lf9), .int (nI mb9)] : List Value).set 13 (.int (nI x1))))) th dts tld x1 ls9 cn9 lf9 mb9 mwt mab mbe on1 ot2 lea mos yrs bv := by obtain ⟨big, wid, h, hB⟩ := h; exact ⟨big, wid, MR_set_fs9 h, hB⟩
theorem MV_set_ls9 {x1 : Nat} (h : MV ca b C th dts tld fs9 ls9 cn9 lf9 mb9 mwt mab mbe on1 ot2 lea mos yrs bv) : MV ca b (va_up C 0 (.inr (5, ([.int (nI th), .int (nI dts), .ref (b + 1), .ref (b + 2), .ref (b + 3), .int (nI tld), .ref (b + 4), .ref (b + 5), .ref (b + 6), .ref (b + 7), .ref (b + 8), .ref (b + 9), .ref (b + 10), .int (nI fs9), .int (nI ls9), .int (nI cn9), .int (nI lf9), .int (nI mb9)] : List Value).set 14 (.int (nI x1))))) th dts tld fs9 x1 cn9 lf9 mb9 mwt mab mbe on1 ot2 lea mos yrs bv := by obtain ⟨big, wid, h, hB⟩ := h; exact ⟨big, wid, MR_set_ls9 h, hB⟩
theorem MV_set_cn9 {x1 : Nat} (h : MV ca b C th dts tld fs9 ls9 cn9 lf9 mb9 mwt mab mbe on1 ot2 lea mos yrs bv) : MV ca b (va_up C 0 (.inr (5, ([.int (nI th), .int (nI dts), .ref (b + 1), .ref (b + 2), .ref (b + 3), .int (nI tld), .ref (b + 4), .ref (b + 5), .ref (b + 6), .ref (b + 7), .ref (b + 8), .ref (b + 9), .ref (b + 10), .int (nI fs9), .int (nI ls9), .int (nI cn9), .int (nI lf9), .int (nI mb9)] : List Value).set 15 (.int (nI x1))))) th dts tld fs9 ls9 x1 lf9 mb9 mwt mab mbe on1 ot2 lea mos yrs bv := by obtain ⟨big, wid, h, hB⟩ := h; exact ⟨big, wid, MR_set_cn9 h, hB⟩
theorem MV_set_lf9 {x1 : Nat} (h : MV ca b C th dts tld fs9 ls9 cn9 lf9 mb9 mwt mab mbe on1 ot2 lea mos yrs bv) : MV ca b (va_up C 0 (.inr (5, ([.int (nI th), .int (nI dts), .ref (b + 1), .ref (b + 2), .ref (b + 3), .int (nI tld), .ref (b + 4), .ref (b + 5), .ref (b + 6), .ref (b + 7), .ref (b + 8), .ref (b + 9), .ref (b + 10), .int (nI fs9), .int (nI ls9), .int (nI cn9), .int (nI lf9), .int (nI mb9)] : List Value).set 16 (.int (nI x1))))) th dts tld fs9 ls9 cn9 x1 mb9 mwt mab mbe on1 ot2 lea mos yrs bv := by obtain ⟨big, wid, h, hB⟩ := h; exact ⟨big, wid, MR_set_lf9 h, hB⟩
theorem MV_set_mb9 {x1 : Nat} (h : MV ca b C th dts tld fs9 ls9 cn9 lf9 mb9 mwt mab mbe on1 ot2 lea mos yrs bv) : MV ca b (va_up C 0 (.inr (5, ([.int (nI th), .int (nI dts), .ref (b + 1), .ref (b + 2), .ref (b + 3), .int (nI tld), .ref (b + 4), .ref (b + 5), .ref (b + 6), .ref (b + 7), .ref (b + 8), .ref (b + 9), .ref (b + 10), .int (nI fs9), .int (nI ls9), .int (nI cn9), .int (nI lf9), .int (nI mb9)] : List Value).set 17 (.int (nI x1))))) th dts tld fs9 ls9 cn9 lf9 x1 mwt mab mbe on1 ot2 lea mos yrs bv := by obtain ⟨big, wid, h, hB⟩ := h; exact ⟨big, wid, MR_set_mb9 h, hB⟩
theorem MV_set_mwt {j x : Nat} (h : MV ca b C th dts tld fs9 ls9 cn9 lf9 mb9 mwt mab mbe on1 ot2 lea mos yrs bv) : MV ca b (va_up C 1 (.inl (ca 0, 72, .inl (upd (fun k => nI (mwt k)) j (nI x))))) th dts tld fs9 ls9 cn9 lf9 mb9 (va_up mwt j x) mab mbe on1 ot2 lea mos yrs bv := by obtain ⟨big, wid, h, hB⟩ := h; exact ⟨big, wid, MR_set_mwt h, hB⟩
theorem MV_set_mab {j x : Nat} (h : MV ca b C th dts tld fs9 ls9 cn9 lf9 mb9 mwt mab mbe on1 ot2 lea mos yrs bv) : MV ca b (va_up C 2 (.inl (ca 0, 6, .inl (upd (fun k => nI (mab k)) j (nI x))))) th dts tld fs9 ls9 cn9 lf9 mb9 mwt (va_up mab j x) mbe on1 ot2 lea mos yrs bv := by obtain ⟨big, wid, h, hB⟩ := h; exact ⟨big, wid, MR_set_mab h, hB⟩
theorem MV_set_mbe {j x : Nat} (h : MV ca b C th dts tld fs9 ls9 cn9 lf9 mb9 mwt mab mbe on1 ot2 lea mos yrs bv) : MV ca b (va_up C 3 (.inl (ca 0, 6, .inl (upd (fun k => nI (mbe k)) j (nI x))))) th dts tld fs9 ls9 cn9 lf9 mb9 mwt mab (va_up mbe j x) on1 ot2 lea mos yrs bv := by obtain ⟨big, wid, h, hB⟩ := h; exact ⟨big, wid, MR_set_mbe h, hB⟩
theorem MV_set_on1 {j x : Nat} (h : MV ca b C th dts tld fs9 ls9 cn9 lf9 mb9 mwt mab mbe on1 ot2 lea mos yrs bv) : MV ca b (va_up C 4 (.inl (ca 0, 6, .inl (upd (fun k => nI (on1 k)) j (nI x))))) th dts tld fs9 ls9 cn9 lf9 mb9 mwt mab mbe (va_up on1 j x) ot2 lea mos yrs bv := by obtain ⟨big, wid, h, hB⟩ := h; exact ⟨big, wid, MR_set_on1 h, hB⟩
theorem MV_set_ot2 {j x : Nat} (h : MV ca b C th dts tld fs9 ls9 cn9 lf9 mb9 mwt mab mbe on1 ot2 lea mos yrs bv) : MV ca b (va_up C 5 (.inl (ca 0, 6, .inl (upd (fun k => nI (ot2 k)) j (nI x))))) th dts tld fs9 ls9 cn9 lf9 mb9 mwt mab mbe on1 (va_up ot2 j x) lea mos yrs bv := by obtain ⟨big, wid, h, hB⟩ := h; exact ⟨big, wid, MR_set_ot2 h, hB⟩
theorem MV_set_lea {j x : Nat} (h : MV ca b C th dts tld fs9 ls9 cn9 lf9 mb9 mwt mab mbe on1 ot2 lea mos yrs bv) : MV ca b (va_up C 6 (.inl (ca 0, 6, .inl (upd (fun k => nI (lea k)) j (nI x))))) th dts tld fs9 ls9 cn9 lf9 mb9 mwt mab mbe on1 ot2 (va_up lea j x) mos yrs bv := by obtain ⟨big, wid, h, hB⟩ := h; exact ⟨big, wid, MR_set_lea h, hB⟩
theorem MV_set_mos {j x : Nat} (h : MV ca b C th dts tld fs9 ls9 cn9 lf9 mb9 mwt mab mbe on1 ot2 lea mos yrs bv) : MV ca b (va_up C 7 (.inl (ca 0, 6, .inl (upd (fun k => nI (mos k)) j (nI x))))) th dts tld fs9 ls9 cn9 lf9 mb9 mwt mab mbe on1 ot2 lea (va_up mos j x) yrs bv := by obtain ⟨big, wid, h, hB⟩ := h; exact ⟨big, wid, MR_set_mos h, hB⟩
theorem MV_set_yrs {j x : Nat} (h : MV ca b C th dts tld fs9 ls9 cn9 lf9 mb9 mwt mab mbe on1 ot2 lea mos yrs bv) : MV ca b (va_up C 10 (.inl (ca 0, 6, .inl (upd (fun k => nI (yrs k)) j (nI x))))) th dts tld fs9 ls9 cn9 lf9 mb9 mwt mab mbe on1 ot2 lea mos (va_up yrs j x) bv := by obtain ⟨big, wid, h, hB⟩ := h; exact ⟨big, wid, MR_set_yrs h, hB⟩
end MV
theorem bvUp {big big1 : Nat → Nat} {bv : Nat → Nat} {x v : Nat} (hB : ∀ x, x < 91 → bRep (bp big x) (bv x)) (h1 : bRep (bp big1 x) v) (h2 : bFr big1 big x) : ∀ y, y < 91 → bRep (bp big1 y) (va_up bv x v y) := fun y hy => by
  by_cases q : y = x
  · subst q; rw [va_up_self]; exact h1
  · rw [va_up_ne _ _ q]; exact bRep_congr (hB y hy) (fun k hk => h2.bp q hk)
theorem bvCp {big big1 : Nat → Nat} {bv : Nat → Nat} {x y : Nat} (hB : ∀ x, x < 91 → bRep (bp big x) (bv x)) (hy : y < 91) (h1 : ∀ k, k < 12 → big1 (12 * x + k) = big (12 * y + k)) (h2 : bFr big1 big x) : ∀ z, z < 91 → bRep (bp big1 z) (va_up bv x (bv y) z) := bvUp hB (bRep_congr (hB y hy) h1) h2
theorem ltsub {a b c : Nat} (ha : a < 2 ^ 29) (hb : b < 2 ^ 29) (hc : c < 2 ^ 29) : nI a - nI b < nI c ↔ a < b + c := by
  by_cases q : b ≤ a
  · rw [pk_sub q, nI_ltI (by omega) (by omega)]; omega
  · refine ⟨fun _ => by omega, fun _ => ?_⟩
    exact Int32.lt_of_lt_of_le (pk_sneg (a := a) (b := b) (by omega) (by omega)) (nI_pos' (by omega))
theorem gtsub {a b c : Nat} (ha : a < 2 ^ 29) (hb : b < 2 ^ 29) (hc : c < 2 ^ 29) : nI c < nI a - nI b ↔ b + c < a := by
  by_cases q : b ≤ a
  · rw [pk_sub q, nI_ltI (by omega) (by omega)]; omega
  · refine ⟨fun h => ?_, fun h => by omega⟩
    exact absurd (Int32.lt_trans h (pk_sneg (a := a) (b := b) (by omega) (by omega))) (nI_pos (by omega))
/-- .. F over lo .. hi - 1, as rng, by steps -/
theorem rng_0 (F : Nat → Nat) (lo : Nat) : sm (fun j => F (lo + j)) 0 = 0 := rfl
set_option maxHeartbeats 4000000 in
set_option maxRecDepth 100000 in
/-- a number is multiplied by a sum of years -/
theorem c_MO_multiply (l : Launch) (D : va_G) (ca : Nat → ClassId) (b : Nat) (C0 : Nat → va_E) {th : Nat} {dts : Nat} {tld : Nat} {fs9 : Nat} {ls9 : Nat} {cn9 : Nat} {lf9 : Nat} {mb9 : Nat} {mwt : Nat → Nat} {mab : Nat → Nat} {mbe : Nat → Nat} {on1 : Nat → Nat} {ot2 : Nat → Nat} {lea : Nat → Nat} {mos : Nat → Nat} {yrs : Nat → Nat} {bv : Nat → Nat} (x d f g : Nat) (hX : MV ca b C0 th dts tld fs9 ls9 cn9 lf9 mb9 mwt mab mbe on1 ot2 lea mos yrs bv) (hx91 : 72 < x ∧ x < 91) (hd : d < 6) (hf : f ≤ 12) (hg : g < 12) : Met l y_MO_multiply (k_MO_multiply :: gw) ({ frames := 2, cells := 0, slots := 0, locals := 38 }) (xPc D ca b 11 C0 [.ref (b + 0), .int (nI x), .int (nI d), .int (nI f), .int (nI g)]) (xQ D b 11 (fun r C1 => r = none ∧ ∃ m1, MV ca b C1 th dts tld fs9 ls9 cn9 lf9 mb9 mwt mab mbe on1 ot2 lea mos yrs (va_up (va_up bv 72 m1) x (bv x * rng (fun y => bv (12 * d + y)) f (g + 1))))) 0 0 (xr b 11) := by
  refine Met.ofW (cc := b_MO_multiply) (maxL := 6) (ret := none) (by decide) rfl ?_
  intro p e s m args below meth c s₁ B hml hv
  obtain ⟨hav, hP, hK⟩ := hv
  have hx := B.exec
  have hb := B.bytes
  have hr := B.returns
  have hts := atoms_spec (ws := k_MO_multiply :: gw) B.pre
  have hown : s.vm.findClass R_MO = some m.cls := findClass_of_methodNamed B.named
  have hlocks := B.notSynchronized
  have hA : ∀ k, k < 11 → xr b 11 (b + k) := xr_in
  have hS : va_S (xr b 11) s.heap s.heap [] := va_S.rf
  have hl := lv_entry ([.ref (b + 0), .int (nI x), .int (nI d), .int (nI f), .int (nI g)]) (n := 6) (Nat.le_of_ble_eq_true rfl)
  rw [hav, lg_entry_eq]
  generalize (lg_sl ([.ref (b + 0), .int (nI x), .int (nI d), .int (nI f), .int (nI g)]) ++ List.replicate (6 - (lg_sl ([.ref (b + 0), .int (nI x), .int (nI d), .int (nI f), .int (nI g)])).length) Slot.unset).toArray = ls at hl ⊢
  have hl : lv_has ls 6 [(0, .ref (b + 0)), (1, .int (nI x)), (2, .int (nI d)), (3, .int (nI f)), (4, .int (nI g))] := hl
  rw [← hav]
  refine lv_aload_n hx hb d_MO_multiply_0 rfl (lv_at hl 0 rfl) ?_
  refine lv_bipush (v := nI 72) hx hb d_MO_multiply_1 (by decide) ?_
  refine lv_iconst (v := nI 0) hx hb d_MO_multiply_3 (by decide) ?_
  obtain ⟨bg9, wd9, hX, hB9⟩ := hX
  refine xc_V (n := 2) (g0 := 0) (As := [.int (nI 72), .int (nI 0)]) (rest := []) (st0 := _) hx hb hml hown hts (c_MO_set l D ca b _ 72 0 hX (by omega) (by omega)) km_MO_set tb_724 tb_726 tps_29 tb_7 (by decide +kernel) rfl rfl ⟨Nat.le_of_ble_eq_true rfl, Nat.le_of_ble_eq_true rfl⟩ hK hP (MR_0 hX) (by decide) rfl rfl rfl hl rfl (Nat.le_of_ble_eq_true rfl) d_MO_multiply_4 ⟨Nat.zero_le _, Nat.zero_le _⟩ hS (fun _ h => h) (fun v C H locs hp hP _ _ hS => ?_)
  obtain ⟨rfl, big1, hX, hb1, hf1⟩ := hp
  have hX : MV ca b C th dts tld fs9 ls9 cn9 lf9 mb9 mwt mab mbe on1 ot2 lea mos yrs (va_up bv 72 0) := ⟨_, _, hX, bvUp hB9 hb1 hf1⟩
  refine lv_iload_n hx hb d_MO_multiply_7 rfl (lv_at hl 3 rfl) ?_
  refine lv_istore (lv' := [(5, .int (nI f)), (0, .ref (b + 0)), (1, .int (nI x)), (2, .int (nI d)), (3, .int (nI f)), (4, .int (nI g))]) hx hb d_MO_multiply_8 hl (by decide) rfl (fun ls hl => ?_)
  have loop10 : ∀ (r : Nat) (t : Nat) (C : Nat → va_E) (H : Heap) (locs : List Loc) (ls : Array Slot), 24 < f + t + r → f + t ≤ 12 → t ≤ g + 1 - f → va_P D classes (wl b 11 C) H → va_S (xr b 11) s.heap H locs → MV ca b C th dts tld fs9 ls9 cn9 lf9 mb9 mwt mab mbe on1 ot2 lea mos yrs (va_up bv 72 (sm (fun j => bv (12 * d + (f + j))) t)) → lv_has ls 6 [(0, .ref (b + 0)), (1, .int (nI x)), (2, .int (nI d)), (4, .int (nI g)), (5, .int (nI (f + t)))] → W p l e (headSpec (k_MO_multiply :: gw) ({ frames := 2, cells := 0, slots := 0, locals := 38 })).room s m args below meth c H locs 0 0 (MQ below (xQ D b 11 (fun r C1 => r = none ∧ ∃ m1, MV ca b C1 th dts tld fs9 ls9 cn9 lf9 mb9 mwt mab mbe on1 ot2 lea mos yrs (va_up (va_up bv 72 m1) x (bv x * rng (fun y => bv (12 * d + y)) f (g + 1))))) args s 0 0 (xr b 11)) (F0 m 10 ls []) := by
    intro r
    induction r with
    | zero => intro t C H locs ls hms ht ht2; exact absurd hms (by omega)
    | succ r ih10 =>
      intro t C H locs ls hms ht ht2 hP hS hX hl
      refine lv_iload hx hb d_MO_multiply_10 (lv_at hl 4 rfl) ?_
      refine lv_iload hx hb d_MO_multiply_12 (lv_at hl 3 rfl) ?_
      refine xi_gt (tgt := 36) hx hb d_MO_multiply_14 (by decide) (by omega) (by omega) (fun h14 => ?_) (fun h14 => ?_)
      · skip
        have et : t = g + 1 - f := by omega
        refine lv_aload_n hx hb d_MO_multiply_36 rfl (lv_at hl 0 rfl) ?_
        refine lv_iload_n hx hb d_MO_multiply_37 rfl (lv_at hl 1 rfl) ?_
        refine lv_bipush (v := nI 72) hx hb d_MO_multiply_38 (by decide) ?_
        obtain ⟨bg9, wd9, hX, hB9⟩ := hX
        refine xc_V (n := 2) (g0 := 0) (As := [.int (nI x), .int (nI 72)]) (rest := []) (st0 := _) hx hb hml hown hts (c_MO_times l D ca b _ x 72 _ _ hX (by omega) (by omega) (by omega) (hB9 x (by omega)) (hB9 72 (by omega))) km_MO_times tb_752 tb_754 tps_36 tb_7 (by decide +kernel) rfl rfl ⟨Nat.le_of_ble_eq_true rfl, Nat.le_of_ble_eq_true rfl⟩ hK hP (MR_0 hX) (by decide) rfl rfl rfl hl rfl (Nat.le_of_ble_eq_true rfl) d_MO_multiply_40 ⟨Nat.zero_le _, Nat.zero_le _⟩ hS (fun _ h => h) (fun v C H locs hp hP _ _ hS => ?_)
        obtain ⟨rfl, big1, wid1, hX, hb1, hf1⟩ := hp
        have hX : MV ca b C th dts tld fs9 ls9 cn9 lf9 mb9 mwt mab mbe on1 ot2 lea mos yrs (va_up (va_up bv 72 (sm (fun j => bv (12 * d + (f + j))) t)) x ((va_up bv 72 (sm (fun j => bv (12 * d + (f + j))) t)) x * (va_up bv 72 (sm (fun j => bv (12 * d + (f + j))) t)) 72)) := ⟨_, _, hX, bvUp hB9 hb1 hf1⟩
        exact xw_vret hx hb hr hlocks hP hS ⟨rfl, sm (fun j => bv (12 * d + (f + j))) t, by
            have e : va_up bv 72 (sm (fun j => bv (12 * d + (f + j))) t) x * va_up bv 72 (sm (fun j => bv (12 * d + (f + j))) t) 72 = bv x * rng (fun y => bv (12 * d + y)) f (g + 1) := by
              rw [va_up_self, va_up_ne _ _ (by omega), et]; rfl
            rw [← e]; exact hX⟩ d_MO_multiply_43
      · skip
        refine lv_aload_n hx hb d_MO_multiply_17 rfl (lv_at hl 0 rfl) ?_
        refine lv_bipush (v := nI 72) hx hb d_MO_multiply_18 (by decide) ?_
        refine lv_bipush (v := nI 12) hx hb d_MO_multiply_20 (by decide) ?_
        refine lv_iload_n hx hb d_MO_multiply_22 rfl (lv_at hl 2 rfl) ?_
        refine lv_imul hx hb d_MO_multiply_23 ?_
        refine ti (nI (12 * d)) (pk_mul _ _) ?_
        refine lv_iload hx hb d_MO_multiply_24 (lv_at hl 4 rfl) ?_
        refine lv_iadd hx hb d_MO_multiply_26 ?_
        refine ti (nI ((12 * d) + (f + t))) (nI_add _ _) ?_
        obtain ⟨bg9, wd9, hX, hB9⟩ := hX
        refine xc_V (n := 2) (g0 := 0) (As := [.int (nI 72), .int (nI ((12 * d) + (f + t)))]) (rest := []) (st0 := _) hx hb hml hown hts (c_MO_add l D ca b _ 72 ((12 * d) + (f + t)) _ _ hX (by omega) (by omega) (by omega) (hB9 72 (by omega)) (hB9 ((12 * d) + (f + t)) (by omega))) km_MO_add tb_748 tb_750 tps_35 tb_7 (by decide +kernel) rfl rfl ⟨Nat.le_of_ble_eq_true rfl, Nat.le_of_ble_eq_true rfl⟩ hK hP (MR_0 hX) (by decide) rfl rfl rfl hl rfl (Nat.le_of_ble_eq_true rfl) d_MO_multiply_27 ⟨Nat.zero_le _, Nat.zero_le _⟩ hS (fun _ h => h) (fun v C H locs hp hP _ _ hS => ?_)
        obtain ⟨rfl, big1, hX, hb1, hf1⟩ := hp
        have hX : MV ca b C th dts tld fs9 ls9 cn9 lf9 mb9 mwt mab mbe on1 ot2 lea mos yrs (va_up (va_up bv 72 (sm (fun j => bv (12 * d + (f + j))) t)) 72 ((va_up bv 72 (sm (fun j => bv (12 * d + (f + j))) t)) 72 + (va_up bv 72 (sm (fun j => bv (12 * d + (f + j))) t)) ((12 * d) + (f + t)))) := ⟨_, _, hX, bvUp hB9 hb1 hf1⟩
        refine lv_iinc (v := nI (f + t + 1)) (lv' := [(5, .int (nI (f + t + 1))), (0, .ref (b + 0)), (1, .int (nI x)), (2, .int (nI d)), (4, .int (nI g))]) hx hb d_MO_multiply_30 hl (k := 4) rfl (show nI (f + t) + Int32.ofInt 1 = nI (f + t + 1) from nI_add _ _) (by decide) rfl (fun ls hl => ?_)
        refine lv_goto (tgt := 10) hx hb d_MO_multiply_33 (by decide) ?_
        have hX : MV ca b C th dts tld fs9 ls9 cn9 lf9 mb9 mwt mab mbe on1 ot2 lea mos yrs (va_up bv 72 (sm (fun j => bv (12 * d + (f + j))) (t + 1))) := by
          have e : va_up (va_up bv 72 (sm (fun j => bv (12 * d + (f + j))) t)) 72 (va_up bv 72 (sm (fun j => bv (12 * d + (f + j))) t) 72 + va_up bv 72 (sm (fun j => bv (12 * d + (f + j))) t) (12 * d + (f + t))) = va_up bv 72 (sm (fun j => bv (12 * d + (f + j))) (t + 1)) := by
            rw [up2, va_up_self, va_up_ne _ _ (by omega)]; rfl
          rw [← e]; exact hX
        exact ih10 (t + 1) _ _ _ _ (by omega) (by omega) (by omega) hP hS hX (lv_sub hl [1, 2, 3, 4, 0] rfl)
  exact loop10 25 0 _ _ _ _ (by omega) (by omega) (by omega) hP hS hX (lv_sub hl [1, 2, 3, 5, 0] rfl)

