/-! Passing: the Greats by their uses -/
def upS (S : Nat → Nat → Nat) (d y v : Nat) : Nat → Nat → Nat := va_up S d (va_up (S d) y v)
theorem upS_self (S : Nat → Nat → Nat) (d y v : Nat) : upS S d y v d y = v := by unfold upS; rw [va_up_self, va_up_self]
theorem upS_ne {S : Nat → Nat → Nat} {d y v d1 y1 : Nat} (h : ¬ (d1 = d ∧ y1 = y)) : upS S d y v d1 y1 = S d1 y1 := by
  unfold upS
  by_cases q : d1 = d
  · subst q; rw [va_up_self, va_up_ne _ _ (fun e => h ⟨rfl, e⟩)]
  · rw [va_up_ne _ _ q]
def gvOf (S : Nat → Nat → Nat) (I P : Nat → Nat) (pt ap fa wh st : Nat) : Nat → Nat := fun g =>
  if g = 22 then pt else if g = 24 then ap else if g = 26 then fa else if g = 215 then wh else if g = 217 then st
  else if g < 179 then S ((g - 35) / 24) ((g - 35) / 2 % 12) else if g < 191 then I ((g - 179) / 2) else P ((g - 191) / 2)
section GV
variable {ca : Nat → ClassId} {b : Nat} {C : Nat → va_E} {wt : Nat → Nat → Nat} {ab : Nat → Nat} {be : Nat → Nat} {nd : Nat} {fr : Nat → Nat} {tt : Nat → Option Nat} {le : Nat → Nat} {mo : Nat → Nat} {nf : Nat → Bool} {tr : Nat → Nat} {nt : Nat} {nm : Nat} {fy : Nat → Option Nat} {fb : Nat → Option Nat} {od : Nat → Nat} {pa : Nat → Option Nat} {rp : Nat → Option Nat} {se : Nat → Bool} {im : Nat → Bool} {qd : Nat} {hm : Nat} {S : Nat → Nat → Nat} {I : Nat → Nat} {P : Nat → Nat} {pt : Nat} {ap : Nat} {fa : Nat} {wh : Nat} {st : Nat} {v : Nat}
theorem gv_pt : gvOf S I P pt ap fa wh st 22 = pt := rfl
theorem gv_ap : gvOf S I P pt ap fa wh st 24 = ap := rfl
theorem gv_fa : gvOf S I P pt ap fa wh st 26 = fa := rfl
theorem gv_wh : gvOf S I P pt ap fa wh st 215 = wh := rfl
theorem gv_st : gvOf S I P pt ap fa wh st 217 = st := rfl
theorem gv_S {d y : Nat} (hd : d < 6) (hy : y < 12) : gvOf S I P pt ap fa wh st (35 + 2 * (d * 12 + y)) = S d y := by
  unfold gvOf
  rw [if_neg (by omega), if_neg (by omega), if_neg (by omega), if_neg (by omega), if_neg (by omega), if_pos (by omega), show (35 + 2 * (d * 12 + y) - 35) / 24 = d by omega, show (35 + 2 * (d * 12 + y) - 35) / 2 % 12 = y by omega]
theorem gv_I {k : Nat} (hk : k < 6) : gvOf S I P pt ap fa wh st (179 + 2 * k) = I k := by
  unfold gvOf
  rw [if_neg (by omega), if_neg (by omega), if_neg (by omega), if_neg (by omega), if_neg (by omega), if_neg (by omega), if_pos (by omega), show (179 + 2 * k - 179) / 2 = k by omega]
theorem gv_P {k : Nat} (hk : k < 12) : gvOf S I P pt ap fa wh st (191 + 2 * k) = P k := by
  unfold gvOf
  rw [if_neg (by omega), if_neg (by omega), if_neg (by omega), if_neg (by omega), if_neg (by omega), if_neg (by omega), if_neg (by omega), show (191 + 2 * k - 191) / 2 = k by omega]
theorem gs_pt (h : XS ca b C wt ab be nd fr tt le mo nf tr nt nm fy fb od pa rp se im qd hm (va_up (gvOf S I P pt ap fa wh st) 22 v)) : XS ca b C wt ab be nd fr tt le mo nf tr nt nm fy fb od pa rp se im qd hm (gvOf S I P v ap fa wh st) := XS_gv h (fun g hg => by
  by_cases q : g = 22
  · subst q; rw [va_up_self]; rfl
  · rw [va_up_ne _ _ q]
    unfold gvOf
    simp only [q, if_false])
theorem gs_ap (h : XS ca b C wt ab be nd fr tt le mo nf tr nt nm fy fb od pa rp se im qd hm (va_up (gvOf S I P pt ap fa wh st) 24 v)) : XS ca b C wt ab be nd fr tt le mo nf tr nt nm fy fb od pa rp se im qd hm (gvOf S I P pt v fa wh st) := XS_gv h (fun g hg => by
  by_cases q : g = 24
  · subst q; rw [va_up_self]; rfl
  · rw [va_up_ne _ _ q]
    unfold gvOf
    simp only [q, if_false])
theorem gs_fa (h : XS ca b C wt ab be nd fr tt le mo nf tr nt nm fy fb od pa rp se im qd hm (va_up (gvOf S I P pt ap fa wh st) 26 v)) : XS ca b C wt ab be nd fr tt le mo nf tr nt nm fy fb od pa rp se im qd hm (gvOf S I P pt ap v wh st) := XS_gv h (fun g hg => by
  by_cases q : g = 26
  · subst q; rw [va_up_self]; rfl
  · rw [va_up_ne _ _ q]
    unfold gvOf
    simp only [q, if_false])
theorem gs_wh (h : XS ca b C wt ab be nd fr tt le mo nf tr nt nm fy fb od pa rp se im qd hm (va_up (gvOf S I P pt ap fa wh st) 215 v)) : XS ca b C wt ab be nd fr tt le mo nf tr nt nm fy fb od pa rp se im qd hm (gvOf S I P pt ap fa v st) := XS_gv h (fun g hg => by
  by_cases q : g = 215
  · subst q; rw [va_up_self]; rfl
  · rw [va_up_ne _ _ q]
    unfold gvOf
    simp only [q, if_false])
theorem gs_st (h : XS ca b C wt ab be nd fr tt le mo nf tr nt nm fy fb od pa rp se im qd hm (va_up (gvOf S I P pt ap fa wh st) 217 v)) : XS ca b C wt ab be nd fr tt le mo nf tr nt nm fy fb od pa rp se im qd hm (gvOf S I P pt ap fa wh v) := XS_gv h (fun g hg => by
  by_cases q : g = 217
  · subst q; rw [va_up_self]; rfl
  · rw [va_up_ne _ _ q]
    unfold gvOf
    simp only [q, if_false])
theorem gs_S {d y : Nat} (hd : d < 6) (hy : y < 12) (h : XS ca b C wt ab be nd fr tt le mo nf tr nt nm fy fb od pa rp se im qd hm (va_up (gvOf S I P pt ap fa wh st) (35 + 2 * (d * 12 + y)) v)) : XS ca b C wt ab be nd fr tt le mo nf tr nt nm fy fb od pa rp se im qd hm (gvOf (upS S d y v) I P pt ap fa wh st) := XS_gv h (fun g hg => by
  by_cases q : g = 35 + 2 * (d * 12 + y)
  · subst q; rw [va_up_self, gv_S hd hy, upS_self]
  · rw [va_up_ne _ _ q]
    unfold gvOf
    by_cases q2 : g < 179
    · by_cases q3 : 35 ≤ g
      · rw [upS_ne (S := S) (d := d) (y := y) (v := v) (d1 := (g - 35) / 24) (y1 := (g - 35) / 2 % 12) (by unfold gid at hg; omega)]
      · have q4 : g = 22 ∨ g = 24 ∨ g = 26 := by unfold gid at hg; omega
        rcases q4 with q4 | q4 | q4 <;> simp [q4]
    · simp only [q2, if_false])
theorem gs_I {k : Nat} (hk : k < 6) (h : XS ca b C wt ab be nd fr tt le mo nf tr nt nm fy fb od pa rp se im qd hm (va_up (gvOf S I P pt ap fa wh st) (179 + 2 * k) v)) : XS ca b C wt ab be nd fr tt le mo nf tr nt nm fy fb od pa rp se im qd hm (gvOf S (va_up I k v) P pt ap fa wh st) := XS_gv h (fun g hg => by
  by_cases q : g = 179 + 2 * k
  · subst q; rw [va_up_self, gv_I hk, va_up_self]
  · rw [va_up_ne _ _ q]
    unfold gvOf
    by_cases q2 : g < 179
    · simp only [q2, if_true]
    · by_cases q3 : g < 191
      · rw [va_up_ne _ _ (by unfold gid at hg; omega)]
      · simp only [q3, if_false])
theorem gs_P {k : Nat} (hk : k < 12) (h : XS ca b C wt ab be nd fr tt le mo nf tr nt nm fy fb od pa rp se im qd hm (va_up (gvOf S I P pt ap fa wh st) (191 + 2 * k) v)) : XS ca b C wt ab be nd fr tt le mo nf tr nt nm fy fb od pa rp se im qd hm (gvOf S I (va_up P k v) pt ap fa wh st) := XS_gv h (fun g hg => by
  by_cases q : g = 191 + 2 * k
  · subst q; rw [va_up_self, gv_P hk, va_up_self]
  · rw [va_up_ne _ _ q]
    unfold gvOf
    by_cases q2 : g < 191
    · simp only [q2, if_true]
    · by_cases q4 : g = 215
      · simp [q4]
      · by_cases q5 : g = 217
        · simp [q5]
        · rw [va_up_ne _ _ (by unfold gid at hg; omega)])
theorem XS_same {gv : Nat → Nat} {C1 : Nat → va_E} {g : Nat} (h : XS ca b C wt ab be nd fr tt le mo nf tr nt nm fy fb od pa rp se im qd hm gv) (hg : gid g) (h1 : isG ca b C1 g (gv g)) (h2 : ∀ k, k ≠ g → k ≠ g + 1 → C1 k = C k) : XS ca b C1 wt ab be nd fr tt le mo nf tr nt nm fy fb od pa rp se im qd hm gv :=
  XS_gv (XS_set_gv h hg h1 h2) (fun k _ => by
    by_cases q : k = g
    · subst q; rw [va_up_self]
    · rw [va_up_ne _ _ q])
end GV
set_option maxHeartbeats 4000000 in
set_option maxRecDepth 100000 in
/-- a year is fixed -/
theorem c_PA_fixDate (l : Launch) (D : va_G) (ca : Nat → ClassId) (b : Nat) (C0 : Nat → va_E) {wt : Nat → Nat → Nat} {ab : Nat → Nat} {be : Nat → Nat} {nd : Nat} {fr : Nat → Nat} {tt : Nat → Option Nat} {le : Nat → Nat} {mo : Nat → Nat} {nf : Nat → Bool} {tr : Nat → Nat} {nt : Nat} {nm : Nat} {fy : Nat → Option Nat} {fb : Nat → Option Nat} {od : Nat → Nat} {pa : Nat → Option Nat} {rp : Nat → Option Nat} {se : Nat → Bool} {im : Nat → Bool} {qd : Nat} {hm : Nat} {S : Nat → Nat → Nat} {I : Nat → Nat} {P : Nat → Nat} {pt : Nat} {ap : Nat} {fa : Nat} {wh : Nat} {st : Nat} (d y : Nat) (hX : XS ca b C0 wt ab be nd fr tt le mo nf tr nt nm fy fb od pa rp se im qd hm (gvOf S I P pt ap fa wh st)) (hd : d < 6) : Met l y_PA_fixDate (k_PA_fixDate :: gw) ({ frames := 1, cells := 0, slots := 0, locals := 12 }) (xPc D ca b 219 C0 [.ref (b + 18), .int (nI d), .int (nI y)]) (xQ D b 219 (fun r C1 => r = none ∧ XS ca b C1 wt ab be nd fr tt le mo nf tr nt nm (va_up fy d (some y)) fb od pa rp se im qd hm (gvOf S I P pt ap fa wh st))) 0 0 (xr b 219) := by
  refine Met.ofW (cc := b_PA_fixDate) (maxL := 3) (ret := none) (by decide) rfl ?_
  intro p e s m args below meth c s₁ B hml hv
  obtain ⟨hav, hP, hK⟩ := hv
  have hx := B.exec
  have hb := B.bytes
  have hr := B.returns
  have hts := atoms_spec (ws := k_PA_fixDate :: gw) B.pre
  have hown : s.vm.findClass R_PA = some m.cls := findClass_of_methodNamed B.named
  have hlocks := B.notSynchronized
  have hA : ∀ k, k < 219 → xr b 219 (b + k) := xr_in
  have hS : va_S (xr b 219) s.heap s.heap [] := va_S.rf
  have hl := lv_entry ([.ref (b + 18), .int (nI d), .int (nI y)]) (n := 3) (Nat.le_of_ble_eq_true rfl)
  rw [hav, lg_entry_eq]
  generalize (lg_sl ([.ref (b + 18), .int (nI d), .int (nI y)]) ++ List.replicate (3 - (lg_sl ([.ref (b + 18), .int (nI d), .int (nI y)])).length) Slot.unset).toArray = ls at hl ⊢
  have hl : lv_has ls 3 [(0, .ref (b + 18)), (1, .int (nI d)), (2, .int (nI y))] := hl
  rw [← hav]
  refine lv_aload_n hx hb d_PA_fixDate_0 rfl (lv_at hl 0 rfl) ?_
  refine xw_get (v := .ref (b + 28)) hx hb hts (fun w h => mw (uw_PA w h)) hown hK hP (XS_18 hX) (by decide) rfl 6 (by decide) (hts _ (mw tb_107)) (fun _ h => h) rfl d_PA_fixDate_1 ?_
  refine lv_iload_n hx hb d_PA_fixDate_4 rfl (lv_at hl 1 rfl) ?_
  refine lv_iload_n hx hb d_PA_fixDate_5 rfl (lv_at hl 2 rfl) ?_
  refine xw_iast hx hb hK hP hA hS 0 (XS_28 hX) (by decide) rfl (by omega) (by decide) d_PA_fixDate_6 (fun H locs hP hS => ?_)
  have hX := XS_set_fy (j := d) (x := (some y)) hX
  rw [show eo (some y) = nI y from rfl] at hX
  generalize va_up _ 28 _ = C at hP hX
  exact xw_vret hx hb hr hlocks hP hS ⟨rfl, hX⟩ d_PA_fixDate_7

set_option maxHeartbeats 4000000 in
set_option maxRecDepth 100000 in
/-- a year is fixed -/
theorem c_PA_fixBound (l : Launch) (D : va_G) (ca : Nat → ClassId) (b : Nat) (C0 : Nat → va_E) {wt : Nat → Nat → Nat} {ab : Nat → Nat} {be : Nat → Nat} {nd : Nat} {fr : Nat → Nat} {tt : Nat → Option Nat} {le : Nat → Nat} {mo : Nat → Nat} {nf : Nat → Bool} {tr : Nat → Nat} {nt : Nat} {nm : Nat} {fy : Nat → Option Nat} {fb : Nat → Option Nat} {od : Nat → Nat} {pa : Nat → Option Nat} {rp : Nat → Option Nat} {se : Nat → Bool} {im : Nat → Bool} {qd : Nat} {hm : Nat} {S : Nat → Nat → Nat} {I : Nat → Nat} {P : Nat → Nat} {pt : Nat} {ap : Nat} {fa : Nat} {wh : Nat} {st : Nat} (d y : Nat) (hX : XS ca b C0 wt ab be nd fr tt le mo nf tr nt nm fy fb od pa rp se im qd hm (gvOf S I P pt ap fa wh st)) (hd : d < 2) : Met l y_PA_fixBound (k_PA_fixBound :: gw) ({ frames := 1, cells := 0, slots := 0, locals := 12 }) (xPc D ca b 219 C0 [.ref (b + 18), .int (nI d), .int (nI y)]) (xQ D b 219 (fun r C1 => r = none ∧ XS ca b C1 wt ab be nd fr tt le mo nf tr nt nm fy (va_up fb d (some y)) od pa rp se im qd hm (gvOf S I P pt ap fa wh st))) 0 0 (xr b 219) := by
  refine Met.ofW (cc := b_PA_fixBound) (maxL := 3) (ret := none) (by decide) rfl ?_
  intro p e s m args below meth c s₁ B hml hv
  obtain ⟨hav, hP, hK⟩ := hv
  have hx := B.exec
  have hb := B.bytes
  have hr := B.returns
  have hts := atoms_spec (ws := k_PA_fixBound :: gw) B.pre
  have hown : s.vm.findClass R_PA = some m.cls := findClass_of_methodNamed B.named
  have hlocks := B.notSynchronized
  have hA : ∀ k, k < 219 → xr b 219 (b + k) := xr_in
  have hS : va_S (xr b 219) s.heap s.heap [] := va_S.rf
  have hl := lv_entry ([.ref (b + 18), .int (nI d), .int (nI y)]) (n := 3) (Nat.le_of_ble_eq_true rfl)
  rw [hav, lg_entry_eq]
  generalize (lg_sl ([.ref (b + 18), .int (nI d), .int (nI y)]) ++ List.replicate (3 - (lg_sl ([.ref (b + 18), .int (nI d), .int (nI y)])).length) Slot.unset).toArray = ls at hl ⊢
  have hl : lv_has ls 3 [(0, .ref (b + 18)), (1, .int (nI d)), (2, .int (nI y))] := hl
  rw [← hav]
  refine lv_aload_n hx hb d_PA_fixBound_0 rfl (lv_at hl 0 rfl) ?_
  refine xw_get (v := .ref (b + 29)) hx hb hts (fun w h => mw (uw_PA w h)) hown hK hP (XS_18 hX) (by decide) rfl 7 (by decide) (hts _ (mw tb_108)) (fun _ h => h) rfl d_PA_fixBound_1 ?_
  refine lv_iload_n hx hb d_PA_fixBound_4 rfl (lv_at hl 1 rfl) ?_
  refine lv_iload_n hx hb d_PA_fixBound_5 rfl (lv_at hl 2 rfl) ?_
  refine xw_iast hx hb hK hP hA hS 0 (XS_29 hX) (by decide) rfl (by omega) (by decide) d_PA_fixBound_6 (fun H locs hP hS => ?_)
  have hX := XS_set_fb (j := d) (x := (some y)) hX
  rw [show eo (some y) = nI y from rfl] at hX
  generalize va_up _ 29 _ = C at hP hX
  exact xw_vret hx hb hr hlocks hP hS ⟨rfl, hX⟩ d_PA_fixBound_7

set_option maxHeartbeats 4000000 in
set_option maxRecDepth 100000 in
/-- the Great of a date and a year -/
theorem c_PA_sumAt (l : Launch) (D : va_G) (ca : Nat → ClassId) (b : Nat) (C0 : Nat → va_E) {wt : Nat → Nat → Nat} {ab : Nat → Nat} {be : Nat → Nat} {nd : Nat} {fr : Nat → Nat} {tt : Nat → Option Nat} {le : Nat → Nat} {mo : Nat → Nat} {nf : Nat → Bool} {tr : Nat → Nat} {nt : Nat} {nm : Nat} {fy : Nat → Option Nat} {fb : Nat → Option Nat} {od : Nat → Nat} {pa : Nat → Option Nat} {rp : Nat → Option Nat} {se : Nat → Bool} {im : Nat → Bool} {qd : Nat} {hm : Nat} {S : Nat → Nat → Nat} {I : Nat → Nat} {P : Nat → Nat} {pt : Nat} {ap : Nat} {fa : Nat} {wh : Nat} {st : Nat} (d y : Nat) (hX : XS ca b C0 wt ab be nd fr tt le mo nf tr nt nm fy fb od pa rp se im qd hm (gvOf S I P pt ap fa wh st)) (hd : d < 6) (hy : y < 12) : Met l y_PA_sumAt (k_PA_sumAt :: gw) ({ frames := 1, cells := 0, slots := 0, locals := 12 }) (xPc D ca b 219 C0 [.ref (b + 18), .int (nI d), .int (nI y)]) (xQ D b 219 (fun r C1 => r = some (.ref (b + (35 + 2 * (d * 12 + y)))) ∧ XS ca b C1 wt ab be nd fr tt le mo nf tr nt nm fy fb od pa rp se im qd hm (gvOf S I P pt ap fa wh st))) 0 0 (xr b 219) := by
  refine Met.ofW (cc := b_PA_sumAt) (maxL := 3) (ret := (some (FieldType.object "OrderPassing$Great"))) (by decide) rfl ?_
  intro p e s m args below meth c s₁ B hml hv
  obtain ⟨hav, hP, hK⟩ := hv
  have hx := B.exec
  have hb := B.bytes
  have hr := B.returns
  have hts := atoms_spec (ws := k_PA_sumAt :: gw) B.pre
  have hown : s.vm.findClass R_PA = some m.cls := findClass_of_methodNamed B.named
  have hlocks := B.notSynchronized
  have hA : ∀ k, k < 219 → xr b 219 (b + k) := xr_in
  have hS : va_S (xr b 219) s.heap s.heap [] := va_S.rf
  have hl := lv_entry ([.ref (b + 18), .int (nI d), .int (nI y)]) (n := 3) (Nat.le_of_ble_eq_true rfl)
  rw [hav, lg_entry_eq]
  generalize (lg_sl ([.ref (b + 18), .int (nI d), .int (nI y)]) ++ List.replicate (3 - (lg_sl ([.ref (b + 18), .int (nI d), .int (nI y)])).length) Slot.unset).toArray = ls at hl ⊢
  have hl : lv_has ls 3 [(0, .ref (b + 18)), (1, .int (nI d)), (2, .int (nI y))] := hl
  rw [← hav]
  refine lv_aload_n hx hb d_PA_sumAt_0 rfl (lv_at hl 0 rfl) ?_
  refine xw_get (v := .ref (b + 19)) hx hb hts (fun w h => mw (uw_PA w h)) hown hK hP (XS_18 hX) (by decide) rfl 0 (by decide) (hts _ (mw tb_101)) (fun _ h => h) rfl d_PA_sumAt_1 ?_
  refine lv_iload_n hx hb d_PA_sumAt_4 rfl (lv_at hl 1 rfl) ?_
  refine lv_bipush (v := nI 12) hx hb d_PA_sumAt_5 (by decide) ?_
  refine lv_imul hx hb d_PA_sumAt_7 ?_
  refine ti (nI (d * 12)) (pk_mul _ _) ?_
  refine lv_iload_n hx hb d_PA_sumAt_8 rfl (lv_at hl 2 rfl) ?_
  refine lv_iadd hx hb d_PA_sumAt_9 ?_
  refine ti (nI ((d * 12) + y)) (nI_add _ _) ?_
  refine xw_aald (q := b + (35 + 2 * ((d * 12) + y))) hx hb hK hP 3 (XS_19 hX) (by decide) rfl (by omega) (by decide) rfl d_PA_sumAt_10 ?_
  exact xw_aret hx hb hr hlocks hP hS ⟨rfl, hX⟩ d_PA_sumAt_11

/-- the sum of a date's years -/
abbrev tot (S : Nat → Nat → Nat) (d : Nat) : Nat := sm (S d) 12
/-- a date's years, each by a function, the first n of them done -/
def rowS (S : Nat → Nat → Nat) (d n : Nat) (F : Nat → Nat) : Nat → Nat → Nat := va_up S d (fun y => if y < n then F y else S d y)
theorem rowS_0 (S : Nat → Nat → Nat) (d : Nat) (F : Nat → Nat) : rowS S d 0 F = S := by
  funext k; unfold rowS
  by_cases q : k = d
  · subst q; rw [va_up_self]; funext y; simp
  · rw [va_up_ne _ _ q]
theorem rowS_s (S : Nat → Nat → Nat) (d n : Nat) (F : Nat → Nat) : upS (rowS S d n F) d n (F n) = rowS S d (n + 1) F := by
  funext k y
  unfold upS rowS
  by_cases q : k = d
  · subst q
    simp only [va_up_self]
    by_cases q2 : y = n
    · subst q2; rw [va_up_self]; simp
    · rw [va_up_ne _ _ q2]
      by_cases q3 : y < n
      · simp [q3, show y < n + 1 by omega]
      · simp [q3, show ¬ y < n + 1 by omega]
  · rw [va_up_ne _ _ q, va_up_ne _ _ q, va_up_ne _ _ q]
theorem rowS_at {S : Nat → Nat → Nat} {d n y : Nat} {F : Nat → Nat} (h : n ≤ y) : rowS S d n F d y = S d y := by
  unfold rowS; rw [va_up_self, if_neg (by omega)]
theorem rowS_ne {S : Nat → Nat → Nat} {d n k : Nat} {F : Nat → Nat} (h : k ≠ d) : rowS S d n F k = S k := by
  unfold rowS; rw [va_up_ne _ _ h]
set_option maxHeartbeats 4000000 in
set_option maxRecDepth 100000 in
/-- the sum of a date's years -/
theorem c_PA_addYears_pt (l : Launch) (D : va_G) (ca : Nat → ClassId) (b : Nat) (C0 : Nat → va_E) {wt : Nat → Nat → Nat} {ab : Nat → Nat} {be : Nat → Nat} {nd : Nat} {fr : Nat → Nat} {tt : Nat → Option Nat} {le : Nat → Nat} {mo : Nat → Nat} {nf : Nat → Bool} {tr : Nat → Nat} {nt : Nat} {nm : Nat} {fy : Nat → Option Nat} {fb : Nat → Option Nat} {od : Nat → Nat} {pa : Nat → Option Nat} {rp : Nat → Option Nat} {se : Nat → Bool} {im : Nat → Bool} {qd : Nat} {hm : Nat} {S : Nat → Nat → Nat} {I : Nat → Nat} {P : Nat → Nat} {pt : Nat} {ap : Nat} {fa : Nat} {wh : Nat} {st : Nat} (d : Nat) (hX : XS ca b C0 wt ab be nd fr tt le mo nf tr nt nm fy fb od pa rp se im qd hm (gvOf S I P pt ap fa wh st)) (hd : d < 6) : Met l y_PA_addYears (k_PA_addYears :: gw) ({ frames := 2, cells := 0, slots := 0, locals := 54 }) (xPc D ca b 219 C0 [.ref (b + 18), .int (nI d), .ref (b + 22)]) (xQ D b 219 (fun r C1 => r = none ∧ XS ca b C1 wt ab be nd fr tt le mo nf tr nt nm fy fb od pa rp se im qd hm (gvOf S I P (tot S d) ap fa wh st))) 0 0 (xr b 219) := by
  refine Met.ofW (cc := b_PA_addYears) (maxL := 4) (ret := none) (by decide) rfl ?_
  intro p e s m args below meth c s₁ B hml hv
  obtain ⟨hav, hP, hK⟩ := hv
  have hx := B.exec
  have hb := B.bytes
  have hr := B.returns
  have hts := atoms_spec (ws := k_PA_addYears :: gw) B.pre
  have hown : s.vm.findClass R_PA = some m.cls := findClass_of_methodNamed B.named
  have hlocks := B.notSynchronized
  have hA : ∀ k, k < 219 → xr b 219 (b + k) := xr_in
  have hS : va_S (xr b 219) s.heap s.heap [] := va_S.rf
  have hl := lv_entry ([.ref (b + 18), .int (nI d), .ref (b + 22)]) (n := 4) (Nat.le_of_ble_eq_true rfl)
  rw [hav, lg_entry_eq]
  generalize (lg_sl ([.ref (b + 18), .int (nI d), .ref (b + 22)]) ++ List.replicate (4 - (lg_sl ([.ref (b + 18), .int (nI d), .ref (b + 22)])).length) Slot.unset).toArray = ls at hl ⊢
  have hl : lv_has ls 4 [(0, .ref (b + 18)), (1, .int (nI d)), (2, .ref (b + 22))] := hl
  rw [← hav]
  refine lv_aload_n hx hb d_PA_addYears_0 rfl (lv_at hl 2 rfl) ?_
  refine lv_iconst (v := nI 0) hx hb d_PA_addYears_1 (by decide) ?_
  have hgi1 : gid 22 := (by unfold gid; decide)
  obtain ⟨ga1, gn1, hga1, hgb1, hgc1⟩ := XS_g hX 22 hgi1
  rw [gv_pt] at hgc1
  refine xc_V (n := 1) (As := [.int (nI 0)]) (rest := []) (st0 := _) hx hb hml hown hts (c_GR_set l D ca b 219 _ 22 gn1 _ ga1 0 hga1 hgb1 (by unfold gid at hgi1; omega) hgc1 (by decide)) km_GR_set tb_202 tb_178 tb_179 tb_5 (by decide +kernel) rfl rfl ⟨Nat.le_of_ble_eq_true rfl, Nat.le_of_ble_eq_true rfl⟩ hK hP hga1 (by unfold gid at hgi1; omega) rfl rfl rfl hl rfl (Nat.le_of_ble_eq_true rfl) d_PA_addYears_2 ⟨Nat.zero_le _, Nat.zero_le _⟩ hS (fun _ h => h) (fun v C H locs hp hP _ _ hS => ?_)
  obtain ⟨rfl, hG1, hG2⟩ := hp
  have hX := XS_set_gv hX hgi1 hG1 hG2
  have hX := gs_pt hX
  refine lv_iconst (v := nI 0) hx hb d_PA_addYears_5 (by decide) ?_
  refine lv_istore_n (lv' := [(3, .int (nI 0)), (0, .ref (b + 18)), (1, .int (nI d)), (2, .ref (b + 22))]) hx hb d_PA_addYears_6 rfl hl (by decide) rfl (fun ls hl => ?_)
  have loop7 : ∀ (r : Nat) (i : Nat) (C : Nat → va_E) (H : Heap) (locs : List Loc) (ls : Array Slot), 12 < i + r → i ≤ 12 → va_P D classes (wl b 219 C) H → va_S (xr b 219) s.heap H locs → XS ca b C wt ab be nd fr tt le mo nf tr nt nm fy fb od pa rp se im qd hm (gvOf S I P (sm (S d) i) ap fa wh st) → lv_has ls 4 [(0, .ref (b + 18)), (1, .int (nI d)), (2, .ref (b + 22)), (3, .int (nI i))] → W p l e (headSpec (k_PA_addYears :: gw) ({ frames := 2, cells := 0, slots := 0, locals := 54 })).room s m args below meth c H locs 0 0 (MQ below (xQ D b 219 (fun r C1 => r = none ∧ XS ca b C1 wt ab be nd fr tt le mo nf tr nt nm fy fb od pa rp se im qd hm (gvOf S I P (tot S d) ap fa wh st))) args s 0 0 (xr b 219)) (F0 m 7 ls []) := by
    intro r
    induction r with
    | zero => intro i C H locs ls hms hi; exact absurd hms (by omega)
    | succ r ih7 =>
      intro i C H locs ls hms hi hP hS hX hl
      refine lv_iload_n hx hb d_PA_addYears_7 rfl (lv_at hl 3 rfl) ?_
      refine lv_bipush (v := nI 12) hx hb d_PA_addYears_8 (by decide) ?_
      refine xi_ge (tgt := 29) hx hb d_PA_addYears_10 (by decide) (by omega) (by omega) (fun h10 => ?_) (fun h10 => ?_)
      · skip
        have ei : i = 12 := by omega
        rw [ei] at hX
        exact xw_vret hx hb hr hlocks hP hS ⟨rfl, hX⟩ d_PA_addYears_29
      · skip
        refine lv_aload_n hx hb d_PA_addYears_13 rfl (lv_at hl 2 rfl) ?_
        refine lv_aload_n hx hb d_PA_addYears_14 rfl (lv_at hl 0 rfl) ?_
        refine lv_iload_n hx hb d_PA_addYears_15 rfl (lv_at hl 1 rfl) ?_
        refine lv_iload_n hx hb d_PA_addYears_16 rfl (lv_at hl 3 rfl) ?_
        refine xc_V (n := 2) (As := [.int (nI d), .int (nI i)]) (rest := [.ref (b + 22)]) (st0 := _) hx hb hml hown hts (c_PA_sumAt l D ca b _ d i hX (by omega) (by omega)) km_PA_sumAt tb_194 tb_195 tb_196 tb_4 (by decide +kernel) rfl rfl ⟨Nat.le_of_ble_eq_true rfl, Nat.le_of_ble_eq_true rfl⟩ hK hP (XS_18 hX) (by decide) rfl rfl rfl hl rfl (Nat.le_of_ble_eq_true rfl) d_PA_addYears_17 ⟨Nat.zero_le _, Nat.zero_le _⟩ hS (fun _ h => h) (fun v C H locs hp hP _ _ hS => ?_)
        obtain ⟨rfl, hX⟩ := hp
        have hgi2 : gid 22 := (by unfold gid; decide)
        obtain ⟨ga2, gn2, hga2, hgb2, hgc2⟩ := XS_g hX 22 hgi2
        rw [gv_pt] at hgc2
        have hoi2 : gid ((35 + 2 * (d * 12 + i))) := (by unfold gid; omega)
        obtain ⟨oa2, on2, hoa2, hob2, hoc2⟩ := XS_g hX ((35 + 2 * (d * 12 + i))) hoi2
        rw [gv_S (by omega) (by omega)] at hoc2
        have hne2 : 22 ≠ ((35 + 2 * (d * 12 + i))) := by omega
        refine xc_V (n := 1) (As := [.ref (b + (35 + 2 * (d * 12 + i)))]) (rest := []) (st0 := _) hx hb hml hown hts (c_GR_add l D ca b 219 _ 22 ((35 + 2 * (d * 12 + i))) gn2 _ on2 _ ga2 oa2 hga2 hgb2 hoa2 hob2 (by unfold gid at hgi2; omega) (by unfold gid at hoi2; omega) ⟨hne2, by unfold gid at hgi2 hoi2; omega, by unfold gid at hgi2 hoi2; omega⟩ hgc2 hoc2) km_GR_add tb_253 tb_254 tb_255 tb_5 (by decide +kernel) rfl rfl ⟨Nat.le_of_ble_eq_true rfl, Nat.le_of_ble_eq_true rfl⟩ hK hP hga2 (by unfold gid at hgi2; omega) rfl rfl rfl hl rfl (Nat.le_of_ble_eq_true rfl) d_PA_addYears_20 ⟨Nat.zero_le _, Nat.zero_le _⟩ hS (fun _ h => h) (fun v C H locs hp hP _ _ hS => ?_)
        obtain ⟨rfl, hG1, hG2⟩ := hp
        have hX := XS_set_gv hX hgi2 hG1 hG2
        have hX := gs_pt hX
        refine lv_iinc (v := nI (i + 1)) (lv' := [(3, .int (nI (i + 1))), (0, .ref (b + 18)), (1, .int (nI d)), (2, .ref (b + 22))]) hx hb d_PA_addYears_23 hl (k := 3) rfl (show nI i + Int32.ofInt 1 = nI (i + 1) from nI_add _ _) (by decide) rfl (fun ls hl => ?_)
        refine lv_goto (tgt := 7) hx hb d_PA_addYears_26 (by decide) ?_
        exact ih7 (i + 1) _ _ _ _ (by omega) (by omega) hP hS hX (lv_sub hl [1, 2, 3, 0] rfl)
  exact loop7 13 0 _ _ _ _ (by omega) (by omega) hP hS hX (lv_sub hl [1, 2, 3, 0] rfl)

set_option maxHeartbeats 4000000 in
set_option maxRecDepth 100000 in
/-- the sum of a date's years -/
theorem c_PA_addYears_wh (l : Launch) (D : va_G) (ca : Nat → ClassId) (b : Nat) (C0 : Nat → va_E) {wt : Nat → Nat → Nat} {ab : Nat → Nat} {be : Nat → Nat} {nd : Nat} {fr : Nat → Nat} {tt : Nat → Option Nat} {le : Nat → Nat} {mo : Nat → Nat} {nf : Nat → Bool} {tr : Nat → Nat} {nt : Nat} {nm : Nat} {fy : Nat → Option Nat} {fb : Nat → Option Nat} {od : Nat → Nat} {pa : Nat → Option Nat} {rp : Nat → Option Nat} {se : Nat → Bool} {im : Nat → Bool} {qd : Nat} {hm : Nat} {S : Nat → Nat → Nat} {I : Nat → Nat} {P : Nat → Nat} {pt : Nat} {ap : Nat} {fa : Nat} {wh : Nat} {st : Nat} (d : Nat) (hX : XS ca b C0 wt ab be nd fr tt le mo nf tr nt nm fy fb od pa rp se im qd hm (gvOf S I P pt ap fa wh st)) (hd : d < 6) : Met l y_PA_addYears (k_PA_addYears :: gw) ({ frames := 2, cells := 0, slots := 0, locals := 54 }) (xPc D ca b 219 C0 [.ref (b + 18), .int (nI d), .ref (b + 215)]) (xQ D b 219 (fun r C1 => r = none ∧ XS ca b C1 wt ab be nd fr tt le mo nf tr nt nm fy fb od pa rp se im qd hm (gvOf S I P pt ap fa (tot S d) st))) 0 0 (xr b 219) := by
  refine Met.ofW (cc := b_PA_addYears) (maxL := 4) (ret := none) (by decide) rfl ?_
  intro p e s m args below meth c s₁ B hml hv
  obtain ⟨hav, hP, hK⟩ := hv
  have hx := B.exec
  have hb := B.bytes
  have hr := B.returns
  have hts := atoms_spec (ws := k_PA_addYears :: gw) B.pre
  have hown : s.vm.findClass R_PA = some m.cls := findClass_of_methodNamed B.named
  have hlocks := B.notSynchronized
  have hA : ∀ k, k < 219 → xr b 219 (b + k) := xr_in
  have hS : va_S (xr b 219) s.heap s.heap [] := va_S.rf
  have hl := lv_entry ([.ref (b + 18), .int (nI d), .ref (b + 215)]) (n := 4) (Nat.le_of_ble_eq_true rfl)
  rw [hav, lg_entry_eq]
  generalize (lg_sl ([.ref (b + 18), .int (nI d), .ref (b + 215)]) ++ List.replicate (4 - (lg_sl ([.ref (b + 18), .int (nI d), .ref (b + 215)])).length) Slot.unset).toArray = ls at hl ⊢
  have hl : lv_has ls 4 [(0, .ref (b + 18)), (1, .int (nI d)), (2, .ref (b + 215))] := hl
  rw [← hav]
  refine lv_aload_n hx hb d_PA_addYears_0 rfl (lv_at hl 2 rfl) ?_
  refine lv_iconst (v := nI 0) hx hb d_PA_addYears_1 (by decide) ?_
  have hgi1 : gid 215 := (by unfold gid; decide)
  obtain ⟨ga1, gn1, hga1, hgb1, hgc1⟩ := XS_g hX 215 hgi1
  rw [gv_wh] at hgc1
  refine xc_V (n := 1) (As := [.int (nI 0)]) (rest := []) (st0 := _) hx hb hml hown hts (c_GR_set l D ca b 219 _ 215 gn1 _ ga1 0 hga1 hgb1 (by unfold gid at hgi1; omega) hgc1 (by decide)) km_GR_set tb_202 tb_178 tb_179 tb_5 (by decide +kernel) rfl rfl ⟨Nat.le_of_ble_eq_true rfl, Nat.le_of_ble_eq_true rfl⟩ hK hP hga1 (by unfold gid at hgi1; omega) rfl rfl rfl hl rfl (Nat.le_of_ble_eq_true rfl) d_PA_addYears_2 ⟨Nat.zero_le _, Nat.zero_le _⟩ hS (fun _ h => h) (fun v C H locs hp hP _ _ hS => ?_)
  obtain ⟨rfl, hG1, hG2⟩ := hp
  have hX := XS_set_gv hX hgi1 hG1 hG2
  have hX := gs_wh hX
  refine lv_iconst (v := nI 0) hx hb d_PA_addYears_5 (by decide) ?_
  refine lv_istore_n (lv' := [(3, .int (nI 0)), (0, .ref (b + 18)), (1, .int (nI d)), (2, .ref (b + 215))]) hx hb d_PA_addYears_6 rfl hl (by decide) rfl (fun ls hl => ?_)
  have loop7 : ∀ (r : Nat) (i : Nat) (C : Nat → va_E) (H : Heap) (locs : List Loc) (ls : Array Slot), 12 < i + r → i ≤ 12 → va_P D classes (wl b 219 C) H → va_S (xr b 219) s.heap H locs → XS ca b C wt ab be nd fr tt le mo nf tr nt nm fy fb od pa rp se im qd hm (gvOf S I P pt ap fa (sm (S d) i) st) → lv_has ls 4 [(0, .ref (b + 18)), (1, .int (nI d)), (2, .ref (b + 215)), (3, .int (nI i))] → W p l e (headSpec (k_PA_addYears :: gw) ({ frames := 2, cells := 0, slots := 0, locals := 54 })).room s m args below meth c H locs 0 0 (MQ below (xQ D b 219 (fun r C1 => r = none ∧ XS ca b C1 wt ab be nd fr tt le mo nf tr nt nm fy fb od pa rp se im qd hm (gvOf S I P pt ap fa (tot S d) st))) args s 0 0 (xr b 219)) (F0 m 7 ls []) := by
    intro r
    induction r with
    | zero => intro i C H locs ls hms hi; exact absurd hms (by omega)
    | succ r ih7 =>
      intro i C H locs ls hms hi hP hS hX hl
      refine lv_iload_n hx hb d_PA_addYears_7 rfl (lv_at hl 3 rfl) ?_
      refine lv_bipush (v := nI 12) hx hb d_PA_addYears_8 (by decide) ?_
      refine xi_ge (tgt := 29) hx hb d_PA_addYears_10 (by decide) (by omega) (by omega) (fun h10 => ?_) (fun h10 => ?_)
      · skip
        have ei : i = 12 := by omega
        rw [ei] at hX
        exact xw_vret hx hb hr hlocks hP hS ⟨rfl, hX⟩ d_PA_addYears_29
      · skip
        refine lv_aload_n hx hb d_PA_addYears_13 rfl (lv_at hl 2 rfl) ?_
        refine lv_aload_n hx hb d_PA_addYears_14 rfl (lv_at hl 0 rfl) ?_
        refine lv_iload_n hx hb d_PA_addYears_15 rfl (lv_at hl 1 rfl) ?_
        refine lv_iload_n hx hb d_PA_addYears_16 rfl (lv_at hl 3 rfl) ?_
        refine xc_V (n := 2) (As := [.int (nI d), .int (nI i)]) (rest := [.ref (b + 215)]) (st0 := _) hx hb hml hown hts (c_PA_sumAt l D ca b _ d i hX (by omega) (by omega)) km_PA_sumAt tb_194 tb_195 tb_196 tb_4 (by decide +kernel) rfl rfl ⟨Nat.le_of_ble_eq_true rfl, Nat.le_of_ble_eq_true rfl⟩ hK hP (XS_18 hX) (by decide) rfl rfl rfl hl rfl (Nat.le_of_ble_eq_true rfl) d_PA_addYears_17 ⟨Nat.zero_le _, Nat.zero_le _⟩ hS (fun _ h => h) (fun v C H locs hp hP _ _ hS => ?_)
        obtain ⟨rfl, hX⟩ := hp
        have hgi2 : gid 215 := (by unfold gid; decide)
        obtain ⟨ga2, gn2, hga2, hgb2, hgc2⟩ := XS_g hX 215 hgi2
        rw [gv_wh] at hgc2
        have hoi2 : gid ((35 + 2 * (d * 12 + i))) := (by unfold gid; omega)
        obtain ⟨oa2, on2, hoa2, hob2, hoc2⟩ := XS_g hX ((35 + 2 * (d * 12 + i))) hoi2
        rw [gv_S (by omega) (by omega)] at hoc2
        have hne2 : 215 ≠ ((35 + 2 * (d * 12 + i))) := by omega
        refine xc_V (n := 1) (As := [.ref (b + (35 + 2 * (d * 12 + i)))]) (rest := []) (st0 := _) hx hb hml hown hts (c_GR_add l D ca b 219 _ 215 ((35 + 2 * (d * 12 + i))) gn2 _ on2 _ ga2 oa2 hga2 hgb2 hoa2 hob2 (by unfold gid at hgi2; omega) (by unfold gid at hoi2; omega) ⟨hne2, by unfold gid at hgi2 hoi2; omega, by unfold gid at hgi2 hoi2; omega⟩ hgc2 hoc2) km_GR_add tb_253 tb_254 tb_255 tb_5 (by decide +kernel) rfl rfl ⟨Nat.le_of_ble_eq_true rfl, Nat.le_of_ble_eq_true rfl⟩ hK hP hga2 (by unfold gid at hgi2; omega) rfl rfl rfl hl rfl (Nat.le_of_ble_eq_true rfl) d_PA_addYears_20 ⟨Nat.zero_le _, Nat.zero_le _⟩ hS (fun _ h => h) (fun v C H locs hp hP _ _ hS => ?_)
        obtain ⟨rfl, hG1, hG2⟩ := hp
        have hX := XS_set_gv hX hgi2 hG1 hG2
        have hX := gs_wh hX
        refine lv_iinc (v := nI (i + 1)) (lv' := [(3, .int (nI (i + 1))), (0, .ref (b + 18)), (1, .int (nI d)), (2, .ref (b + 215))]) hx hb d_PA_addYears_23 hl (k := 3) rfl (show nI i + Int32.ofInt 1 = nI (i + 1) from nI_add _ _) (by decide) rfl (fun ls hl => ?_)
        refine lv_goto (tgt := 7) hx hb d_PA_addYears_26 (by decide) ?_
        exact ih7 (i + 1) _ _ _ _ (by omega) (by omega) hP hS hX (lv_sub hl [1, 2, 3, 0] rfl)
  exact loop7 13 0 _ _ _ _ (by omega) (by omega) hP hS hX (lv_sub hl [1, 2, 3, 0] rfl)

set_option maxHeartbeats 4000000 in
set_option maxRecDepth 100000 in
/-- a date's years by a number -/
theorem c_PA_multiplyYears_fa (l : Launch) (D : va_G) (ca : Nat → ClassId) (b : Nat) (C0 : Nat → va_E) {wt : Nat → Nat → Nat} {ab : Nat → Nat} {be : Nat → Nat} {nd : Nat} {fr : Nat → Nat} {tt : Nat → Option Nat} {le : Nat → Nat} {mo : Nat → Nat} {nf : Nat → Bool} {tr : Nat → Nat} {nt : Nat} {nm : Nat} {fy : Nat → Option Nat} {fb : Nat → Option Nat} {od : Nat → Nat} {pa : Nat → Option Nat} {rp : Nat → Option Nat} {se : Nat → Bool} {im : Nat → Bool} {qd : Nat} {hm : Nat} {S : Nat → Nat → Nat} {I : Nat → Nat} {P : Nat → Nat} {pt : Nat} {ap : Nat} {fa : Nat} {wh : Nat} {st : Nat} (d : Nat) (hX : XS ca b C0 wt ab be nd fr tt le mo nf tr nt nm fy fb od pa rp se im qd hm (gvOf S I P pt ap fa wh st)) (hd : d < 6) : Met l y_PA_multiplyYears (k_PA_multiplyYears :: gw) ({ frames := 2, cells := 0, slots := 0, locals := 60 }) (xPc D ca b 219 C0 [.ref (b + 18), .int (nI d), .ref (b + 26)]) (xQ D b 219 (fun r C1 => r = none ∧ XS ca b C1 wt ab be nd fr tt le mo nf tr nt nm fy fb od pa rp se im qd hm (gvOf (rowS S d 12 (fun y => S d y * fa)) I P pt ap fa wh st))) 0 0 (xr b 219) := by
  refine Met.ofW (cc := b_PA_multiplyYears) (maxL := 4) (ret := none) (by decide) rfl ?_
  intro p e s m args below meth c s₁ B hml hv
  obtain ⟨hav, hP, hK⟩ := hv
  have hx := B.exec
  have hb := B.bytes
  have hr := B.returns
  have hts := atoms_spec (ws := k_PA_multiplyYears :: gw) B.pre
  have hown : s.vm.findClass R_PA = some m.cls := findClass_of_methodNamed B.named
  have hlocks := B.notSynchronized
  have hA : ∀ k, k < 219 → xr b 219 (b + k) := xr_in
  have hS : va_S (xr b 219) s.heap s.heap [] := va_S.rf
  have hl := lv_entry ([.ref (b + 18), .int (nI d), .ref (b + 26)]) (n := 4) (Nat.le_of_ble_eq_true rfl)
  rw [hav, lg_entry_eq]
  generalize (lg_sl ([.ref (b + 18), .int (nI d), .ref (b + 26)]) ++ List.replicate (4 - (lg_sl ([.ref (b + 18), .int (nI d), .ref (b + 26)])).length) Slot.unset).toArray = ls at hl ⊢
  have hl : lv_has ls 4 [(0, .ref (b + 18)), (1, .int (nI d)), (2, .ref (b + 26))] := hl
  rw [← hav]
  refine lv_iconst (v := nI 0) hx hb d_PA_multiplyYears_0 (by decide) ?_
  refine lv_istore_n (lv' := [(3, .int (nI 0)), (0, .ref (b + 18)), (1, .int (nI d)), (2, .ref (b + 26))]) hx hb d_PA_multiplyYears_1 rfl hl (by decide) rfl (fun ls hl => ?_)
  have loop2 : ∀ (r : Nat) (i : Nat) (C : Nat → va_E) (H : Heap) (locs : List Loc) (ls : Array Slot), 12 < i + r → i ≤ 12 → va_P D classes (wl b 219 C) H → va_S (xr b 219) s.heap H locs → XS ca b C wt ab be nd fr tt le mo nf tr nt nm fy fb od pa rp se im qd hm (gvOf (rowS S d i (fun y => S d y * fa)) I P pt ap fa wh st) → lv_has ls 4 [(0, .ref (b + 18)), (1, .int (nI d)), (2, .ref (b + 26)), (3, .int (nI i))] → W p l e (headSpec (k_PA_multiplyYears :: gw) ({ frames := 2, cells := 0, slots := 0, locals := 60 })).room s m args below meth c H locs 0 0 (MQ below (xQ D b 219 (fun r C1 => r = none ∧ XS ca b C1 wt ab be nd fr tt le mo nf tr nt nm fy fb od pa rp se im qd hm (gvOf (rowS S d 12 (fun y => S d y * fa)) I P pt ap fa wh st))) args s 0 0 (xr b 219)) (F0 m 2 ls []) := by
    intro r
    induction r with
    | zero => intro i C H locs ls hms hi; exact absurd hms (by omega)
    | succ r ih2 =>
      intro i C H locs ls hms hi hP hS hX hl
      refine lv_iload_n hx hb d_PA_multiplyYears_2 rfl (lv_at hl 3 rfl) ?_
      refine lv_bipush (v := nI 12) hx hb d_PA_multiplyYears_3 (by decide) ?_
      refine xi_ge (tgt := 24) hx hb d_PA_multiplyYears_5 (by decide) (by omega) (by omega) (fun h5 => ?_) (fun h5 => ?_)
      · skip
        have ei : i = 12 := by omega
        rw [ei] at hX
        exact xw_vret hx hb hr hlocks hP hS ⟨rfl, hX⟩ d_PA_multiplyYears_24
      · skip
        refine lv_aload_n hx hb d_PA_multiplyYears_8 rfl (lv_at hl 0 rfl) ?_
        refine lv_iload_n hx hb d_PA_multiplyYears_9 rfl (lv_at hl 1 rfl) ?_
        refine lv_iload_n hx hb d_PA_multiplyYears_10 rfl (lv_at hl 3 rfl) ?_
        refine xc_V (n := 2) (As := [.int (nI d), .int (nI i)]) (rest := []) (st0 := _) hx hb hml hown hts (c_PA_sumAt l D ca b _ d i hX (by omega) (by omega)) km_PA_sumAt tb_194 tb_195 tb_196 tb_4 (by decide +kernel) rfl rfl ⟨Nat.le_of_ble_eq_true rfl, Nat.le_of_ble_eq_true rfl⟩ hK hP (XS_18 hX) (by decide) rfl rfl rfl hl rfl (Nat.le_of_ble_eq_true rfl) d_PA_multiplyYears_11 ⟨Nat.zero_le _, Nat.zero_le _⟩ hS (fun _ h => h) (fun v C H locs hp hP _ _ hS => ?_)
        obtain ⟨rfl, hX⟩ := hp
        refine lv_aload_n hx hb d_PA_multiplyYears_14 rfl (lv_at hl 2 rfl) ?_
        have hgi1 : gid ((35 + 2 * (d * 12 + i))) := (by unfold gid; omega)
        obtain ⟨ga1, gn1, hga1, hgb1, hgc1⟩ := XS_g hX ((35 + 2 * (d * 12 + i))) hgi1
        rw [gv_S (by omega) (by omega)] at hgc1
        have hoi1 : gid 26 := (by unfold gid; decide)
        obtain ⟨oa1, on1, hoa1, hob1, hoc1⟩ := XS_g hX 26 hoi1
        rw [gv_fa] at hoc1
        have hne1 : ((35 + 2 * (d * 12 + i))) ≠ 26 := by omega
        refine xc_V (n := 1) (As := [.ref (b + 26)]) (rest := []) (st0 := _) hx hb hml hown hts (c_GR_multiply l D ca b 219 _ ((35 + 2 * (d * 12 + i))) 26 gn1 _ on1 _ ga1 oa1 hga1 hgb1 hoa1 hob1 (by unfold gid at hgi1; omega) (by unfold gid at hoi1; omega) ⟨hne1, by unfold gid at hgi1 hoi1; omega, by unfold gid at hgi1 hoi1; omega⟩ hgc1 hoc1) km_GR_multiply tb_258 tb_259 tb_260 tb_5 (by decide +kernel) rfl rfl ⟨Nat.le_of_ble_eq_true rfl, Nat.le_of_ble_eq_true rfl⟩ hK hP hga1 (by unfold gid at hgi1; omega) rfl rfl rfl hl rfl (Nat.le_of_ble_eq_true rfl) d_PA_multiplyYears_15 ⟨Nat.zero_le _, Nat.zero_le _⟩ hS (fun _ h => h) (fun v C H locs hp hP _ _ hS => ?_)
        obtain ⟨rfl, hG1, hG2⟩ := hp
        have hX := XS_set_gv hX hgi1 hG1 hG2
        have hX := gs_S (d := d) (y := i) (by omega) (by omega) hX
        refine lv_iinc (v := nI (i + 1)) (lv' := [(3, .int (nI (i + 1))), (0, .ref (b + 18)), (1, .int (nI d)), (2, .ref (b + 26))]) hx hb d_PA_multiplyYears_18 hl (k := 3) rfl (show nI i + Int32.ofInt 1 = nI (i + 1) from nI_add _ _) (by decide) rfl (fun ls hl => ?_)
        refine lv_goto (tgt := 2) hx hb d_PA_multiplyYears_21 (by decide) ?_
        rw [rowS_at (Nat.le_refl i), rowS_s S d i (fun y => S d y * fa)] at hX
        exact ih2 (i + 1) _ _ _ _ (by omega) (by omega) hP hS hX (lv_sub hl [1, 2, 3, 0] rfl)
  rw [← rowS_0 S d (fun y => S d y * fa)] at hX
  exact loop2 13 0 _ _ _ _ (by omega) (by omega) hP hS hX (lv_sub hl [1, 2, 3, 0] rfl)

set_option maxHeartbeats 4000000 in
set_option maxRecDepth 100000 in
/-- a date's years by a number -/
theorem c_PA_multiplyYears_st (l : Launch) (D : va_G) (ca : Nat → ClassId) (b : Nat) (C0 : Nat → va_E) {wt : Nat → Nat → Nat} {ab : Nat → Nat} {be : Nat → Nat} {nd : Nat} {fr : Nat → Nat} {tt : Nat → Option Nat} {le : Nat → Nat} {mo : Nat → Nat} {nf : Nat → Bool} {tr : Nat → Nat} {nt : Nat} {nm : Nat} {fy : Nat → Option Nat} {fb : Nat → Option Nat} {od : Nat → Nat} {pa : Nat → Option Nat} {rp : Nat → Option Nat} {se : Nat → Bool} {im : Nat → Bool} {qd : Nat} {hm : Nat} {S : Nat → Nat → Nat} {I : Nat → Nat} {P : Nat → Nat} {pt : Nat} {ap : Nat} {fa : Nat} {wh : Nat} {st : Nat} (d : Nat) (hX : XS ca b C0 wt ab be nd fr tt le mo nf tr nt nm fy fb od pa rp se im qd hm (gvOf S I P pt ap fa wh st)) (hd : d < 6) : Met l y_PA_multiplyYears (k_PA_multiplyYears :: gw) ({ frames := 2, cells := 0, slots := 0, locals := 60 }) (xPc D ca b 219 C0 [.ref (b + 18), .int (nI d), .ref (b + 217)]) (xQ D b 219 (fun r C1 => r = none ∧ XS ca b C1 wt ab be nd fr tt le mo nf tr nt nm fy fb od pa rp se im qd hm (gvOf (rowS S d 12 (fun y => S d y * st)) I P pt ap fa wh st))) 0 0 (xr b 219) := by
  refine Met.ofW (cc := b_PA_multiplyYears) (maxL := 4) (ret := none) (by decide) rfl ?_
  intro p e s m args below meth c s₁ B hml hv
  obtain ⟨hav, hP, hK⟩ := hv
  have hx := B.exec
  have hb := B.bytes
  have hr := B.returns
  have hts := atoms_spec (ws := k_PA_multiplyYears :: gw) B.pre
  have hown : s.vm.findClass R_PA = some m.cls := findClass_of_methodNamed B.named
  have hlocks := B.notSynchronized
  have hA : ∀ k, k < 219 → xr b 219 (b + k) := xr_in
  have hS : va_S (xr b 219) s.heap s.heap [] := va_S.rf
  have hl := lv_entry ([.ref (b + 18), .int (nI d), .ref (b + 217)]) (n := 4) (Nat.le_of_ble_eq_true rfl)
  rw [hav, lg_entry_eq]
  generalize (lg_sl ([.ref (b + 18), .int (nI d), .ref (b + 217)]) ++ List.replicate (4 - (lg_sl ([.ref (b + 18), .int (nI d), .ref (b + 217)])).length) Slot.unset).toArray = ls at hl ⊢
  have hl : lv_has ls 4 [(0, .ref (b + 18)), (1, .int (nI d)), (2, .ref (b + 217))] := hl
  rw [← hav]
  refine lv_iconst (v := nI 0) hx hb d_PA_multiplyYears_0 (by decide) ?_
  refine lv_istore_n (lv' := [(3, .int (nI 0)), (0, .ref (b + 18)), (1, .int (nI d)), (2, .ref (b + 217))]) hx hb d_PA_multiplyYears_1 rfl hl (by decide) rfl (fun ls hl => ?_)
  have loop2 : ∀ (r : Nat) (i : Nat) (C : Nat → va_E) (H : Heap) (locs : List Loc) (ls : Array Slot), 12 < i + r → i ≤ 12 → va_P D classes (wl b 219 C) H → va_S (xr b 219) s.heap H locs → XS ca b C wt ab be nd fr tt le mo nf tr nt nm fy fb od pa rp se im qd hm (gvOf (rowS S d i (fun y => S d y * st)) I P pt ap fa wh st) → lv_has ls 4 [(0, .ref (b + 18)), (1, .int (nI d)), (2, .ref (b + 217)), (3, .int (nI i))] → W p l e (headSpec (k_PA_multiplyYears :: gw) ({ frames := 2, cells := 0, slots := 0, locals := 60 })).room s m args below meth c H locs 0 0 (MQ below (xQ D b 219 (fun r C1 => r = none ∧ XS ca b C1 wt ab be nd fr tt le mo nf tr nt nm fy fb od pa rp se im qd hm (gvOf (rowS S d 12 (fun y => S d y * st)) I P pt ap fa wh st))) args s 0 0 (xr b 219)) (F0 m 2 ls []) := by
    intro r
    induction r with
    | zero => intro i C H locs ls hms hi; exact absurd hms (by omega)
    | succ r ih2 =>
      intro i C H locs ls hms hi hP hS hX hl
      refine lv_iload_n hx hb d_PA_multiplyYears_2 rfl (lv_at hl 3 rfl) ?_
      refine lv_bipush (v := nI 12) hx hb d_PA_multiplyYears_3 (by decide) ?_
      refine xi_ge (tgt := 24) hx hb d_PA_multiplyYears_5 (by decide) (by omega) (by omega) (fun h5 => ?_) (fun h5 => ?_)
      · skip
        have ei : i = 12 := by omega
        rw [ei] at hX
        exact xw_vret hx hb hr hlocks hP hS ⟨rfl, hX⟩ d_PA_multiplyYears_24
      · skip
        refine lv_aload_n hx hb d_PA_multiplyYears_8 rfl (lv_at hl 0 rfl) ?_
        refine lv_iload_n hx hb d_PA_multiplyYears_9 rfl (lv_at hl 1 rfl) ?_
        refine lv_iload_n hx hb d_PA_multiplyYears_10 rfl (lv_at hl 3 rfl) ?_
        refine xc_V (n := 2) (As := [.int (nI d), .int (nI i)]) (rest := []) (st0 := _) hx hb hml hown hts (c_PA_sumAt l D ca b _ d i hX (by omega) (by omega)) km_PA_sumAt tb_194 tb_195 tb_196 tb_4 (by decide +kernel) rfl rfl ⟨Nat.le_of_ble_eq_true rfl, Nat.le_of_ble_eq_true rfl⟩ hK hP (XS_18 hX) (by decide) rfl rfl rfl hl rfl (Nat.le_of_ble_eq_true rfl) d_PA_multiplyYears_11 ⟨Nat.zero_le _, Nat.zero_le _⟩ hS (fun _ h => h) (fun v C H locs hp hP _ _ hS => ?_)
        obtain ⟨rfl, hX⟩ := hp
        refine lv_aload_n hx hb d_PA_multiplyYears_14 rfl (lv_at hl 2 rfl) ?_
        have hgi1 : gid ((35 + 2 * (d * 12 + i))) := (by unfold gid; omega)
        obtain ⟨ga1, gn1, hga1, hgb1, hgc1⟩ := XS_g hX ((35 + 2 * (d * 12 + i))) hgi1
        rw [gv_S (by omega) (by omega)] at hgc1
        have hoi1 : gid 217 := (by unfold gid; decide)
        obtain ⟨oa1, on1, hoa1, hob1, hoc1⟩ := XS_g hX 217 hoi1
        rw [gv_st] at hoc1
        have hne1 : ((35 + 2 * (d * 12 + i))) ≠ 217 := by omega
        refine xc_V (n := 1) (As := [.ref (b + 217)]) (rest := []) (st0 := _) hx hb hml hown hts (c_GR_multiply l D ca b 219 _ ((35 + 2 * (d * 12 + i))) 217 gn1 _ on1 _ ga1 oa1 hga1 hgb1 hoa1 hob1 (by unfold gid at hgi1; omega) (by unfold gid at hoi1; omega) ⟨hne1, by unfold gid at hgi1 hoi1; omega, by unfold gid at hgi1 hoi1; omega⟩ hgc1 hoc1) km_GR_multiply tb_258 tb_259 tb_260 tb_5 (by decide +kernel) rfl rfl ⟨Nat.le_of_ble_eq_true rfl, Nat.le_of_ble_eq_true rfl⟩ hK hP hga1 (by unfold gid at hgi1; omega) rfl rfl rfl hl rfl (Nat.le_of_ble_eq_true rfl) d_PA_multiplyYears_15 ⟨Nat.zero_le _, Nat.zero_le _⟩ hS (fun _ h => h) (fun v C H locs hp hP _ _ hS => ?_)
        obtain ⟨rfl, hG1, hG2⟩ := hp
        have hX := XS_set_gv hX hgi1 hG1 hG2
        have hX := gs_S (d := d) (y := i) (by omega) (by omega) hX
        refine lv_iinc (v := nI (i + 1)) (lv' := [(3, .int (nI (i + 1))), (0, .ref (b + 18)), (1, .int (nI d)), (2, .ref (b + 217))]) hx hb d_PA_multiplyYears_18 hl (k := 3) rfl (show nI i + Int32.ofInt 1 = nI (i + 1) from nI_add _ _) (by decide) rfl (fun ls hl => ?_)
        refine lv_goto (tgt := 2) hx hb d_PA_multiplyYears_21 (by decide) ?_
        rw [rowS_at (Nat.le_refl i), rowS_s S d i (fun y => S d y * st)] at hX
        exact ih2 (i + 1) _ _ _ _ (by omega) (by omega) hP hS hX (lv_sub hl [1, 2, 3, 0] rfl)
  rw [← rowS_0 S d (fun y => S d y * st)] at hX
  exact loop2 13 0 _ _ _ _ (by omega) (by omega) hP hS hX (lv_sub hl [1, 2, 3, 0] rfl)

