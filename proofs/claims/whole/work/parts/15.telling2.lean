/-! Telling: across a row -/
def loA (fr le mo : Nat → Nat) (i d y : Nat) : Nat := if fr i = d then y + le i else y - mo i
def hiA (fr le mo : Nat → Nat) (i d y : Nat) : Nat := if fr i = d then min 12 (y + mo i + 1) else y + 1 - le i
set_option maxHeartbeats 4000000 in
set_option maxRecDepth 100000 in
/-- the least year that a row leaves to its other end -/
theorem c_TE_leastAcross (l : Launch) (D : va_G) (ca : Nat → ClassId) (b : Nat) (C0 : Nat → va_E) {wt : Nat → Nat → Nat} {ab : Nat → Nat} {be : Nat → Nat} {nd : Nat} {fr : Nat → Nat} {tt : Nat → Option Nat} {le : Nat → Nat} {mo : Nat → Nat} {nf : Nat → Bool} {tr : Nat → Nat} {nt : Nat} {nm : Nat} {fy : Nat → Option Nat} {fb : Nat → Option Nat} {od : Nat → Nat} {pa : Nat → Option Nat} {rp : Nat → Option Nat} {se : Nat → Bool} {im : Nat → Bool} {qd : Nat} {hm : Nat} {gv : Nat → Nat} (i d y : Nat) (hX : XS ca b C0 wt ab be nd fr tt le mo nf tr nt nm fy fb od pa rp se im qd hm gv) (hi : i < 6) (hf : fr i < 6) (hle : le i < 12) (hmo : mo i < 12) (hd : d < 6) (hy : y < 12) : Met l y_TE_leastAcross (k_TE_leastAcross :: gw) ({ frames := 2, cells := 0, slots := 0, locals := 24 }) (xPc D ca b 219 C0 [.ref (b + 11), .int (nI i), .int (nI d), .int (nI y)]) (xQ D b 219 (fun r C1 => r = some (.int (nI (loA fr le mo i d y))) ∧ XS ca b C1 wt ab be nd fr tt le mo nf tr nt nm fy fb od pa rp se im qd hm gv)) 0 0 (xr b 219) := by
  refine Met.ofW (cc := b_TE_leastAcross) (maxL := 4) (ret := (some FieldType.int)) (by decide) rfl ?_
  intro p e s m args below meth c s₁ B hml hv
  obtain ⟨hav, hP, hK⟩ := hv
  have hx := B.exec
  have hb := B.bytes
  have hr := B.returns
  have hts := atoms_spec (ws := k_TE_leastAcross :: gw) B.pre
  have hown : s.vm.findClass R_TE = some m.cls := findClass_of_methodNamed B.named
  have hlocks := B.notSynchronized
  have hA : ∀ k, k < 219 → xr b 219 (b + k) := xr_in
  have hS : va_S (xr b 219) s.heap s.heap [] := va_S.rf
  have hl := lv_entry ([.ref (b + 11), .int (nI i), .int (nI d), .int (nI y)]) (n := 4) (Nat.le_of_ble_eq_true rfl)
  rw [hav, lg_entry_eq]
  generalize (lg_sl ([.ref (b + 11), .int (nI i), .int (nI d), .int (nI y)]) ++ List.replicate (4 - (lg_sl ([.ref (b + 11), .int (nI i), .int (nI d), .int (nI y)])).length) Slot.unset).toArray = ls at hl ⊢
  have hl : lv_has ls 4 [(0, .ref (b + 11)), (1, .int (nI i)), (2, .int (nI d)), (3, .int (nI y))] := hl
  rw [← hav]
  refine lv_iconst (v := nI 0) hx hb d_TE_leastAcross_0 (by decide) ?_
  refine lv_aload_n hx hb d_TE_leastAcross_1 rfl (lv_at hl 0 rfl) ?_
  refine xw_get (v := .ref (b + 12)) hx hb hts (fun w h => mw (uw_TE w h)) hown hK hP (XS_11 hX) (by decide) rfl 0 (by decide) (hts _ (mw tb_51)) (fun _ h => h) rfl d_TE_leastAcross_2 ?_
  refine lv_iload_n hx hb d_TE_leastAcross_5 rfl (lv_at hl 1 rfl) ?_
  refine xw_iald hx hb hK hP 0 (XS_12 hX) (by decide) rfl (by omega) (by decide) d_TE_leastAcross_6 ?_
  refine lv_iload_n hx hb d_TE_leastAcross_7 rfl (lv_at hl 2 rfl) ?_
  refine xi_ne (tgt := 22) hx hb d_TE_leastAcross_8 (by decide) (by omega) (by omega) (fun h8 => ?_) (fun h8 => ?_)
  · skip
    refine lv_iload_n hx hb d_TE_leastAcross_22 rfl (lv_at hl 3 rfl) ?_
    refine lv_aload_n hx hb d_TE_leastAcross_23 rfl (lv_at hl 0 rfl) ?_
    refine xw_get (v := .ref (b + 15)) hx hb hts (fun w h => mw (uw_TE w h)) hown hK hP (XS_11 hX) (by decide) rfl 3 (by decide) (hts _ (mw tb_54)) (fun _ h => h) rfl d_TE_leastAcross_24 ?_
    refine lv_iload_n hx hb d_TE_leastAcross_27 rfl (lv_at hl 1 rfl) ?_
    refine xw_iald hx hb hK hP 0 (XS_15 hX) (by decide) rfl (by omega) (by decide) d_TE_leastAcross_28 ?_
    refine lv_isub hx hb d_TE_leastAcross_29 ?_
    refine va_mmax hx hb (hml.trans hl.1.symm) hown (hts _ (mw tb_250)) (hts _ (mw tb_251)) (hts _ (mw tb_14)) (hts _ (mw tb_252)) (Nat.le_of_ble_eq_true rfl) (Nat.le_of_ble_eq_true rfl) (Nat.zero_le _) (Nat.zero_le _) d_TE_leastAcross_30 ?_
    refine ti (nI (y - mo i)) (mx0 (by omega) (by omega)) ?_
    exact xw_iret hx hb hr hlocks hP hS ⟨by rw [loA, if_neg h8], hX⟩ d_TE_leastAcross_33
  · skip
    refine lv_iload_n hx hb d_TE_leastAcross_11 rfl (lv_at hl 3 rfl) ?_
    refine lv_aload_n hx hb d_TE_leastAcross_12 rfl (lv_at hl 0 rfl) ?_
    refine xw_get (v := .ref (b + 14)) hx hb hts (fun w h => mw (uw_TE w h)) hown hK hP (XS_11 hX) (by decide) rfl 2 (by decide) (hts _ (mw tb_53)) (fun _ h => h) rfl d_TE_leastAcross_13 ?_
    refine lv_iload_n hx hb d_TE_leastAcross_16 rfl (lv_at hl 1 rfl) ?_
    refine xw_iald hx hb hK hP 0 (XS_14 hX) (by decide) rfl (by omega) (by decide) d_TE_leastAcross_17 ?_
    refine lv_iadd hx hb d_TE_leastAcross_18 ?_
    refine ti (nI (y + (le i))) (nI_add _ _) ?_
    refine lv_goto (tgt := 30) hx hb d_TE_leastAcross_19 (by decide) ?_
    refine va_mmax hx hb (hml.trans hl.1.symm) hown (hts _ (mw tb_250)) (hts _ (mw tb_251)) (hts _ (mw tb_14)) (hts _ (mw tb_252)) (Nat.le_of_ble_eq_true rfl) (Nat.le_of_ble_eq_true rfl) (Nat.zero_le _) (Nat.zero_le _) d_TE_leastAcross_30 ?_
    refine ti (nI (y + (le i))) (mx1 (by omega)) ?_
    exact xw_iret hx hb hr hlocks hP hS ⟨by rw [loA, if_pos h8], hX⟩ d_TE_leastAcross_33

set_option maxHeartbeats 4000000 in
set_option maxRecDepth 100000 in
/-- the greatest year that a row leaves to its other end -/
theorem c_TE_mostAcross (l : Launch) (D : va_G) (ca : Nat → ClassId) (b : Nat) (C0 : Nat → va_E) {wt : Nat → Nat → Nat} {ab : Nat → Nat} {be : Nat → Nat} {nd : Nat} {fr : Nat → Nat} {tt : Nat → Option Nat} {le : Nat → Nat} {mo : Nat → Nat} {nf : Nat → Bool} {tr : Nat → Nat} {nt : Nat} {nm : Nat} {fy : Nat → Option Nat} {fb : Nat → Option Nat} {od : Nat → Nat} {pa : Nat → Option Nat} {rp : Nat → Option Nat} {se : Nat → Bool} {im : Nat → Bool} {qd : Nat} {hm : Nat} {gv : Nat → Nat} (i d y : Nat) (hX : XS ca b C0 wt ab be nd fr tt le mo nf tr nt nm fy fb od pa rp se im qd hm gv) (hi : i < 6) (hf : fr i < 6) (hle : le i < 12) (hmo : mo i < 12) (hd : d < 6) (hy : y < 12) : Met l y_TE_mostAcross (k_TE_mostAcross :: gw) ({ frames := 2, cells := 0, slots := 0, locals := 24 }) (xPc D ca b 219 C0 [.ref (b + 11), .int (nI i), .int (nI d), .int (nI y)]) (xQ D b 219 (fun r C1 => ∃ h : Int32, r = some (.int h) ∧ (∀ lo, lo < 2 ^ 30 → (nI lo ≤ h ↔ lo < hiA fr le mo i d y)) ∧ XS ca b C1 wt ab be nd fr tt le mo nf tr nt nm fy fb od pa rp se im qd hm gv)) 0 0 (xr b 219) := by
  refine Met.ofW (cc := b_TE_mostAcross) (maxL := 4) (ret := (some FieldType.int)) (by decide) rfl ?_
  intro p e s m args below meth c s₁ B hml hv
  obtain ⟨hav, hP, hK⟩ := hv
  have hx := B.exec
  have hb := B.bytes
  have hr := B.returns
  have hts := atoms_spec (ws := k_TE_mostAcross :: gw) B.pre
  have hown : s.vm.findClass R_TE = some m.cls := findClass_of_methodNamed B.named
  have hlocks := B.notSynchronized
  have hA : ∀ k, k < 219 → xr b 219 (b + k) := xr_in
  have hS : va_S (xr b 219) s.heap s.heap [] := va_S.rf
  have hl := lv_entry ([.ref (b + 11), .int (nI i), .int (nI d), .int (nI y)]) (n := 4) (Nat.le_of_ble_eq_true rfl)
  rw [hav, lg_entry_eq]
  generalize (lg_sl ([.ref (b + 11), .int (nI i), .int (nI d), .int (nI y)]) ++ List.replicate (4 - (lg_sl ([.ref (b + 11), .int (nI i), .int (nI d), .int (nI y)])).length) Slot.unset).toArray = ls at hl ⊢
  have hl : lv_has ls 4 [(0, .ref (b + 11)), (1, .int (nI i)), (2, .int (nI d)), (3, .int (nI y))] := hl
  rw [← hav]
  refine lv_bipush (v := nI 11) hx hb d_TE_mostAcross_0 (by decide) ?_
  refine lv_aload_n hx hb d_TE_mostAcross_2 rfl (lv_at hl 0 rfl) ?_
  refine xw_get (v := .ref (b + 12)) hx hb hts (fun w h => mw (uw_TE w h)) hown hK hP (XS_11 hX) (by decide) rfl 0 (by decide) (hts _ (mw tb_51)) (fun _ h => h) rfl d_TE_mostAcross_3 ?_
  refine lv_iload_n hx hb d_TE_mostAcross_6 rfl (lv_at hl 1 rfl) ?_
  refine xw_iald hx hb hK hP 0 (XS_12 hX) (by decide) rfl (by omega) (by decide) d_TE_mostAcross_7 ?_
  refine lv_iload_n hx hb d_TE_mostAcross_8 rfl (lv_at hl 2 rfl) ?_
  refine xi_ne (tgt := 23) hx hb d_TE_mostAcross_9 (by decide) (by omega) (by omega) (fun h9 => ?_) (fun h9 => ?_)
  · skip
    refine lv_iload_n hx hb d_TE_mostAcross_23 rfl (lv_at hl 3 rfl) ?_
    refine lv_aload_n hx hb d_TE_mostAcross_24 rfl (lv_at hl 0 rfl) ?_
    refine xw_get (v := .ref (b + 14)) hx hb hts (fun w h => mw (uw_TE w h)) hown hK hP (XS_11 hX) (by decide) rfl 2 (by decide) (hts _ (mw tb_53)) (fun _ h => h) rfl d_TE_mostAcross_25 ?_
    refine lv_iload_n hx hb d_TE_mostAcross_28 rfl (lv_at hl 1 rfl) ?_
    refine xw_iald hx hb hK hP 0 (XS_14 hX) (by decide) rfl (by omega) (by decide) d_TE_mostAcross_29 ?_
    refine lv_isub hx hb d_TE_mostAcross_30 ?_
    refine va_mmin hx hb (hml.trans hl.1.symm) hown (hts _ (mw tb_243)) (hts _ (mw tb_244)) (hts _ (mw tb_14)) (hts _ (mw tb_245)) (Nat.le_of_ble_eq_true rfl) (Nat.le_of_ble_eq_true rfl) (Nat.zero_le _) (Nat.zero_le _) d_TE_mostAcross_31 ?_
    exact xw_iret hx hb hr hlocks hP hS ⟨_, rfl, fun lo hlo => by rw [hiA, if_neg h9]; exact mn2 hy (by omega) hlo, hX⟩ d_TE_mostAcross_34
  · skip
    refine lv_iload_n hx hb d_TE_mostAcross_12 rfl (lv_at hl 3 rfl) ?_
    refine lv_aload_n hx hb d_TE_mostAcross_13 rfl (lv_at hl 0 rfl) ?_
    refine xw_get (v := .ref (b + 15)) hx hb hts (fun w h => mw (uw_TE w h)) hown hK hP (XS_11 hX) (by decide) rfl 3 (by decide) (hts _ (mw tb_54)) (fun _ h => h) rfl d_TE_mostAcross_14 ?_
    refine lv_iload_n hx hb d_TE_mostAcross_17 rfl (lv_at hl 1 rfl) ?_
    refine xw_iald hx hb hK hP 0 (XS_15 hX) (by decide) rfl (by omega) (by decide) d_TE_mostAcross_18 ?_
    refine lv_iadd hx hb d_TE_mostAcross_19 ?_
    refine ti (nI (y + (mo i))) (nI_add _ _) ?_
    refine lv_goto (tgt := 31) hx hb d_TE_mostAcross_20 (by decide) ?_
    refine va_mmin hx hb (hml.trans hl.1.symm) hown (hts _ (mw tb_243)) (hts _ (mw tb_244)) (hts _ (mw tb_14)) (hts _ (mw tb_245)) (Nat.le_of_ble_eq_true rfl) (Nat.le_of_ble_eq_true rfl) (Nat.zero_le _) (Nat.zero_le _) d_TE_mostAcross_31 ?_
    exact xw_iret hx hb hr hlocks hP hS ⟨_, rfl, fun lo hlo => by rw [hiA, if_pos h9]; exact mn1 (by omega) hlo, hX⟩ d_TE_mostAcross_34

