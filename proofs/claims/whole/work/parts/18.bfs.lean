/-! Passing: the order of the dates, pure -/
/-- seen, parent, rowToParent, order, queued -/
abbrev KQ : Type := (Nat → Bool) × (Nat → Option Nat) × (Nat → Option Nat) × (Nat → Nat) × Nat
def qD (k : KQ) (d : Nat) (f a : Option Nat) : KQ := if k.1 d = true ∨ 6 ≤ k.2.2.2.2 then k else (va_up k.1 d true, va_up k.2.1 d f, va_up k.2.2.1 d a, va_up k.2.2.2.1 k.2.2.2.2 d, k.2.2.2.2 + 1)
def qC (fr : Nat → Nat) (tt : Nat → Option Nat) (nf : Nat → Bool) (d : Nat) (k : KQ) : Nat → KQ
  | 0 => k
  | i + 1 => match oth fr tt nf i d with
    | none => qC fr tt nf d k i
    | some e => qD (qC fr tt nf d k i) e (some d) (some i)
def qL (fr : Nat → Nat) (tt : Nat → Option Nat) (nf : Nat → Bool) (nt : Nat) : Nat → Nat → KQ → KQ
  | 0, _, k => k
  | r + 1, i, k => if i < k.2.2.2.2 ∧ i < 6 then qL fr tt nf nt r (i + 1) (qC fr tt nf (k.2.2.2.1 i) k nt) else k
def qT (fr : Nat → Nat) (tt : Nat → Option Nat) (nf : Nat → Bool) (nt : Nat) (k : KQ) (x : Nat) : KQ := qL fr tt nf nt 7 k.2.2.2.2 (qD k x none none)
def KOK (k : KQ) : Prop := k.2.2.2.2 ≤ 6 ∧ ∀ j, j < k.2.2.2.2 → k.2.2.2.1 j < 6
theorem qC_none {fr : Nat → Nat} {tt : Nat → Option Nat} {nf : Nat → Bool} {d : Nat} {k : KQ} {i : Nat} (h : oth fr tt nf i d = none) : qC fr tt nf d k (i + 1) = qC fr tt nf d k i := by
  show (match oth fr tt nf i d with | none => qC fr tt nf d k i | some e => qD (qC fr tt nf d k i) e (some d) (some i)) = _
  rw [h]
theorem qC_some {fr : Nat → Nat} {tt : Nat → Option Nat} {nf : Nat → Bool} {d : Nat} {k : KQ} {i e : Nat} (h : oth fr tt nf i d = some e) : qC fr tt nf d k (i + 1) = qD (qC fr tt nf d k i) e (some d) (some i) := by
  show (match oth fr tt nf i d with | none => qC fr tt nf d k i | some e => qD (qC fr tt nf d k i) e (some d) (some i)) = _
  rw [h]
theorem KOK_qD {k : KQ} {d : Nat} {f a : Option Nat} (h : KOK k) (hd : d < 6) : KOK (qD k d f a) := by
  unfold qD
  by_cases q : k.1 d = true ∨ 6 ≤ k.2.2.2.2
  · rw [if_pos q]; exact h
  · rw [if_neg q]
    have q2 : ¬ 6 ≤ k.2.2.2.2 := fun z => q (Or.inr z)
    refine ⟨by show k.2.2.2.2 + 1 ≤ 6; omega, fun j hj => ?_⟩
    show va_up k.2.2.2.1 k.2.2.2.2 d j < 6
    by_cases q3 : j = k.2.2.2.2
    · rw [q3, va_up_self]; exact hd
    · rw [va_up_ne _ _ q3]; exact h.2 j (by have : j < k.2.2.2.2 + 1 := hj; omega)
theorem oth_lt {fr : Nat → Nat} {tt : Nat → Option Nat} {nf : Nat → Bool} {nt i d e : Nat} (h : TOK fr tt nt) (hi : i < nt) (he : oth fr tt nf i d = some e) : e < 6 := by
  have h1 := h.2 i hi
  unfold oth at he
  by_cases q : nf i = true
  · rw [if_pos q] at he
    cases ht : tt i with
    | none => rw [ht] at he; cases he
    | some x =>
      rw [ht] at he
      by_cases q2 : fr i = d
      · simp only [q2, if_true] at he; cases he; exact h1.2 _ ht
      · simp only [q2, if_false] at he
        by_cases q3 : x = d
        · simp only [q3, if_true] at he; cases he; exact h1.1
        · simp only [q3, if_false] at he; cases he
  · rw [if_neg q] at he; cases he
theorem KOK_qC {fr : Nat → Nat} {tt : Nat → Option Nat} {nf : Nat → Bool} {nt d : Nat} {k : KQ} (hT : TOK fr tt nt) (h : KOK k) : ∀ i, i ≤ nt → KOK (qC fr tt nf d k i) := by
  intro i
  induction i with
  | zero => intro _; exact h
  | succ i ih =>
    intro hi
    cases q : oth fr tt nf i d with
    | none => rw [qC_none q]; exact ih (by omega)
    | some e => rw [qC_some q]; exact KOK_qD (ih (by omega)) (oth_lt hT (by omega) q)
theorem KOK_qL {fr : Nat → Nat} {tt : Nat → Option Nat} {nf : Nat → Bool} {nt : Nat} (hT : TOK fr tt nt) : ∀ (r i : Nat) (k : KQ), KOK k → KOK (qL fr tt nf nt r i k) := by
  intro r
  induction r with
  | zero => intro i k h; exact h
  | succ r ih =>
    intro i k h
    unfold qL
    by_cases q : i < k.2.2.2.2 ∧ i < 6
    · rw [if_pos q]; exact ih _ _ (KOK_qC hT h nt (Nat.le_refl _))
    · rw [if_neg q]; exact h
theorem KOK_qT {fr : Nat → Nat} {tt : Nat → Option Nat} {nf : Nat → Bool} {nt x : Nat} {k : KQ} (hT : TOK fr tt nt) (hx : x < 6) (h : KOK k) : KOK (qT fr tt nf nt k x) := KOK_qL hT _ _ _ (KOK_qD h hx)
theorem memO_lt {fr : Nat → Nat} {tt : Nat → Option Nat} {nf : Nat → Bool} {nt i e : Nat} (h : TOK fr tt nt) (hi : i < nt) (he : memO fr tt nf i = some e) : e < 6 := by
  have h1 := h.2 i hi
  unfold memO at he
  by_cases q : nf i = true
  · rw [if_pos q] at he
    cases ht : tt i with
    | none => rw [ht] at he; cases he; exact h1.1
    | some x => rw [ht] at he; cases he
  · rw [if_neg q] at he; cases he
set_option maxHeartbeats 4000000 in
set_option maxRecDepth 100000 in
/-- a date is queued -/
theorem c_PA_queueDate (l : Launch) (D : va_G) (ca : Nat → ClassId) (b : Nat) (C0 : Nat → va_E) {wt : Nat → Nat → Nat} {ab : Nat → Nat} {be : Nat → Nat} {nd : Nat} {fr : Nat → Nat} {tt : Nat → Option Nat} {le : Nat → Nat} {mo : Nat → Nat} {nf : Nat → Bool} {tr : Nat → Nat} {nt : Nat} {nm : Nat} {fy : Nat → Option Nat} {fb : Nat → Option Nat} {im : Nat → Bool} {hm : Nat} {S : Nat → Nat → Nat} {I : Nat → Nat} {P : Nat → Nat} {pt : Nat} {ap : Nat} {fa : Nat} {wh : Nat} {st : Nat} (k : KQ) (d : Nat) (f a : Option Nat) (hX : XS ca b C0 wt ab be nd fr tt le mo nf tr nt nm fy fb k.2.2.2.1 k.2.1 k.2.2.1 k.1 im k.2.2.2.2 hm (gvOf S I P pt ap fa wh st)) (hd : d < 6) (hk : k.2.2.2.2 ≤ 6) : Met l y_PA_queueDate (k_PA_queueDate :: gw) ({ frames := 1, cells := 0, slots := 0, locals := 12 }) (xPc D ca b 219 C0 [.ref (b + 18), .int (nI d), .int (eo f), .int (eo a)]) (xQ D b 219 (fun r C1 => r = none ∧ XS ca b C1 wt ab be nd fr tt le mo nf tr nt nm fy fb ((qD k d f a).2.2.2.1) ((qD k d f a).2.1) ((qD k d f a).2.2.1) ((qD k d f a).1) im ((qD k d f a).2.2.2.2) hm (gvOf S I P pt ap fa wh st))) 0 0 (xr b 219) := by
  refine Met.ofW (cc := b_PA_queueDate) (maxL := 4) (ret := none) (by decide) rfl ?_
  intro p e s m args below meth c s₁ B hml hv
  obtain ⟨hav, hP, hK⟩ := hv
  have hx := B.exec
  have hb := B.bytes
  have hr := B.returns
  have hts := atoms_spec (ws := k_PA_queueDate :: gw) B.pre
  have hown : s.vm.findClass R_PA = some m.cls := findClass_of_methodNamed B.named
  have hlocks := B.notSynchronized
  have hA : ∀ k, k < 219 → xr b 219 (b + k) := xr_in
  have hS : va_S (xr b 219) s.heap s.heap [] := va_S.rf
  have hl := lv_entry ([.ref (b + 18), .int (nI d), .int (eo f), .int (eo a)]) (n := 4) (Nat.le_of_ble_eq_true rfl)
  rw [hav, lg_entry_eq]
  generalize (lg_sl ([.ref (b + 18), .int (nI d), .int (eo f), .int (eo a)]) ++ List.replicate (4 - (lg_sl ([.ref (b + 18), .int (nI d), .int (eo f), .int (eo a)])).length) Slot.unset).toArray = ls at hl ⊢
  have hl : lv_has ls 4 [(0, .ref (b + 18)), (1, .int (nI d)), (2, .int (eo f)), (3, .int (eo a))] := hl
  rw [← hav]
  refine lv_aload_n hx hb d_PA_queueDate_0 rfl (lv_at hl 0 rfl) ?_
  refine xw_get (v := .ref (b + 33)) hx hb hts (fun w h => mw (uw_PA w h)) hown hK hP (XS_18 hX) (by decide) rfl 11 (by decide) (hts _ (mw tb_112)) (fun _ h => h) rfl d_PA_queueDate_1 ?_
  refine lv_iload_n hx hb d_PA_queueDate_4 rfl (lv_at hl 1 rfl) ?_
  refine xw_zald hx hb hK hP 2 (XS_33 hX) (by decide) rfl (by omega) (by decide) d_PA_queueDate_5 ?_
  refine xz_ne (tgt := 18) hx hb d_PA_queueDate_6 (by decide) (tn31 _) (fun h6 => ?_) (fun h6 => ?_)
  · skip
    exact xw_vret hx hb hr hlocks hP hS ⟨rfl, by rw [qD, if_pos (Or.inl (bt h6))]; exact hX⟩ d_PA_queueDate_18
  · skip
    refine lv_aload_n hx hb d_PA_queueDate_9 rfl (lv_at hl 0 rfl) ?_
    refine xw_get (v := .int (nI k.2.2.2.2)) hx hb hts (fun w h => mw (uw_PA w h)) hown hK hP (XS_18 hX) (by decide) rfl 13 (by decide) (hts _ (mw tb_114)) (fun _ h => h) rfl d_PA_queueDate_10 ?_
    refine lv_bipush (v := nI 6) hx hb d_PA_queueDate_13 (by decide) ?_
    refine xi_lt (tgt := 19) hx hb d_PA_queueDate_15 (by decide) (by omega) (by omega) (fun h15 => ?_) (fun h15 => ?_)
    · skip
      refine lv_aload_n hx hb d_PA_queueDate_19 rfl (lv_at hl 0 rfl) ?_
      refine xw_get (v := .ref (b + 33)) hx hb hts (fun w h => mw (uw_PA w h)) hown hK hP (XS_18 hX) (by decide) rfl 11 (by decide) (hts _ (mw tb_112)) (fun _ h => h) rfl d_PA_queueDate_20 ?_
      refine lv_iload_n hx hb d_PA_queueDate_23 rfl (lv_at hl 1 rfl) ?_
      refine lv_iconst (v := nI 1) hx hb d_PA_queueDate_24 (by decide) ?_
      refine xw_zast hx hb hK hP hA hS 2 (XS_33 hX) (by decide) rfl (by omega) (by decide) d_PA_queueDate_25 (fun H locs hP hS => ?_)
      have hX := XS_set_se (j := d) (x := true) hX
      rw [show nI true.toNat = nI 1 from rfl] at hX
      generalize va_up _ 33 _ = C at hP hX
      refine lv_aload_n hx hb d_PA_queueDate_26 rfl (lv_at hl 0 rfl) ?_
      refine xw_get (v := .ref (b + 31)) hx hb hts (fun w h => mw (uw_PA w h)) hown hK hP (XS_18 hX) (by decide) rfl 9 (by decide) (hts _ (mw tb_110)) (fun _ h => h) rfl d_PA_queueDate_27 ?_
      refine lv_iload_n hx hb d_PA_queueDate_30 rfl (lv_at hl 1 rfl) ?_
      refine lv_iload_n hx hb d_PA_queueDate_31 rfl (lv_at hl 2 rfl) ?_
      refine xw_iast hx hb hK hP hA hS 0 (XS_31 hX) (by decide) rfl (by omega) (by decide) d_PA_queueDate_32 (fun H locs hP hS => ?_)
      have hX := XS_set_pa (j := d) (x := f) hX
      generalize va_up _ 31 _ = C at hP hX
      refine lv_aload_n hx hb d_PA_queueDate_33 rfl (lv_at hl 0 rfl) ?_
      refine xw_get (v := .ref (b + 32)) hx hb hts (fun w h => mw (uw_PA w h)) hown hK hP (XS_18 hX) (by decide) rfl 10 (by decide) (hts _ (mw tb_111)) (fun _ h => h) rfl d_PA_queueDate_34 ?_
      refine lv_iload_n hx hb d_PA_queueDate_37 rfl (lv_at hl 1 rfl) ?_
      refine lv_iload_n hx hb d_PA_queueDate_38 rfl (lv_at hl 3 rfl) ?_
      refine xw_iast hx hb hK hP hA hS 0 (XS_32 hX) (by decide) rfl (by omega) (by decide) d_PA_queueDate_39 (fun H locs hP hS => ?_)
      have hX := XS_set_rp (j := d) (x := a) hX
      generalize va_up _ 32 _ = C at hP hX
      refine lv_aload_n hx hb d_PA_queueDate_40 rfl (lv_at hl 0 rfl) ?_
      refine xw_get (v := .ref (b + 30)) hx hb hts (fun w h => mw (uw_PA w h)) hown hK hP (XS_18 hX) (by decide) rfl 8 (by decide) (hts _ (mw tb_109)) (fun _ h => h) rfl d_PA_queueDate_41 ?_
      refine lv_aload_n hx hb d_PA_queueDate_44 rfl (lv_at hl 0 rfl) ?_
      refine xw_get (v := .int (nI k.2.2.2.2)) hx hb hts (fun w h => mw (uw_PA w h)) hown hK hP (XS_18 hX) (by decide) rfl 13 (by decide) (hts _ (mw tb_114)) (fun _ h => h) rfl d_PA_queueDate_45 ?_
      refine lv_iload_n hx hb d_PA_queueDate_48 rfl (lv_at hl 1 rfl) ?_
      refine xw_iast hx hb hK hP hA hS 0 (XS_30 hX) (by decide) rfl (by omega) (by decide) d_PA_queueDate_49 (fun H locs hP hS => ?_)
      have hX := XS_set_od (j := k.2.2.2.2) (x := d) hX
      generalize va_up _ 30 _ = C at hP hX
      refine lv_aload_n hx hb d_PA_queueDate_50 rfl (lv_at hl 0 rfl) ?_
      refine lv_dup hx hb d_PA_queueDate_51 rfl ?_
      refine xw_get (v := .int (nI k.2.2.2.2)) hx hb hts (fun w h => mw (uw_PA w h)) hown hK hP (XS_18 hX) (by decide) rfl 13 (by decide) (hts _ (mw tb_114)) (fun _ h => h) rfl d_PA_queueDate_52 ?_
      refine lv_iconst (v := nI 1) hx hb d_PA_queueDate_55 (by decide) ?_
      refine lv_iadd hx hb d_PA_queueDate_56 ?_
      refine ti (nI (k.2.2.2.2 + 1)) (nI_add _ _) ?_
      refine xw_put (v := .int (nI (k.2.2.2.2 + 1))) (ty := t_PA 13) hx hb hts (fun w h => mw (uw_PA w h)) t_PA t_PA_ok n_PA hown hK hP hA hS (XS_18 hX) (by decide) rfl 13 (by decide) (hts _ (mw tb_114)) (fun _ h => h) rfl (by decide +kernel) rfl rfl (Nat.le_of_ble_eq_true rfl) d_PA_queueDate_57 (fun H locs hP hS => ?_)
      have hX := XS_set_qd (x1 := k.2.2.2.2 + 1) hX
      generalize va_up _ 18 _ = C at hP hX
      exact xw_vret hx hb hr hlocks hP hS ⟨rfl, by rw [qD, if_neg (fun q => q.elim (fun z => by rw [bf h6] at z; cases z) (fun z => absurd z (by omega)))]; exact hX⟩ d_PA_queueDate_60
    · skip
      exact xw_vret hx hb hr hlocks hP hS ⟨rfl, by rw [qD, if_pos (Or.inr h15)]; exact hX⟩ d_PA_queueDate_18

set_option maxHeartbeats 4000000 in
set_option maxRecDepth 100000 in
/-- the dates that rows join to one are queued -/
theorem c_PA_queueChildren (l : Launch) (D : va_G) (ca : Nat → ClassId) (b : Nat) (C0 : Nat → va_E) {wt : Nat → Nat → Nat} {ab : Nat → Nat} {be : Nat → Nat} {nd : Nat} {fr : Nat → Nat} {tt : Nat → Option Nat} {le : Nat → Nat} {mo : Nat → Nat} {nf : Nat → Bool} {tr : Nat → Nat} {nt : Nat} {nm : Nat} {fy : Nat → Option Nat} {fb : Nat → Option Nat} {im : Nat → Bool} {hm : Nat} {S : Nat → Nat → Nat} {I : Nat → Nat} {P : Nat → Nat} {pt : Nat} {ap : Nat} {fa : Nat} {wh : Nat} {st : Nat} (k : KQ) (d : Nat) (hX : XS ca b C0 wt ab be nd fr tt le mo nf tr nt nm fy fb k.2.2.2.1 k.2.1 k.2.2.1 k.1 im k.2.2.2.2 hm (gvOf S I P pt ap fa wh st)) (hT : TOK fr tt nt) (hd : d < 6) (hk : KOK k) : Met l y_PA_queueChildren (k_PA_queueChildren :: gw) ({ frames := 2, cells := 0, slots := 0, locals := 35 }) (xPc D ca b 219 C0 [.ref (b + 18), .int (nI d), .ref (b + 11)]) (xQ D b 219 (fun r C1 => r = none ∧ XS ca b C1 wt ab be nd fr tt le mo nf tr nt nm fy fb ((qC fr tt nf d k nt).2.2.2.1) ((qC fr tt nf d k nt).2.1) ((qC fr tt nf d k nt).2.2.1) ((qC fr tt nf d k nt).1) im ((qC fr tt nf d k nt).2.2.2.2) hm (gvOf S I P pt ap fa wh st))) 0 0 (xr b 219) := by
  refine Met.ofW (cc := b_PA_queueChildren) (maxL := 5) (ret := none) (by decide) rfl ?_
  intro p e s m args below meth c s₁ B hml hv
  obtain ⟨hav, hP, hK⟩ := hv
  have hx := B.exec
  have hb := B.bytes
  have hr := B.returns
  have hts := atoms_spec (ws := k_PA_queueChildren :: gw) B.pre
  have hown : s.vm.findClass R_PA = some m.cls := findClass_of_methodNamed B.named
  have hlocks := B.notSynchronized
  have hA : ∀ k, k < 219 → xr b 219 (b + k) := xr_in
  have hS : va_S (xr b 219) s.heap s.heap [] := va_S.rf
  have hl := lv_entry ([.ref (b + 18), .int (nI d), .ref (b + 11)]) (n := 5) (Nat.le_of_ble_eq_true rfl)
  rw [hav, lg_entry_eq]
  generalize (lg_sl ([.ref (b + 18), .int (nI d), .ref (b + 11)]) ++ List.replicate (5 - (lg_sl ([.ref (b + 18), .int (nI d), .ref (b + 11)])).length) Slot.unset).toArray = ls at hl ⊢
  have hl : lv_has ls 5 [(0, .ref (b + 18)), (1, .int (nI d)), (2, .ref (b + 11))] := hl
  rw [← hav]
  have hT6 := hT.1
  refine lv_iconst (v := nI 0) hx hb d_PA_queueChildren_0 (by decide) ?_
  refine lv_istore_n (lv' := [(3, .int (nI 0)), (0, .ref (b + 18)), (1, .int (nI d)), (2, .ref (b + 11))]) hx hb d_PA_queueChildren_1 rfl hl (by decide) rfl (fun ls hl => ?_)
  have loop2 : ∀ (r : Nat) (i : Nat) (C : Nat → va_E) (H : Heap) (locs : List Loc) (ls : Array Slot), nt < i + r → i ≤ nt → va_P D classes (wl b 219 C) H → va_S (xr b 219) s.heap H locs → XS ca b C wt ab be nd fr tt le mo nf tr nt nm fy fb ((qC fr tt nf d k i).2.2.2.1) ((qC fr tt nf d k i).2.1) ((qC fr tt nf d k i).2.2.1) ((qC fr tt nf d k i).1) im ((qC fr tt nf d k i).2.2.2.2) hm (gvOf S I P pt ap fa wh st) → lv_has ls 5 [(0, .ref (b + 18)), (1, .int (nI d)), (2, .ref (b + 11)), (3, .int (nI i))] → W p l e (headSpec (k_PA_queueChildren :: gw) ({ frames := 2, cells := 0, slots := 0, locals := 35 })).room s m args below meth c H locs 0 0 (MQ below (xQ D b 219 (fun r C1 => r = none ∧ XS ca b C1 wt ab be nd fr tt le mo nf tr nt nm fy fb ((qC fr tt nf d k nt).2.2.2.1) ((qC fr tt nf d k nt).2.1) ((qC fr tt nf d k nt).2.2.1) ((qC fr tt nf d k nt).1) im ((qC fr tt nf d k nt).2.2.2.2) hm (gvOf S I P pt ap fa wh st))) args s 0 0 (xr b 219)) (F0 m 2 ls []) := by
    intro r
    induction r with
    | zero => intro i C H locs ls hms hi; exact absurd hms (by omega)
    | succ r ih2 =>
      intro i C H locs ls hms hi hP hS hX hl
      refine lv_iload_n hx hb d_PA_queueChildren_2 rfl (lv_at hl 3 rfl) ?_
      refine lv_aload_n hx hb d_PA_queueChildren_3 rfl (lv_at hl 2 rfl) ?_
      refine xc_V (n := 0) (As := []) (rest := [.int (nI i)]) (st0 := _) hx hb hml hown hts (c_TE_number l D ca b _  hX ) km_TE_number tb_219 tb_220 tb_221 tb_3 (by decide +kernel) rfl rfl ⟨Nat.le_of_ble_eq_true rfl, Nat.le_of_ble_eq_true rfl⟩ hK hP (XS_11 hX) (by decide) rfl rfl rfl hl rfl (Nat.le_of_ble_eq_true rfl) d_PA_queueChildren_4 ⟨Nat.zero_le _, Nat.zero_le _⟩ hS (fun _ h => h) (fun v C H locs hp hP _ _ hS => ?_)
      obtain ⟨rfl, hX⟩ := hp
      refine xi_ge (tgt := 38) hx hb d_PA_queueChildren_7 (by decide) (by omega) (by omega) (fun h7 => ?_) (fun h7 => ?_)
      · skip
        have ei : i = nt := by omega
        rw [ei] at hX
        exact xw_vret hx hb hr hlocks hP hS ⟨rfl, hX⟩ d_PA_queueChildren_38
      · skip
        refine lv_aload_n hx hb d_PA_queueChildren_10 rfl (lv_at hl 2 rfl) ?_
        refine lv_iload_n hx hb d_PA_queueChildren_11 rfl (lv_at hl 3 rfl) ?_
        refine lv_iload_n hx hb d_PA_queueChildren_12 rfl (lv_at hl 1 rfl) ?_
        refine xc_V (n := 2) (As := [.int (nI i), .int (nI d)]) (rest := []) (st0 := _) hx hb hml hown hts (c_TE_otherEnd l D ca b _ i d hX hT h7 hd) km_TE_otherEnd tb_223 tb_224 tb_225 tb_3 (by decide +kernel) rfl rfl ⟨Nat.le_of_ble_eq_true rfl, Nat.le_of_ble_eq_true rfl⟩ hK hP (XS_11 hX) (by decide) rfl rfl rfl hl rfl (Nat.le_of_ble_eq_true rfl) d_PA_queueChildren_13 ⟨Nat.zero_le _, Nat.zero_le _⟩ hS (fun _ h => h) (fun v C H locs hp hP _ _ hS => ?_)
        obtain ⟨rfl, hX⟩ := hp
        refine lv_istore (lv' := [(4, .int (eo (oth fr tt nf i d))), (0, .ref (b + 18)), (1, .int (nI d)), (2, .ref (b + 11)), (3, .int (nI i))]) hx hb d_PA_queueChildren_16 hl (by decide) rfl (fun ls hl => ?_)
        refine lv_iload hx hb d_PA_queueChildren_18 (lv_at hl 0 rfl) ?_
        refine lv_iconst (v := (-1)) hx hb d_PA_queueChildren_20 (by decide) ?_
        refine xo_eq (tgt := 32) hx hb d_PA_queueChildren_21 (by decide) (fun z hz => by have := oth_lt hT h7 hz; omega) (fun h21 => ?_) (fun d21 h21 => ?_)
        · skip
          rw [← qC_none (k := k) h21] at hX
          refine lv_iinc (v := nI (i + 1)) (lv' := [(3, .int (nI (i + 1))), (4, .int (eo (oth fr tt nf i d))), (0, .ref (b + 18)), (1, .int (nI d)), (2, .ref (b + 11))]) hx hb d_PA_queueChildren_32 hl (k := 4) rfl (show nI i + Int32.ofInt 1 = nI (i + 1) from nI_add _ _) (by decide) rfl (fun ls hl => ?_)
          refine lv_goto (tgt := 2) hx hb d_PA_queueChildren_35 (by decide) ?_
          exact ih2 (i + 1) _ _ _ _ (by omega) (by omega) hP hS hX (lv_sub hl [2, 3, 4, 0] rfl)
        · skip
          refine lv_aload_n hx hb d_PA_queueChildren_24 rfl (lv_at hl 1 rfl) ?_
          refine lv_iload hx hb d_PA_queueChildren_25 (lv_at hl 0 rfl) ?_
          refine ti (nI d21) (by rw [h21]; rfl) ?_
          refine lv_iload_n hx hb d_PA_queueChildren_27 rfl (lv_at hl 2 rfl) ?_
          refine lv_iload_n hx hb d_PA_queueChildren_28 rfl (lv_at hl 4 rfl) ?_
          refine xc_V (n := 3) (As := [.int (nI d21), .int (nI d), .int (nI i)]) (rest := []) (st0 := _) hx hb hml hown hts (c_PA_queueDate l D ca b _ ((qC fr tt nf d k i)) d21 (some d) (some i) hX (oth_lt hT h7 h21) (KOK_qC hT hk i hi).1) km_PA_queueDate tb_211 tb_213 tps_4 tb_4 (by decide +kernel) rfl rfl ⟨Nat.le_of_ble_eq_true rfl, Nat.le_of_ble_eq_true rfl⟩ hK hP (XS_18 hX) (by decide) rfl rfl rfl hl rfl (Nat.le_of_ble_eq_true rfl) d_PA_queueChildren_29 ⟨Nat.zero_le _, Nat.zero_le _⟩ hS (fun _ h => h) (fun v C H locs hp hP _ _ hS => ?_)
          obtain ⟨rfl, hX⟩ := hp
          rw [← qC_some (k := k) h21] at hX
          refine lv_iinc (v := nI (i + 1)) (lv' := [(3, .int (nI (i + 1))), (4, .int (eo (oth fr tt nf i d))), (0, .ref (b + 18)), (1, .int (nI d)), (2, .ref (b + 11))]) hx hb d_PA_queueChildren_32 hl (k := 4) rfl (show nI i + Int32.ofInt 1 = nI (i + 1) from nI_add _ _) (by decide) rfl (fun ls hl => ?_)
          refine lv_goto (tgt := 2) hx hb d_PA_queueChildren_35 (by decide) ?_
          exact ih2 (i + 1) _ _ _ _ (by omega) (by omega) hP hS hX (lv_sub hl [2, 3, 4, 0] rfl)
  exact loop2 (nt + 1) 0 _ _ _ _ (by omega) (by omega) hP hS hX (lv_sub hl [1, 2, 3, 0] rfl)

set_option maxHeartbeats 4000000 in
set_option maxRecDepth 100000 in
/-- a tree is queued from a date -/
theorem c_PA_queueTree (l : Launch) (D : va_G) (ca : Nat → ClassId) (b : Nat) (C0 : Nat → va_E) {wt : Nat → Nat → Nat} {ab : Nat → Nat} {be : Nat → Nat} {nd : Nat} {fr : Nat → Nat} {tt : Nat → Option Nat} {le : Nat → Nat} {mo : Nat → Nat} {nf : Nat → Bool} {tr : Nat → Nat} {nt : Nat} {nm : Nat} {fy : Nat → Option Nat} {fb : Nat → Option Nat} {im : Nat → Bool} {hm : Nat} {S : Nat → Nat → Nat} {I : Nat → Nat} {P : Nat → Nat} {pt : Nat} {ap : Nat} {fa : Nat} {wh : Nat} {st : Nat} (k : KQ) (x : Nat) (hX : XS ca b C0 wt ab be nd fr tt le mo nf tr nt nm fy fb k.2.2.2.1 k.2.1 k.2.2.1 k.1 im k.2.2.2.2 hm (gvOf S I P pt ap fa wh st)) (hT : TOK fr tt nt) (hx6 : x < 6) (hk : KOK k) : Met l y_PA_queueTree (k_PA_queueTree :: gw) ({ frames := 3, cells := 0, slots := 0, locals := 59 }) (xPc D ca b 219 C0 [.ref (b + 18), .int (nI x), .ref (b + 11)]) (xQ D b 219 (fun r C1 => r = none ∧ XS ca b C1 wt ab be nd fr tt le mo nf tr nt nm fy fb ((qT fr tt nf nt k x).2.2.2.1) ((qT fr tt nf nt k x).2.1) ((qT fr tt nf nt k x).2.2.1) ((qT fr tt nf nt k x).1) im ((qT fr tt nf nt k x).2.2.2.2) hm (gvOf S I P pt ap fa wh st))) 0 0 (xr b 219) := by
  refine Met.ofW (cc := b_PA_queueTree) (maxL := 5) (ret := none) (by decide) rfl ?_
  intro p e s m args below meth c s₁ B hml hv
  obtain ⟨hav, hP, hK⟩ := hv
  have hx := B.exec
  have hb := B.bytes
  have hr := B.returns
  have hts := atoms_spec (ws := k_PA_queueTree :: gw) B.pre
  have hown : s.vm.findClass R_PA = some m.cls := findClass_of_methodNamed B.named
  have hlocks := B.notSynchronized
  have hA : ∀ k, k < 219 → xr b 219 (b + k) := xr_in
  have hS : va_S (xr b 219) s.heap s.heap [] := va_S.rf
  have hl := lv_entry ([.ref (b + 18), .int (nI x), .ref (b + 11)]) (n := 5) (Nat.le_of_ble_eq_true rfl)
  rw [hav, lg_entry_eq]
  generalize (lg_sl ([.ref (b + 18), .int (nI x), .ref (b + 11)]) ++ List.replicate (5 - (lg_sl ([.ref (b + 18), .int (nI x), .ref (b + 11)])).length) Slot.unset).toArray = ls at hl ⊢
  have hl : lv_has ls 5 [(0, .ref (b + 18)), (1, .int (nI x)), (2, .ref (b + 11))] := hl
  rw [← hav]
  have hT6 := hT.1
  have hk6 := hk.1
  refine lv_aload_n hx hb d_PA_queueTree_0 rfl (lv_at hl 0 rfl) ?_
  refine xw_get (v := .int (nI k.2.2.2.2)) hx hb hts (fun w h => mw (uw_PA w h)) hown hK hP (XS_18 hX) (by decide) rfl 13 (by decide) (hts _ (mw tb_114)) (fun _ h => h) rfl d_PA_queueTree_1 ?_
  refine lv_istore_n (lv' := [(3, .int (nI k.2.2.2.2)), (0, .ref (b + 18)), (1, .int (nI x)), (2, .ref (b + 11))]) hx hb d_PA_queueTree_4 rfl hl (by decide) rfl (fun ls hl => ?_)
  refine lv_aload_n hx hb d_PA_queueTree_5 rfl (lv_at hl 1 rfl) ?_
  refine lv_iload_n hx hb d_PA_queueTree_6 rfl (lv_at hl 2 rfl) ?_
  refine lv_iconst (v := (-1)) hx hb d_PA_queueTree_7 (by decide) ?_
  refine lv_iconst (v := (-1)) hx hb d_PA_queueTree_8 (by decide) ?_
  refine xc_V (n := 3) (As := [.int (nI x), .int ((-1)), .int ((-1))]) (rest := []) (st0 := _) hx hb hml hown hts (c_PA_queueDate l D ca b _ k x none none hX hx6 hk.1) km_PA_queueDate tb_211 tb_213 tps_4 tb_4 (by decide +kernel) rfl rfl ⟨Nat.le_of_ble_eq_true rfl, Nat.le_of_ble_eq_true rfl⟩ hK hP (XS_18 hX) (by decide) rfl rfl rfl hl rfl (Nat.le_of_ble_eq_true rfl) d_PA_queueTree_9 ⟨Nat.zero_le _, Nat.zero_le _⟩ hS (fun _ h => h) (fun v C H locs hp hP _ _ hS => ?_)
  obtain ⟨rfl, hX⟩ := hp
  refine lv_iload_n hx hb d_PA_queueTree_12 rfl (lv_at hl 0 rfl) ?_
  refine lv_istore (lv' := [(4, .int (nI k.2.2.2.2)), (3, .int (nI k.2.2.2.2)), (0, .ref (b + 18)), (1, .int (nI x)), (2, .ref (b + 11))]) hx hb d_PA_queueTree_13 hl (by decide) rfl (fun ls hl => ?_)
  have loop15 : ∀ (r : Nat) (i : Nat) (kk : KQ) (C : Nat → va_E) (H : Heap) (locs : List Loc) (ls : Array Slot), 6 < i + r → i ≤ 6 → KOK kk → qT fr tt nf nt k x = qL fr tt nf nt r i kk → va_P D classes (wl b 219 C) H → va_S (xr b 219) s.heap H locs → XS ca b C wt ab be nd fr tt le mo nf tr nt nm fy fb kk.2.2.2.1 kk.2.1 kk.2.2.1 kk.1 im kk.2.2.2.2 hm (gvOf S I P pt ap fa wh st) → lv_has ls 5 [(0, .ref (b + 18)), (1, .int (nI x)), (2, .ref (b + 11)), (4, .int (nI i))] → W p l e (headSpec (k_PA_queueTree :: gw) ({ frames := 3, cells := 0, slots := 0, locals := 59 })).room s m args below meth c H locs 0 0 (MQ below (xQ D b 219 (fun r C1 => r = none ∧ XS ca b C1 wt ab be nd fr tt le mo nf tr nt nm fy fb ((qT fr tt nf nt k x).2.2.2.1) ((qT fr tt nf nt k x).2.1) ((qT fr tt nf nt k x).2.2.1) ((qT fr tt nf nt k x).1) im ((qT fr tt nf nt k x).2.2.2.2) hm (gvOf S I P pt ap fa wh st))) args s 0 0 (xr b 219)) (F0 m 15 ls []) := by
    intro r
    induction r with
    | zero => intro i kk C H locs ls hms hi6 hkk hI; exact absurd hms (by have := hkk.1; omega)
    | succ r ih15 =>
      intro i kk C H locs ls hms hi6 hkk hI hP hS hX hl
      have hkk6 := hkk.1
      refine lv_iload hx hb d_PA_queueTree_15 (lv_at hl 3 rfl) ?_
      refine lv_aload_n hx hb d_PA_queueTree_17 rfl (lv_at hl 0 rfl) ?_
      refine xw_get (v := .int (nI kk.2.2.2.2)) hx hb hts (fun w h => mw (uw_PA w h)) hown hK hP (XS_18 hX) (by decide) rfl 13 (by decide) (hts _ (mw tb_114)) (fun _ h => h) rfl d_PA_queueTree_18 ?_
      refine xi_ge (tgt := 49) hx hb d_PA_queueTree_21 (by decide) (by omega) (by omega) (fun h21 => ?_) (fun h21 => ?_)
      · skip
        exact xw_vret hx hb hr hlocks hP hS ⟨rfl, by rw [hI, qL, if_neg (by omega)]; exact hX⟩ d_PA_queueTree_49
      · skip
        refine lv_iload hx hb d_PA_queueTree_24 (lv_at hl 3 rfl) ?_
        refine lv_bipush (v := nI 6) hx hb d_PA_queueTree_26 (by decide) ?_
        refine xi_ge (tgt := 49) hx hb d_PA_queueTree_28 (by decide) (by omega) (by omega) (fun h28 => ?_) (fun h28 => ?_)
        · skip
          exact xw_vret hx hb hr hlocks hP hS ⟨rfl, by rw [hI, qL, if_neg (by omega)]; exact hX⟩ d_PA_queueTree_49
        · skip
          refine lv_aload_n hx hb d_PA_queueTree_31 rfl (lv_at hl 0 rfl) ?_
          refine lv_aload_n hx hb d_PA_queueTree_32 rfl (lv_at hl 0 rfl) ?_
          refine xw_get (v := .ref (b + 30)) hx hb hts (fun w h => mw (uw_PA w h)) hown hK hP (XS_18 hX) (by decide) rfl 8 (by decide) (hts _ (mw tb_109)) (fun _ h => h) rfl d_PA_queueTree_33 ?_
          refine lv_iload hx hb d_PA_queueTree_36 (lv_at hl 3 rfl) ?_
          refine xw_iald hx hb hK hP 0 (XS_30 hX) (by decide) rfl (by omega) (by decide) d_PA_queueTree_38 ?_
          refine lv_aload_n hx hb d_PA_queueTree_39 rfl (lv_at hl 2 rfl) ?_
          refine xc_V (n := 2) (As := [.int (nI (kk.2.2.2.1 i)), .ref (b + 11)]) (rest := []) (st0 := _) hx hb hml hown hts (c_PA_queueChildren l D ca b _ kk (kk.2.2.2.1 i) hX hT (hkk.2 i (by omega)) hkk) km_PA_queueChildren tb_215 tb_217 tps_5 tb_4 (by decide +kernel) rfl rfl ⟨Nat.le_of_ble_eq_true rfl, Nat.le_of_ble_eq_true rfl⟩ hK hP (XS_18 hX) (by decide) rfl rfl rfl hl rfl (Nat.le_of_ble_eq_true rfl) d_PA_queueTree_40 ⟨Nat.zero_le _, Nat.zero_le _⟩ hS (fun _ h => h) (fun v C H locs hp hP _ _ hS => ?_)
          obtain ⟨rfl, hX⟩ := hp
          refine lv_iinc (v := nI (i + 1)) (lv' := [(4, .int (nI (i + 1))), (0, .ref (b + 18)), (1, .int (nI x)), (2, .ref (b + 11))]) hx hb d_PA_queueTree_43 hl (k := 3) rfl (show nI i + Int32.ofInt 1 = nI (i + 1) from nI_add _ _) (by decide) rfl (fun ls hl => ?_)
          refine lv_goto (tgt := 15) hx hb d_PA_queueTree_46 (by decide) ?_
          exact ih15 (i + 1) (qC fr tt nf (kk.2.2.2.1 i) kk nt) _ _ _ _ (by omega) (by omega) (KOK_qC hT hkk nt (Nat.le_refl _)) (by rw [hI, qL, if_pos ⟨h21, h28⟩]) hP hS hX (lv_sub hl [1, 2, 3, 0] rfl)
  exact loop15 7 k.2.2.2.2 (qD k x none none) _ _ _ _ (by omega) (by omega) (KOK_qD hk hx6) rfl hP hS hX (lv_sub hl [2, 3, 4, 0] rfl)

