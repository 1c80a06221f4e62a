/-! Passing: orderDates, startSums -/
def noB (n : Nat) (f : Nat → Bool) : Nat → Bool := fun k => if k < n then false else f k
theorem noB_0 (f : Nat → Bool) : noB 0 f = f := by funext k; simp [noB]
theorem noB_s (n : Nat) (f : Nat → Bool) : va_up (noB n f) n false = noB (n + 1) f := by
  funext k
  by_cases q : k = n
  · subst q; rw [va_up_self]; simp [noB]
  · rw [va_up_ne _ _ q]
    by_cases q2 : k < n
    · simp [noB, q2, show k < n + 1 by omega]
    · simp [noB, q2, show ¬ k < n + 1 by omega]
def clrK (k : KQ) : KQ := (noB 6 k.1, k.2.1, k.2.2.1, k.2.2.2.1, 0)
theorem KOK_clr (k : KQ) : KOK (clrK k) := ⟨Nat.zero_le _, fun j hj => absurd hj (Nat.not_lt_zero j)⟩
def imU (fr : Nat → Nat) (tt : Nat → Option Nat) (nf : Nat → Bool) (im : Nat → Bool) : Nat → (Nat → Bool)
  | 0 => noB 6 im
  | i + 1 => match memO fr tt nf i with
    | none => imU fr tt nf im i
    | some e => va_up (imU fr tt nf im i) e true
def qM (fr : Nat → Nat) (tt : Nat → Option Nat) (nf : Nat → Bool) (nt : Nat) (k : KQ) : Nat → KQ
  | 0 => k
  | i + 1 => match memO fr tt nf i with
    | none => qM fr tt nf nt k i
    | some e => qT fr tt nf nt (qM fr tt nf nt k i) e
def qA (fr : Nat → Nat) (tt : Nat → Option Nat) (nf : Nat → Bool) (nt : Nat) (k : KQ) : Nat → KQ
  | 0 => k
  | j + 1 => qT fr tt nf nt (qA fr tt nf nt k j) j
theorem imU_none {fr : Nat → Nat} {tt : Nat → Option Nat} {nf im : Nat → Bool} {i : Nat} (h : memO fr tt nf i = none) : imU fr tt nf im (i + 1) = imU fr tt nf im i := by
  show (match memO fr tt nf i with | none => imU fr tt nf im i | some e => va_up (imU fr tt nf im i) e true) = _
  rw [h]
theorem imU_some {fr : Nat → Nat} {tt : Nat → Option Nat} {nf im : Nat → Bool} {i e : Nat} (h : memO fr tt nf i = some e) : imU fr tt nf im (i + 1) = va_up (imU fr tt nf im i) e true := by
  show (match memO fr tt nf i with | none => imU fr tt nf im i | some e => va_up (imU fr tt nf im i) e true) = _
  rw [h]
theorem qM_none {fr : Nat → Nat} {tt : Nat → Option Nat} {nf : Nat → Bool} {nt : Nat} {k : KQ} {i : Nat} (h : memO fr tt nf i = none) : qM fr tt nf nt k (i + 1) = qM fr tt nf nt k i := by
  show (match memO fr tt nf i with | none => qM fr tt nf nt k i | some e => qT fr tt nf nt (qM fr tt nf nt k i) e) = _
  rw [h]
theorem qM_some {fr : Nat → Nat} {tt : Nat → Option Nat} {nf : Nat → Bool} {nt : Nat} {k : KQ} {i e : Nat} (h : memO fr tt nf i = some e) : qM fr tt nf nt k (i + 1) = qT fr tt nf nt (qM fr tt nf nt k i) e := by
  show (match memO fr tt nf i with | none => qM fr tt nf nt k i | some e => qT fr tt nf nt (qM fr tt nf nt k i) e) = _
  rw [h]
theorem KOK_qM {fr : Nat → Nat} {tt : Nat → Option Nat} {nf : Nat → Bool} {nt : Nat} {k : KQ} (hT : TOK fr tt nt) (h : KOK k) : ∀ i, i ≤ nt → KOK (qM fr tt nf nt k i) := by
  intro i
  induction i with
  | zero => intro _; exact h
  | succ i ih =>
    intro hi
    cases q : memO fr tt nf i with
    | none => rw [qM_none q]; exact ih (by omega)
    | some e => rw [qM_some q]; exact KOK_qT hT (memO_lt hT (by omega) q) (ih (by omega))
theorem KOK_qA {fr : Nat → Nat} {tt : Nat → Option Nat} {nf : Nat → Bool} {nt : Nat} {k : KQ} (hT : TOK fr tt nt) (h : KOK k) : ∀ j, j ≤ 6 → KOK (qA fr tt nf nt k j) := by
  intro j
  induction j with
  | zero => intro _; exact h
  | succ j ih => intro hj; exact KOK_qT hT (by omega) (ih (by omega))
/-- the order from a root: its tree, the members' trees, the rest -/
def ordH (fr : Nat → Nat) (tt : Nat → Option Nat) (nf : Nat → Bool) (nt : Nat) (k : KQ) (x : Nat) : KQ := qT fr tt nf nt (clrK k) x
def ordK (fr : Nat → Nat) (tt : Nat → Option Nat) (nf : Nat → Bool) (nt : Nat) (k : KQ) (x n : Nat) : KQ := qA fr tt nf nt (qM fr tt nf nt (ordH fr tt nf nt k x) nt) n
theorem KOK_ordH {fr : Nat → Nat} {tt : Nat → Option Nat} {nf : Nat → Bool} {nt x : Nat} {k : KQ} (hT : TOK fr tt nt) (hx : x < 6) : KOK (ordH fr tt nf nt k x) := KOK_qT hT hx (KOK_clr k)
theorem KOK_ordK {fr : Nat → Nat} {tt : Nat → Option Nat} {nf : Nat → Bool} {nt x n : Nat} {k : KQ} (hT : TOK fr tt nt) (hx : x < 6) (hn : n ≤ 6) : KOK (ordK fr tt nf nt k x n) := KOK_qA hT (KOK_qM hT (KOK_ordH hT hx) nt (Nat.le_refl _)) n hn
set_option maxHeartbeats 4000000 in
set_option maxRecDepth 100000 in
/-- the dates are ordered from a root -/
theorem c_PA_orderDates (l : Launch) (D : va_G) (ca : Nat → ClassId) (b : Nat) (C0 : Nat → va_E) {wt : Nat → Nat → Nat} {ab : Nat → Nat} {be : Nat → Nat} {nd : Nat} {fr : Nat → Nat} {tt : Nat → Option Nat} {le : Nat → Nat} {mo : Nat → Nat} {nf : Nat → Bool} {tr : Nat → Nat} {nt : Nat} {nm : Nat} {fy : Nat → Option Nat} {fb : Nat → Option Nat} {im : Nat → Bool} {hm : Nat} {S : Nat → Nat → Nat} {I : Nat → Nat} {P : Nat → Nat} {pt : Nat} {ap : Nat} {fa : Nat} {wh : Nat} {st : Nat} (k : KQ) (x n : Nat) (hX : XS ca b C0 wt ab be nd fr tt le mo nf tr nt nm fy fb k.2.2.2.1 k.2.1 k.2.2.1 k.1 im k.2.2.2.2 hm (gvOf S I P pt ap fa wh st)) (hT : TOK fr tt nt) (hx6 : x < 6) (hn6 : n ≤ 6) : Met l y_PA_orderDates (k_PA_orderDates :: gw) ({ frames := 4, cells := 0, slots := 0, locals := 83 }) (xPc D ca b 219 C0 [.ref (b + 18), .int (nI x), .int (nI n), .ref (b + 11)]) (xQ D b 219 (fun r C1 => r = none ∧ XS ca b C1 wt ab be nd fr tt le mo nf tr nt nm fy fb ((ordK fr tt nf nt k x n).2.2.2.1) ((ordK fr tt nf nt k x n).2.1) ((ordK fr tt nf nt k x n).2.2.1) ((ordK fr tt nf nt k x n).1) (imU fr tt nf im nt) ((ordK fr tt nf nt k x n).2.2.2.2) ((ordH fr tt nf nt k x).2.2.2.2) (gvOf S I P pt ap fa wh st))) 0 0 (xr b 219) := by
  refine Met.ofW (cc := b_PA_orderDates) (maxL := 6) (ret := none) (by decide) rfl ?_
  intro p e s m args below meth c s₁ B hml hv
  obtain ⟨hav, hP, hK⟩ := hv
  have hx := B.exec
  have hb := B.bytes
  have hr := B.returns
  have hts := atoms_spec (ws := k_PA_orderDates :: gw) B.pre
  have hown : s.vm.findClass R_PA = some m.cls := findClass_of_methodNamed B.named
  have hlocks := B.notSynchronized
  have hA : ∀ k, k < 219 → xr b 219 (b + k) := xr_in
  have hS : va_S (xr b 219) s.heap s.heap [] := va_S.rf
  have hl := lv_entry ([.ref (b + 18), .int (nI x), .int (nI n), .ref (b + 11)]) (n := 6) (Nat.le_of_ble_eq_true rfl)
  rw [hav, lg_entry_eq]
  generalize (lg_sl ([.ref (b + 18), .int (nI x), .int (nI n), .ref (b + 11)]) ++ List.replicate (6 - (lg_sl ([.ref (b + 18), .int (nI x), .int (nI n), .ref (b + 11)])).length) Slot.unset).toArray = ls at hl ⊢
  have hl : lv_has ls 6 [(0, .ref (b + 18)), (1, .int (nI x)), (2, .int (nI n)), (3, .ref (b + 11))] := hl
  rw [← hav]
  have hT6 := hT.1
  refine lv_aload_n hx hb d_PA_orderDates_0 rfl (lv_at hl 0 rfl) ?_
  refine lv_iconst (v := nI 0) hx hb d_PA_orderDates_1 (by decide) ?_
  refine xw_put (v := .int (nI 0)) (ty := t_PA 13) hx hb hts (fun w h => mw (uw_PA w h)) t_PA t_PA_ok n_PA hown hK hP hA hS (XS_18 hX) (by decide) rfl 13 (by decide) (hts _ (mw tb_114)) (fun _ h => h) rfl (by decide +kernel) rfl rfl (Nat.le_of_ble_eq_true rfl) d_PA_orderDates_2 (fun H locs hP hS => ?_)
  have hX := XS_set_qd (x1 := 0) hX
  generalize va_up _ 18 _ = C at hP hX
  refine lv_iconst (v := nI 0) hx hb d_PA_orderDates_5 (by decide) ?_
  refine lv_istore (lv' := [(4, .int (nI 0)), (0, .ref (b + 18)), (1, .int (nI x)), (2, .int (nI n)), (3, .ref (b + 11))]) hx hb d_PA_orderDates_6 hl (by decide) rfl (fun ls hl => ?_)
  have loop8 : ∀ (r : Nat) (i : Nat) (C : Nat → va_E) (H : Heap) (locs : List Loc) (ls : Array Slot), 6 < i + r → i ≤ 6 → va_P D classes (wl b 219 C) H → va_S (xr b 219) s.heap H locs → XS ca b C wt ab be nd fr tt le mo nf tr nt nm fy fb k.2.2.2.1 k.2.1 k.2.2.1 (noB i k.1) (noB i im) 0 hm (gvOf S I P pt ap fa wh st) → lv_has ls 6 [(0, .ref (b + 18)), (1, .int (nI x)), (2, .int (nI n)), (3, .ref (b + 11)), (4, .int (nI i))] → W p l e (headSpec (k_PA_orderDates :: gw) ({ frames := 4, cells := 0, slots := 0, locals := 83 })).room s m args below meth c H locs 0 0 (MQ below (xQ D b 219 (fun r C1 => r = none ∧ XS ca b C1 wt ab be nd fr tt le mo nf tr nt nm fy fb ((ordK fr tt nf nt k x n).2.2.2.1) ((ordK fr tt nf nt k x n).2.1) ((ordK fr tt nf nt k x n).2.2.1) ((ordK fr tt nf nt k x n).1) (imU fr tt nf im nt) ((ordK fr tt nf nt k x n).2.2.2.2) ((ordH fr tt nf nt k x).2.2.2.2) (gvOf S I P pt ap fa wh st))) args s 0 0 (xr b 219)) (F0 m 8 ls []) := by
    intro r
    induction r with
    | zero => intro i C H locs ls hms hi; exact absurd hms (by omega)
    | succ r ih8 =>
      intro i C H locs ls hms hi hP hS hX hl
      refine lv_iload hx hb d_PA_orderDates_8 (lv_at hl 4 rfl) ?_
      refine lv_bipush (v := nI 6) hx hb d_PA_orderDates_10 (by decide) ?_
      refine xi_ge (tgt := 37) hx hb d_PA_orderDates_12 (by decide) (by omega) (by omega) (fun h12 => ?_) (fun h12 => ?_)
      · skip
        have ei : i = 6 := by omega
        rw [ei] at hX
        refine lv_aload_n hx hb d_PA_orderDates_37 rfl (lv_at hl 0 rfl) ?_
        refine lv_iload_n hx hb d_PA_orderDates_38 rfl (lv_at hl 1 rfl) ?_
        refine lv_aload_n hx hb d_PA_orderDates_39 rfl (lv_at hl 3 rfl) ?_
        refine xc_V (n := 2) (As := [.int (nI x), .ref (b + 11)]) (rest := []) (st0 := _) hx hb hml hown hts (c_PA_queueTree l D ca b _ ((clrK k)) x hX hT hx6 (KOK_clr k)) km_PA_queueTree tb_207 tb_209 tps_3 tb_4 (by decide +kernel) rfl rfl ⟨Nat.le_of_ble_eq_true rfl, Nat.le_of_ble_eq_true rfl⟩ hK hP (XS_18 hX) (by decide) rfl rfl rfl hl rfl (Nat.le_of_ble_eq_true rfl) d_PA_orderDates_40 ⟨Nat.zero_le _, Nat.zero_le _⟩ hS (fun _ h => h) (fun v C H locs hp hP _ _ hS => ?_)
        obtain ⟨rfl, hX⟩ := hp
        refine lv_aload_n hx hb d_PA_orderDates_43 rfl (lv_at hl 0 rfl) ?_
        refine lv_aload_n hx hb d_PA_orderDates_44 rfl (lv_at hl 0 rfl) ?_
        refine xw_get (v := .int (nI ((ordH fr tt nf nt k x).2.2.2.2))) hx hb hts (fun w h => mw (uw_PA w h)) hown hK hP (XS_18 hX) (by decide) rfl 13 (by decide) (hts _ (mw tb_114)) (fun _ h => h) rfl d_PA_orderDates_45 ?_
        refine xw_put (v := .int (nI ((ordH fr tt nf nt k x).2.2.2.2))) (ty := t_PA 14) hx hb hts (fun w h => mw (uw_PA w h)) t_PA t_PA_ok n_PA hown hK hP hA hS (XS_18 hX) (by decide) rfl 14 (by decide) (hts _ (mw tb_115)) (fun _ h => h) rfl (by decide +kernel) rfl rfl (Nat.le_of_ble_eq_true rfl) d_PA_orderDates_48 (fun H locs hP hS => ?_)
        have hX := XS_set_hm (x1 := (ordH fr tt nf nt k x).2.2.2.2) hX
        generalize va_up _ 18 _ = C at hP hX
        refine lv_iconst (v := nI 0) hx hb d_PA_orderDates_51 (by decide) ?_
        refine lv_istore (lv' := [(4, .int (nI 0)), (0, .ref (b + 18)), (1, .int (nI x)), (2, .int (nI n)), (3, .ref (b + 11))]) hx hb d_PA_orderDates_52 hl (by decide) rfl (fun ls hl => ?_)
        have loop54 : ∀ (r : Nat) (j : Nat) (C : Nat → va_E) (H : Heap) (locs : List Loc) (ls : Array Slot), nt < j + r → j ≤ nt → va_P D classes (wl b 219 C) H → va_S (xr b 219) s.heap H locs → XS ca b C wt ab be nd fr tt le mo nf tr nt nm fy fb ((qM fr tt nf nt (ordH fr tt nf nt k x) j).2.2.2.1) ((qM fr tt nf nt (ordH fr tt nf nt k x) j).2.1) ((qM fr tt nf nt (ordH fr tt nf nt k x) j).2.2.1) ((qM fr tt nf nt (ordH fr tt nf nt k x) j).1) (imU fr tt nf im j) ((qM fr tt nf nt (ordH fr tt nf nt k x) j).2.2.2.2) ((ordH fr tt nf nt k x).2.2.2.2) (gvOf S I P pt ap fa wh st) → lv_has ls 6 [(0, .ref (b + 18)), (1, .int (nI x)), (2, .int (nI n)), (3, .ref (b + 11)), (4, .int (nI j))] → W p l e (headSpec (k_PA_orderDates :: gw) ({ frames := 4, cells := 0, slots := 0, locals := 83 })).room s m args below meth c H locs 0 0 (MQ below (xQ D b 219 (fun r C1 => r = none ∧ XS ca b C1 wt ab be nd fr tt le mo nf tr nt nm fy fb ((ordK fr tt nf nt k x n).2.2.2.1) ((ordK fr tt nf nt k x n).2.1) ((ordK fr tt nf nt k x n).2.2.1) ((ordK fr tt nf nt k x n).1) (imU fr tt nf im nt) ((ordK fr tt nf nt k x n).2.2.2.2) ((ordH fr tt nf nt k x).2.2.2.2) (gvOf S I P pt ap fa wh st))) args s 0 0 (xr b 219)) (F0 m 54 ls []) := by
          intro r
          induction r with
          | zero => intro j C H locs ls hms hj; exact absurd hms (by omega)
          | succ r ih54 =>
            intro j C H locs ls hms hj hP hS hX hl
            refine lv_iload hx hb d_PA_orderDates_54 (lv_at hl 4 rfl) ?_
            refine lv_aload_n hx hb d_PA_orderDates_56 rfl (lv_at hl 3 rfl) ?_
            refine xc_V (n := 0) (As := []) (rest := [.int (nI j)]) (st0 := _) hx hb hml hown hts (c_TE_number l D ca b _  hX ) km_TE_number tb_219 tb_220 tb_221 tb_3 (by decide +kernel) rfl rfl ⟨Nat.le_of_ble_eq_true rfl, Nat.le_of_ble_eq_true rfl⟩ hK hP (XS_11 hX) (by decide) rfl rfl rfl hl rfl (Nat.le_of_ble_eq_true rfl) d_PA_orderDates_57 ⟨Nat.zero_le _, Nat.zero_le _⟩ hS (fun _ h => h) (fun v C H locs hp hP _ _ hS => ?_)
            obtain ⟨rfl, hX⟩ := hp
            refine xi_ge (tgt := 98) hx hb d_PA_orderDates_60 (by decide) (by omega) (by omega) (fun h60 => ?_) (fun h60 => ?_)
            · skip
              have ej : j = nt := by omega
              rw [ej] at hX
              refine lv_iconst (v := nI 0) hx hb d_PA_orderDates_98 (by decide) ?_
              refine lv_istore (lv' := [(4, .int (nI 0)), (0, .ref (b + 18)), (1, .int (nI x)), (2, .int (nI n)), (3, .ref (b + 11))]) hx hb d_PA_orderDates_99 hl (by decide) rfl (fun ls hl => ?_)
              have loop101 : ∀ (r : Nat) (d : Nat) (C : Nat → va_E) (H : Heap) (locs : List Loc) (ls : Array Slot), n < d + r → d ≤ n → va_P D classes (wl b 219 C) H → va_S (xr b 219) s.heap H locs → XS ca b C wt ab be nd fr tt le mo nf tr nt nm fy fb ((qA fr tt nf nt (qM fr tt nf nt (ordH fr tt nf nt k x) nt) d).2.2.2.1) ((qA fr tt nf nt (qM fr tt nf nt (ordH fr tt nf nt k x) nt) d).2.1) ((qA fr tt nf nt (qM fr tt nf nt (ordH fr tt nf nt k x) nt) d).2.2.1) ((qA fr tt nf nt (qM fr tt nf nt (ordH fr tt nf nt k x) nt) d).1) (imU fr tt nf im nt) ((qA fr tt nf nt (qM fr tt nf nt (ordH fr tt nf nt k x) nt) d).2.2.2.2) ((ordH fr tt nf nt k x).2.2.2.2) (gvOf S I P pt ap fa wh st) → lv_has ls 6 [(0, .ref (b + 18)), (1, .int (nI x)), (2, .int (nI n)), (3, .ref (b + 11)), (4, .int (nI d))] → W p l e (headSpec (k_PA_orderDates :: gw) ({ frames := 4, cells := 0, slots := 0, locals := 83 })).room s m args below meth c H locs 0 0 (MQ below (xQ D b 219 (fun r C1 => r = none ∧ XS ca b C1 wt ab be nd fr tt le mo nf tr nt nm fy fb ((ordK fr tt nf nt k x n).2.2.2.1) ((ordK fr tt nf nt k x n).2.1) ((ordK fr tt nf nt k x n).2.2.1) ((ordK fr tt nf nt k x n).1) (imU fr tt nf im nt) ((ordK fr tt nf nt k x n).2.2.2.2) ((ordH fr tt nf nt k x).2.2.2.2) (gvOf S I P pt ap fa wh st))) args s 0 0 (xr b 219)) (F0 m 101 ls []) := by
                intro r
                induction r with
                | zero => intro d C H locs ls hms hd; exact absurd hms (by omega)
                | succ r ih101 =>
                  intro d C H locs ls hms hd hP hS hX hl
                  refine lv_iload hx hb d_PA_orderDates_101 (lv_at hl 4 rfl) ?_
                  refine lv_iload_n hx hb d_PA_orderDates_103 rfl (lv_at hl 2 rfl) ?_
                  refine xi_ge (tgt := 120) hx hb d_PA_orderDates_104 (by decide) (by omega) (by omega) (fun h104 => ?_) (fun h104 => ?_)
                  · skip
                    have ed : d = n := by omega
                    rw [ed] at hX
                    exact xw_vret hx hb hr hlocks hP hS ⟨rfl, hX⟩ d_PA_orderDates_120
                  · skip
                    refine lv_aload_n hx hb d_PA_orderDates_107 rfl (lv_at hl 0 rfl) ?_
                    refine lv_iload hx hb d_PA_orderDates_108 (lv_at hl 4 rfl) ?_
                    refine lv_aload_n hx hb d_PA_orderDates_110 rfl (lv_at hl 3 rfl) ?_
                    refine xc_V (n := 2) (As := [.int (nI d), .ref (b + 11)]) (rest := []) (st0 := _) hx hb hml hown hts (c_PA_queueTree l D ca b _ ((qA fr tt nf nt (qM fr tt nf nt (ordH fr tt nf nt k x) nt) d)) d hX hT (by omega) (KOK_qA hT (KOK_qM hT (KOK_ordH hT hx6) nt (Nat.le_refl _)) d (by omega))) km_PA_queueTree tb_207 tb_209 tps_3 tb_4 (by decide +kernel) rfl rfl ⟨Nat.le_of_ble_eq_true rfl, Nat.le_of_ble_eq_true rfl⟩ hK hP (XS_18 hX) (by decide) rfl rfl rfl hl rfl (Nat.le_of_ble_eq_true rfl) d_PA_orderDates_111 ⟨Nat.zero_le _, Nat.zero_le _⟩ hS (fun _ h => h) (fun v C H locs hp hP _ _ hS => ?_)
                    obtain ⟨rfl, hX⟩ := hp
                    refine lv_iinc (v := nI (d + 1)) (lv' := [(4, .int (nI (d + 1))), (0, .ref (b + 18)), (1, .int (nI x)), (2, .int (nI n)), (3, .ref (b + 11))]) hx hb d_PA_orderDates_114 hl (k := 4) rfl (show nI d + Int32.ofInt 1 = nI (d + 1) from nI_add _ _) (by decide) rfl (fun ls hl => ?_)
                    refine lv_goto (tgt := 101) hx hb d_PA_orderDates_117 (by decide) ?_
                    exact ih101 (d + 1) _ _ _ _ (by omega) (by omega) hP hS hX (lv_sub hl [1, 2, 3, 4, 0] rfl)
              exact loop101 (n + 1) 0 _ _ _ _ (by omega) (by omega) hP hS hX (lv_sub hl [1, 2, 3, 4, 0] rfl)
            · skip
              refine lv_aload_n hx hb d_PA_orderDates_63 rfl (lv_at hl 3 rfl) ?_
              refine lv_iload hx hb d_PA_orderDates_64 (lv_at hl 4 rfl) ?_
              refine xc_V (n := 1) (As := [.int (nI j)]) (rest := []) (st0 := _) hx hb hml hown hts (c_TE_memberOf l D ca b _ j hX hT h60) km_TE_memberOf tb_227 tb_228 tb_229 tb_3 (by decide +kernel) rfl rfl ⟨Nat.le_of_ble_eq_true rfl, Nat.le_of_ble_eq_true rfl⟩ hK hP (XS_11 hX) (by decide) rfl rfl rfl hl rfl (Nat.le_of_ble_eq_true rfl) d_PA_orderDates_66 ⟨Nat.zero_le _, Nat.zero_le _⟩ hS (fun _ h => h) (fun v C H locs hp hP _ _ hS => ?_)
              obtain ⟨rfl, hX⟩ := hp
              refine lv_istore (lv' := [(5, .int (eo (memO fr tt nf j))), (0, .ref (b + 18)), (1, .int (nI x)), (2, .int (nI n)), (3, .ref (b + 11)), (4, .int (nI j))]) hx hb d_PA_orderDates_69 hl (by decide) rfl (fun ls hl => ?_)
              refine lv_iload hx hb d_PA_orderDates_71 (lv_at hl 0 rfl) ?_
              refine lv_iconst (v := (-1)) hx hb d_PA_orderDates_73 (by decide) ?_
              refine xo_eq (tgt := 92) hx hb d_PA_orderDates_74 (by decide) (fun z hz => by have := memO_lt hT h60 hz; omega) (fun h74 => ?_) (fun d74 h74 => ?_)
              · skip
                rw [← imU_none (im := im) h74, ← qM_none (nt := nt) (k := ordH fr tt nf nt k x) h74] at hX
                refine lv_iinc (v := nI (j + 1)) (lv' := [(4, .int (nI (j + 1))), (5, .int (eo (memO fr tt nf j))), (0, .ref (b + 18)), (1, .int (nI x)), (2, .int (nI n)), (3, .ref (b + 11))]) hx hb d_PA_orderDates_92 hl (k := 5) rfl (show nI j + Int32.ofInt 1 = nI (j + 1) from nI_add _ _) (by decide) rfl (fun ls hl => ?_)
                refine lv_goto (tgt := 54) hx hb d_PA_orderDates_95 (by decide) ?_
                exact ih54 (j + 1) _ _ _ _ (by omega) (by omega) hP hS hX (lv_sub hl [2, 3, 4, 5, 0] rfl)
              · skip
                refine lv_aload_n hx hb d_PA_orderDates_77 rfl (lv_at hl 1 rfl) ?_
                refine xw_get (v := .ref (b + 34)) hx hb hts (fun w h => mw (uw_PA w h)) hown hK hP (XS_18 hX) (by decide) rfl 12 (by decide) (hts _ (mw tb_113)) (fun _ h => h) rfl d_PA_orderDates_78 ?_
                refine lv_iload hx hb d_PA_orderDates_81 (lv_at hl 0 rfl) ?_
                refine ti (nI d74) (by rw [h74]; rfl) ?_
                refine lv_iconst (v := nI 1) hx hb d_PA_orderDates_83 (by decide) ?_
                refine xw_zast hx hb hK hP hA hS 2 (XS_34 hX) (by decide) rfl (memO_lt hT h60 h74) (by decide) d_PA_orderDates_84 (fun H locs hP hS => ?_)
                have hX := XS_set_im (j := d74) (x := true) hX
                rw [show nI true.toNat = nI 1 from rfl] at hX
                generalize va_up _ 34 _ = C at hP hX
                refine lv_aload_n hx hb d_PA_orderDates_85 rfl (lv_at hl 1 rfl) ?_
                refine lv_iload hx hb d_PA_orderDates_86 (lv_at hl 0 rfl) ?_
                refine ti (nI d74) (by rw [h74]; rfl) ?_
                refine lv_aload_n hx hb d_PA_orderDates_88 rfl (lv_at hl 4 rfl) ?_
                refine xc_V (n := 2) (As := [.int (nI d74), .ref (b + 11)]) (rest := []) (st0 := _) hx hb hml hown hts (c_PA_queueTree l D ca b _ ((qM fr tt nf nt (ordH fr tt nf nt k x) j)) d74 hX hT (memO_lt hT h60 h74) (KOK_qM hT (KOK_ordH hT hx6) j hj)) km_PA_queueTree tb_207 tb_209 tps_3 tb_4 (by decide +kernel) rfl rfl ⟨Nat.le_of_ble_eq_true rfl, Nat.le_of_ble_eq_true rfl⟩ hK hP (XS_18 hX) (by decide) rfl rfl rfl hl rfl (Nat.le_of_ble_eq_true rfl) d_PA_orderDates_89 ⟨Nat.zero_le _, Nat.zero_le _⟩ hS (fun _ h => h) (fun v C H locs hp hP _ _ hS => ?_)
                obtain ⟨rfl, hX⟩ := hp
                rw [← imU_some (im := im) h74, ← qM_some (nt := nt) (k := ordH fr tt nf nt k x) h74] at hX
                refine lv_iinc (v := nI (j + 1)) (lv' := [(4, .int (nI (j + 1))), (5, .int (eo (memO fr tt nf j))), (0, .ref (b + 18)), (1, .int (nI x)), (2, .int (nI n)), (3, .ref (b + 11))]) hx hb d_PA_orderDates_92 hl (k := 5) rfl (show nI j + Int32.ofInt 1 = nI (j + 1) from nI_add _ _) (by decide) rfl (fun ls hl => ?_)
                refine lv_goto (tgt := 54) hx hb d_PA_orderDates_95 (by decide) ?_
                exact ih54 (j + 1) _ _ _ _ (by omega) (by omega) hP hS hX (lv_sub hl [2, 3, 4, 5, 0] rfl)
        exact loop54 (nt + 1) 0 _ _ _ _ (by omega) (by omega) hP hS hX (lv_sub hl [1, 2, 3, 4, 0] rfl)
      · skip
        refine lv_aload_n hx hb d_PA_orderDates_15 rfl (lv_at hl 0 rfl) ?_
        refine xw_get (v := .ref (b + 33)) hx hb hts (fun w h => mw (uw_PA w h)) hown hK hP (XS_18 hX) (by decide) rfl 11 (by decide) (hts _ (mw tb_112)) (fun _ h => h) rfl d_PA_orderDates_16 ?_
        refine lv_iload hx hb d_PA_orderDates_19 (lv_at hl 4 rfl) ?_
        refine lv_iconst (v := nI 0) hx hb d_PA_orderDates_21 (by decide) ?_
        refine xw_zast hx hb hK hP hA hS 2 (XS_33 hX) (by decide) rfl (by omega) (by decide) d_PA_orderDates_22 (fun H locs hP hS => ?_)
        have hX := XS_set_se (j := i) (x := false) hX
        rw [show nI false.toNat = nI 0 from rfl] at hX
        generalize va_up _ 33 _ = C at hP hX
        refine lv_aload_n hx hb d_PA_orderDates_23 rfl (lv_at hl 0 rfl) ?_
        refine xw_get (v := .ref (b + 34)) hx hb hts (fun w h => mw (uw_PA w h)) hown hK hP (XS_18 hX) (by decide) rfl 12 (by decide) (hts _ (mw tb_113)) (fun _ h => h) rfl d_PA_orderDates_24 ?_
        refine lv_iload hx hb d_PA_orderDates_27 (lv_at hl 4 rfl) ?_
        refine lv_iconst (v := nI 0) hx hb d_PA_orderDates_29 (by decide) ?_
        refine xw_zast hx hb hK hP hA hS 2 (XS_34 hX) (by decide) rfl (by omega) (by decide) d_PA_orderDates_30 (fun H locs hP hS => ?_)
        have hX := XS_set_im (j := i) (x := false) hX
        rw [show nI false.toNat = nI 0 from rfl] at hX
        generalize va_up _ 34 _ = C at hP hX
        refine lv_iinc (v := nI (i + 1)) (lv' := [(4, .int (nI (i + 1))), (0, .ref (b + 18)), (1, .int (nI x)), (2, .int (nI n)), (3, .ref (b + 11))]) hx hb d_PA_orderDates_31 hl (k := 4) rfl (show nI i + Int32.ofInt 1 = nI (i + 1) from nI_add _ _) (by decide) rfl (fun ls hl => ?_)
        refine lv_goto (tgt := 8) hx hb d_PA_orderDates_34 (by decide) ?_
        rw [noB_s, noB_s] at hX
        exact ih8 (i + 1) _ _ _ _ (by omega) (by omega) hP hS hX (lv_sub hl [1, 2, 3, 4, 0] rfl)
  rw [← noB_0 k.1, ← noB_0 im] at hX
  exact loop8 7 0 _ _ _ _ (by omega) (by omega) hP hS hX (lv_sub hl [1, 2, 3, 4, 0] rfl)

/-- what a year counts for a date -/
def cnt (wt : Nat → Nat → Nat) (ab be : Nat → Nat) (d y : Nat) : Nat := (be d - ab d) * 12 * wt d y + ab d * sm (wt d) 12
/-- .. if its year is open -/
def s0 (wt : Nat → Nat → Nat) (ab be : Nat → Nat) (fy : Nat → Option Nat) (d y : Nat) : Nat := if fy d = none ∨ fy d = some y then cnt wt ab be d y else 0
def stS (wt : Nat → Nat → Nat) (ab be : Nat → Nat) (fy : Nat → Option Nat) (S : Nat → Nat → Nat) : Nat → (Nat → Nat → Nat)
  | 0 => S
  | d + 1 => rowS (stS wt ab be fy S d) d 12 (s0 wt ab be fy d)
/-- the bounds of weights and shares -/
def DOK (wt : Nat → Nat → Nat) (ab be : Nat → Nat) (nd : Nat) : Prop := nd ≤ 6 ∧ ∀ d, d < nd → ab d ≤ be d ∧ be d ≤ 10 ∧ ∀ y, y < 12 → wt d y ≤ 999
theorem cnt_le {wt : Nat → Nat → Nat} {ab be : Nat → Nat} {nd d y : Nat} (h : DOK wt ab be nd) (hd : d < nd) (hy : y < 12) : (be d - ab d) * 12 * wt d y ≤ 119880 ∧ ab d * sm (wt d) 12 ≤ 119880 ∧ cnt wt ab be d y ≤ 119880 := by
  obtain ⟨h1, h2, h3⟩ := h.2 d hd
  have e1 : sm (wt d) 12 ≤ 11988 := by
    have := sm_le (F := wt d) (G := fun _ => 999) (n := 12) h3
    exact Nat.le_trans this (by decide)
  have e2 := h3 y hy
  have e3 : (be d - ab d) * 12 * wt d y ≤ (be d - ab d) * 11988 := by
    rw [Nat.mul_assoc]
    exact Nat.mul_le_mul_left _ (by omega)
  have e4 : ab d * sm (wt d) 12 ≤ ab d * 11988 := Nat.mul_le_mul_left _ e1
  have e5 : (be d - ab d) * 11988 + ab d * 11988 = be d * 11988 := by rw [← Nat.add_mul, Nat.sub_add_cancel h1]
  have e6 : be d * 11988 ≤ 10 * 11988 := Nat.mul_le_mul_right _ h2
  unfold cnt
  omega
set_option maxHeartbeats 4000000 in
set_option maxRecDepth 100000 in
/-- the sums begin with what the years count -/
theorem c_PA_startSums (l : Launch) (D : va_G) (ca : Nat → ClassId) (b : Nat) (C0 : Nat → va_E) {wt : Nat → Nat → Nat} {ab : Nat → Nat} {be : Nat → Nat} {nd : Nat} {fr : Nat → Nat} {tt : Nat → Option Nat} {le : Nat → Nat} {mo : Nat → Nat} {nf : Nat → Bool} {tr : Nat → Nat} {nt : Nat} {nm : Nat} {fy : Nat → Option Nat} {fb : Nat → Option Nat} {od : Nat → Nat} {pa : Nat → Option Nat} {rp : Nat → Option Nat} {se : Nat → Bool} {im : Nat → Bool} {qd : Nat} {hm : Nat} {S : Nat → Nat → Nat} {I : Nat → Nat} {P : Nat → Nat} {pt : Nat} {ap : Nat} {fa : Nat} {wh : Nat} {st : Nat}  (hX : XS ca b C0 wt ab be nd fr tt le mo nf tr nt nm fy fb od pa rp se im qd hm (gvOf S I P pt ap fa wh st)) (hD : DOK wt ab be nd) (hfy : ∀ d, d < nd → ∀ y, fy d = some y → y < 2 ^ 31) : Met l y_PA_startSums (k_PA_startSums :: gw) ({ frames := 2, cells := 0, slots := 0, locals := 44 }) (xPc D ca b 219 C0 [.ref (b + 18), .ref (b + 1)]) (xQ D b 219 (fun r C1 => r = none ∧ XS ca b C1 wt ab be nd fr tt le mo nf tr nt nm fy fb od pa rp se im qd hm (gvOf (stS wt ab be fy S nd) I P pt ap fa wh st))) 0 0 (xr b 219) := by
  refine Met.ofW (cc := b_PA_startSums) (maxL := 6) (ret := none) (by decide) rfl ?_
  intro p e s m args below meth c s₁ B hml hv
  obtain ⟨hav, hP, hK⟩ := hv
  have hx := B.exec
  have hb := B.bytes
  have hr := B.returns
  have hts := atoms_spec (ws := k_PA_startSums :: gw) B.pre
  have hown : s.vm.findClass R_PA = some m.cls := findClass_of_methodNamed B.named
  have hlocks := B.notSynchronized
  have hA : ∀ k, k < 219 → xr b 219 (b + k) := xr_in
  have hS : va_S (xr b 219) s.heap s.heap [] := va_S.rf
  have hl := lv_entry ([.ref (b + 18), .ref (b + 1)]) (n := 6) (Nat.le_of_ble_eq_true rfl)
  rw [hav, lg_entry_eq]
  generalize (lg_sl ([.ref (b + 18), .ref (b + 1)]) ++ List.replicate (6 - (lg_sl ([.ref (b + 18), .ref (b + 1)])).length) Slot.unset).toArray = ls at hl ⊢
  have hl : lv_has ls 6 [(0, .ref (b + 18)), (1, .ref (b + 1))] := hl
  rw [← hav]
  have hD6 := hD.1
  refine lv_iconst (v := nI 0) hx hb d_PA_startSums_0 (by decide) ?_
  refine lv_istore_n (lv' := [(2, .int (nI 0)), (0, .ref (b + 18)), (1, .ref (b + 1))]) hx hb d_PA_startSums_1 rfl hl (by decide) rfl (fun ls hl => ?_)
  have loop2 : ∀ (r : Nat) (d : Nat) (C : Nat → va_E) (H : Heap) (locs : List Loc) (ls : Array Slot), nd < d + r → d ≤ nd → va_P D classes (wl b 219 C) H → va_S (xr b 219) s.heap H locs → XS ca b C wt ab be nd fr tt le mo nf tr nt nm fy fb od pa rp se im qd hm (gvOf (stS wt ab be fy S d) I P pt ap fa wh st) → lv_has ls 6 [(0, .ref (b + 18)), (1, .ref (b + 1)), (2, .int (nI d))] → W p l e (headSpec (k_PA_startSums :: gw) ({ frames := 2, cells := 0, slots := 0, locals := 44 })).room s m args below meth c H locs 0 0 (MQ below (xQ D b 219 (fun r C1 => r = none ∧ XS ca b C1 wt ab be nd fr tt le mo nf tr nt nm fy fb od pa rp se im qd hm (gvOf (stS wt ab be fy S nd) I P pt ap fa wh st))) args s 0 0 (xr b 219)) (F0 m 2 ls []) := by
    intro r
    induction r with
    | zero => intro d C H locs ls hms hd; exact absurd hms (by omega)
    | succ r ih2 =>
      intro d C H locs ls hms hd hP hS hX hl
      refine lv_iload_n hx hb d_PA_startSums_2 rfl (lv_at hl 2 rfl) ?_
      refine lv_aload_n hx hb d_PA_startSums_3 rfl (lv_at hl 1 rfl) ?_
      refine xc_V (n := 0) (As := []) (rest := [.int (nI d)]) (st0 := _) hx hb hml hown hts (c_DA_number l D ca b _  hX ) km_DA_number tb_189 tb_174 tb_175 tb_2 (by decide +kernel) rfl rfl ⟨Nat.le_of_ble_eq_true rfl, Nat.le_of_ble_eq_true rfl⟩ hK hP (XS_1 hX) (by decide) rfl rfl rfl hl rfl (Nat.le_of_ble_eq_true rfl) d_PA_startSums_4 ⟨Nat.zero_le _, Nat.zero_le _⟩ hS (fun _ h => h) (fun v C H locs hp hP _ _ hS => ?_)
      obtain ⟨rfl, hX⟩ := hp
      refine xi_ge (tgt := 94) hx hb d_PA_startSums_7 (by decide) (by omega) (by omega) (fun h7 => ?_) (fun h7 => ?_)
      · skip
        have ed : d = nd := by omega
        rw [ed] at hX
        exact xw_vret hx hb hr hlocks hP hS ⟨rfl, hX⟩ d_PA_startSums_94
      · skip
        refine lv_aload_n hx hb d_PA_startSums_10 rfl (lv_at hl 1 rfl) ?_
        refine lv_iload_n hx hb d_PA_startSums_11 rfl (lv_at hl 2 rfl) ?_
        refine xc_V (n := 1) (As := [.int (nI d)]) (rest := []) (st0 := _) hx hb hml hown hts (c_DA_outlying l D ca b _ d hX (by omega)) km_DA_outlying tb_190 tb_191 tb_192 tb_2 (by decide +kernel) rfl rfl ⟨Nat.le_of_ble_eq_true rfl, Nat.le_of_ble_eq_true rfl⟩ hK hP (XS_1 hX) (by decide) rfl rfl rfl hl rfl (Nat.le_of_ble_eq_true rfl) d_PA_startSums_12 ⟨Nat.zero_le _, Nat.zero_le _⟩ hS (fun _ h => h) (fun v C H locs hp hP _ _ hS => ?_)
        obtain ⟨rfl, hX⟩ := hp
        refine lv_istore_n (lv' := [(3, .int (nI (ab d * sm (wt d) 12))), (0, .ref (b + 18)), (1, .ref (b + 1)), (2, .int (nI d))]) hx hb d_PA_startSums_15 rfl hl (by decide) rfl (fun ls hl => ?_)
        refine lv_iconst (v := nI 0) hx hb d_PA_startSums_16 (by decide) ?_
        refine lv_istore (lv' := [(4, .int (nI 0)), (3, .int (nI (ab d * sm (wt d) 12))), (0, .ref (b + 18)), (1, .ref (b + 1)), (2, .int (nI d))]) hx hb d_PA_startSums_17 hl (by decide) rfl (fun ls hl => ?_)
        have loop19 : ∀ (r : Nat) (y : Nat) (C : Nat → va_E) (H : Heap) (locs : List Loc) (ls : Array Slot), 12 < y + r → y ≤ 12 → va_P D classes (wl b 219 C) H → va_S (xr b 219) s.heap H locs → XS ca b C wt ab be nd fr tt le mo nf tr nt nm fy fb od pa rp se im qd hm (gvOf (rowS (stS wt ab be fy S d) d y (s0 wt ab be fy d)) I P pt ap fa wh st) → lv_has ls 6 [(0, .ref (b + 18)), (1, .ref (b + 1)), (2, .int (nI d)), (3, .int (nI (ab d * sm (wt d) 12))), (4, .int (nI y))] → W p l e (headSpec (k_PA_startSums :: gw) ({ frames := 2, cells := 0, slots := 0, locals := 44 })).room s m args below meth c H locs 0 0 (MQ below (xQ D b 219 (fun r C1 => r = none ∧ XS ca b C1 wt ab be nd fr tt le mo nf tr nt nm fy fb od pa rp se im qd hm (gvOf (stS wt ab be fy S nd) I P pt ap fa wh st))) args s 0 0 (xr b 219)) (F0 m 19 ls []) := by
          intro r
          induction r with
          | zero => intro y C H locs ls hms hy; exact absurd hms (by omega)
          | succ r ih19 =>
            intro y C H locs ls hms hy hP hS hX hl
            have j52 : ∀ (z : Bool), (z = true ↔ fy d = none ∨ fy d = some y) → y < 12 → W p l e (headSpec (k_PA_startSums :: gw) ({ frames := 2, cells := 0, slots := 0, locals := 44 })).room s m args below meth c H locs 0 0 (MQ below (xQ D b 219 (fun r C1 => r = none ∧ XS ca b C1 wt ab be nd fr tt le mo nf tr nt nm fy fb od pa rp se im qd hm (gvOf (stS wt ab be fy S nd) I P pt ap fa wh st))) args s 0 0 (xr b 219)) (F0 m 52 ls [.int (nI z.toNat)]) := by
              intro z hz hy12
              obtain ⟨hc1, hc2, hc3⟩ := cnt_le hD (show d < nd by omega) hy12
              refine lv_istore (lv' := [(5, .int (nI z.toNat)), (0, .ref (b + 18)), (1, .ref (b + 1)), (2, .int (nI d)), (3, .int (nI (ab d * sm (wt d) 12))), (4, .int (nI y))]) hx hb d_PA_startSums_52 hl (by decide) rfl (fun ls hl => ?_)
              refine lv_aload_n hx hb d_PA_startSums_54 rfl (lv_at hl 1 rfl) ?_
              refine lv_iload_n hx hb d_PA_startSums_55 rfl (lv_at hl 3 rfl) ?_
              refine lv_iload hx hb d_PA_startSums_56 (lv_at hl 5 rfl) ?_
              refine xc_V (n := 2) (As := [.int (nI d), .int (nI y)]) (rest := []) (st0 := _) hx hb hml hown hts (c_PA_sumAt l D ca b _ d y hX (by omega) (by omega)) km_PA_sumAt tb_194 tb_195 tb_196 tb_4 (by decide +kernel) rfl rfl ⟨Nat.le_of_ble_eq_true rfl, Nat.le_of_ble_eq_true rfl⟩ hK hP (XS_18 hX) (by decide) rfl rfl rfl hl rfl (Nat.le_of_ble_eq_true rfl) d_PA_startSums_58 ⟨Nat.zero_le _, Nat.zero_le _⟩ hS (fun _ h => h) (fun v C H locs hp hP _ _ hS => ?_)
              obtain ⟨rfl, hX⟩ := hp
              refine lv_iload hx hb d_PA_startSums_61 (lv_at hl 0 rfl) ?_
              refine xz_eq (tgt := 78) hx hb d_PA_startSums_63 (by decide) (tn31 _) (fun h63 => ?_) (fun h63 => ?_)
              · skip
                have hs0 : (0 : Nat) = s0 wt ab be fy d y := by
                  rw [s0, if_neg (fun q => by have := hz.mpr q; rw [bf h63] at this; cases this)]
                refine lv_iconst (v := nI 0) hx hb d_PA_startSums_78 (by decide) ?_
                have hgi1 : gid ((35 + 2 * (d * 12 + y))) := (by unfold gid; omega)
                obtain ⟨ga1, gn1, hga1, hgb1, hgc1⟩ := XS_g hX ((35 + 2 * (d * 12 + y))) hgi1
                rw [gv_S (by omega) (by omega)] at hgc1
                refine xc_V (n := 1) (As := [.int (nI 0)]) (rest := []) (st0 := _) hx hb hml hown hts (c_GR_set l D ca b 219 _ ((35 + 2 * (d * 12 + y))) gn1 _ ga1 0 hga1 hgb1 (by unfold gid at hgi1; omega) hgc1 (by show _ < 100000000; omega)) km_GR_set tb_202 tb_178 tb_179 tb_5 (by decide +kernel) rfl rfl ⟨Nat.le_of_ble_eq_true rfl, Nat.le_of_ble_eq_true rfl⟩ hK hP hga1 (by unfold gid at hgi1; omega) rfl rfl rfl hl rfl (Nat.le_of_ble_eq_true rfl) d_PA_startSums_79 ⟨Nat.zero_le _, Nat.zero_le _⟩ hS (fun _ h => h) (fun v C H locs hp hP _ _ hS => ?_)
                obtain ⟨rfl, hG1, hG2⟩ := hp
                have hX := XS_set_gv hX hgi1 hG1 hG2
                have hX := gs_S (d := d) (y := y) (by omega) (by omega) hX
                refine lv_iinc (v := nI (y + 1)) (lv' := [(4, .int (nI (y + 1))), (5, .int (nI z.toNat)), (0, .ref (b + 18)), (1, .ref (b + 1)), (2, .int (nI d)), (3, .int (nI (ab d * sm (wt d) 12)))]) hx hb d_PA_startSums_82 hl (k := 5) rfl (show nI y + Int32.ofInt 1 = nI (y + 1) from nI_add _ _) (by decide) rfl (fun ls hl => ?_)
                refine lv_goto (tgt := 19) hx hb d_PA_startSums_85 (by decide) ?_
                rw [hs0, rowS_s (stS wt ab be fy S d) d y (s0 wt ab be fy d)] at hX
                exact ih19 (y + 1) _ _ _ _ (by omega) (by omega) hP hS hX (lv_sub hl [2, 3, 4, 5, 0] rfl)
              · skip
                have hs0 : (be d - ab d) * 12 * wt d y + ab d * sm (wt d) 12 = s0 wt ab be fy d y := by
                  rw [s0, if_pos (hz.mp (bt h63))]; rfl
                refine lv_aload_n hx hb d_PA_startSums_66 rfl (lv_at hl 2 rfl) ?_
                refine lv_iload_n hx hb d_PA_startSums_67 rfl (lv_at hl 3 rfl) ?_
                refine lv_iload hx hb d_PA_startSums_68 (lv_at hl 5 rfl) ?_
                refine xc_V (n := 2) (As := [.int (nI d), .int (nI y)]) (rest := [.ref (b + (35 + 2 * (d * 12 + y)))]) (st0 := _) hx hb hml hown hts (c_DA_inlying l D ca b _ d y hX (by omega) (by omega) (hD.2 d (by omega)).1) km_DA_inlying tb_198 tb_199 tb_200 tb_2 (by decide +kernel) rfl rfl ⟨Nat.le_of_ble_eq_true rfl, Nat.le_of_ble_eq_true rfl⟩ hK hP (XS_1 hX) (by decide) rfl rfl rfl hl rfl (Nat.le_of_ble_eq_true rfl) d_PA_startSums_70 ⟨Nat.zero_le _, Nat.zero_le _⟩ hS (fun _ h => h) (fun v C H locs hp hP _ _ hS => ?_)
                obtain ⟨rfl, hX⟩ := hp
                refine lv_iload_n hx hb d_PA_startSums_73 rfl (lv_at hl 4 rfl) ?_
                refine lv_iadd hx hb d_PA_startSums_74 ?_
                refine ti (nI (((be d - ab d) * 12 * wt d y) + (ab d * sm (wt d) 12))) (nI_add _ _) ?_
                refine lv_goto (tgt := 79) hx hb d_PA_startSums_75 (by decide) ?_
                have hgi2 : gid ((35 + 2 * (d * 12 + y))) := (by unfold gid; omega)
                obtain ⟨ga2, gn2, hga2, hgb2, hgc2⟩ := XS_g hX ((35 + 2 * (d * 12 + y))) hgi2
                rw [gv_S (by omega) (by omega)] at hgc2
                refine xc_V (n := 1) (As := [.int (nI (((be d - ab d) * 12 * wt d y) + (ab d * sm (wt d) 12)))]) (rest := []) (st0 := _) hx hb hml hown hts (c_GR_set l D ca b 219 _ ((35 + 2 * (d * 12 + y))) gn2 _ ga2 (((be d - ab d) * 12 * wt d y) + (ab d * sm (wt d) 12)) hga2 hgb2 (by unfold gid at hgi2; omega) hgc2 (by show _ < 100000000; omega)) km_GR_set tb_202 tb_178 tb_179 tb_5 (by decide +kernel) rfl rfl ⟨Nat.le_of_ble_eq_true rfl, Nat.le_of_ble_eq_true rfl⟩ hK hP hga2 (by unfold gid at hgi2; omega) rfl rfl rfl hl rfl (Nat.le_of_ble_eq_true rfl) d_PA_startSums_79 ⟨Nat.zero_le _, Nat.zero_le _⟩ hS (fun _ h => h) (fun v C H locs hp hP _ _ hS => ?_)
                obtain ⟨rfl, hG1, hG2⟩ := hp
                have hX := XS_set_gv hX hgi2 hG1 hG2
                have hX := gs_S (d := d) (y := y) (by omega) (by omega) hX
                refine lv_iinc (v := nI (y + 1)) (lv' := [(4, .int (nI (y + 1))), (5, .int (nI z.toNat)), (0, .ref (b + 18)), (1, .ref (b + 1)), (2, .int (nI d)), (3, .int (nI (ab d * sm (wt d) 12)))]) hx hb d_PA_startSums_82 hl (k := 5) rfl (show nI y + Int32.ofInt 1 = nI (y + 1) from nI_add _ _) (by decide) rfl (fun ls hl => ?_)
                refine lv_goto (tgt := 19) hx hb d_PA_startSums_85 (by decide) ?_
                rw [hs0, rowS_s (stS wt ab be fy S d) d y (s0 wt ab be fy d)] at hX
                exact ih19 (y + 1) _ _ _ _ (by omega) (by omega) hP hS hX (lv_sub hl [2, 3, 4, 5, 0] rfl)
            refine lv_iload hx hb d_PA_startSums_19 (lv_at hl 4 rfl) ?_
            refine lv_bipush (v := nI 12) hx hb d_PA_startSums_21 (by decide) ?_
            refine xi_ge (tgt := 88) hx hb d_PA_startSums_23 (by decide) (by omega) (by omega) (fun h23 => ?_) (fun h23 => ?_)
            · skip
              have ey : y = 12 := by omega
              rw [ey] at hX
              refine lv_iinc (v := nI (d + 1)) (lv' := [(2, .int (nI (d + 1))), (0, .ref (b + 18)), (1, .ref (b + 1)), (3, .int (nI (ab d * sm (wt d) 12))), (4, .int (nI y))]) hx hb d_PA_startSums_88 hl (k := 2) rfl (show nI d + Int32.ofInt 1 = nI (d + 1) from nI_add _ _) (by decide) rfl (fun ls hl => ?_)
              refine lv_goto (tgt := 2) hx hb d_PA_startSums_91 (by decide) ?_
              exact ih2 (d + 1) _ _ _ _ (by omega) (by omega) hP hS hX (lv_sub hl [1, 2, 0] rfl)
            · skip
              refine lv_aload_n hx hb d_PA_startSums_26 rfl (lv_at hl 0 rfl) ?_
              refine xw_get (v := .ref (b + 28)) hx hb hts (fun w h => mw (uw_PA w h)) hown hK hP (XS_18 hX) (by decide) rfl 6 (by decide) (hts _ (mw tb_107)) (fun _ h => h) rfl d_PA_startSums_27 ?_
              refine lv_iload_n hx hb d_PA_startSums_30 rfl (lv_at hl 2 rfl) ?_
              refine xw_iald hx hb hK hP 0 (XS_28 hX) (by decide) rfl (by omega) (by decide) d_PA_startSums_31 ?_
              refine lv_iconst (v := (-1)) hx hb d_PA_startSums_32 (by decide) ?_
              refine xo_eq (tgt := 47) hx hb d_PA_startSums_33 (by decide) (hfy d (by omega)) (fun h33 => ?_) (fun d33 h33 => ?_)
              · skip
                refine lv_iconst (v := nI 1) hx hb d_PA_startSums_47 (by decide) ?_
                refine lv_goto (tgt := 52) hx hb d_PA_startSums_48 (by decide) ?_
                exact j52 true ⟨fun _ => Or.inl h33, fun _ => rfl⟩ (by omega)
              · skip
                have hfl := hfy d (by omega) _ h33
                refine lv_aload_n hx hb d_PA_startSums_36 rfl (lv_at hl 0 rfl) ?_
                refine xw_get (v := .ref (b + 28)) hx hb hts (fun w h => mw (uw_PA w h)) hown hK hP (XS_18 hX) (by decide) rfl 6 (by decide) (hts _ (mw tb_107)) (fun _ h => h) rfl d_PA_startSums_37 ?_
                refine lv_iload_n hx hb d_PA_startSums_40 rfl (lv_at hl 2 rfl) ?_
                refine xw_iald hx hb hK hP 0 (XS_28 hX) (by decide) rfl (by omega) (by decide) d_PA_startSums_41 ?_
                refine ti (nI d33) (by rw [h33]; rfl) ?_
                refine lv_iload hx hb d_PA_startSums_42 (lv_at hl 4 rfl) ?_
                refine xi_ne (tgt := 51) hx hb d_PA_startSums_44 (by decide) (by omega) (by omega) (fun h44 => ?_) (fun h44 => ?_)
                · skip
                  refine lv_iconst (v := nI 0) hx hb d_PA_startSums_51 (by decide) ?_
                  exact j52 false ⟨fun q => (by cases q), fun q => q.elim (fun q => by rw [h33] at q; cases q) (fun q => by rw [h33] at q; exact absurd (Option.some.inj q) h44)⟩ (by omega)
                · skip
                  refine lv_iconst (v := nI 1) hx hb d_PA_startSums_47 (by decide) ?_
                  refine lv_goto (tgt := 52) hx hb d_PA_startSums_48 (by decide) ?_
                  exact j52 true ⟨fun _ => Or.inr (by rw [h33, h44]), fun _ => rfl⟩ (by omega)
        rw [← rowS_0 (stS wt ab be fy S d) d (s0 wt ab be fy d)] at hX
        exact loop19 13 0 _ _ _ _ (by omega) (by omega) hP hS hX (lv_sub hl [2, 3, 4, 1, 0] rfl)
  exact loop2 (nd + 1) 0 _ _ _ _ (by omega) (by omega) hP hS hX (lv_sub hl [1, 2, 0] rfl)

