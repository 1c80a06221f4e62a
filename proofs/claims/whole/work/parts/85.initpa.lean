/-! Passing and OrderPassing are made -/
section XCS
variable {p : Program} {l : Launch} {e : Env} {R : Room} {s : State} {m : MethodId} {args : Array Value} {below : List Frame} {meth : Method} {c : Code} {H : Heap} {locs : List Loc} {cells slots : Nat} {Q : State → Prop}
theorem xw_cs {g : JFrame} {k n : Nat} (h1 : cells = k) (h2 : slots = n) (kk : W p l e R s m args below meth c H locs k n Q g) : W p l e R s m args below meth c H locs cells slots Q g := by subst h1; subst h2; exact kk
end XCS
theorem wl_repR {D : va_G} {b n k N : Nat} {C : Nat → va_E} {H : Heap} {cA : ClassId} {f f1 : Nat → Option Nat} (hP : va_P D classes (wl b n C) H) (hC : C k = .inl (cA, N, .inr (.inr (.inr (.inr f))))) (h : ∀ j, j < N → f j = f1 j) : va_P D classes (wl b n (va_up C k (.inl (cA, N, .inr (.inr (.inr (.inr f1))))))) H :=
  wl_P.mpr (fun i hi => by
    by_cases q : i = k
    · subst q
      rw [va_up_self]
      have h1 := wl_P.mp hP i hi
      rw [hC] at h1
      have h2 : H[b + i]? = some (vp_cell cA (N, .inr (.inr (.inr (.inr f))))) := h1
      show H[b + i]? = some (vp_cell cA (N, .inr (.inr (.inr (.inr f1)))))
      rw [h2, vp_cell_q, vp_cell_q, arrV_cg (fun j hj => by rw [h j hj])]
    · rw [va_up_ne _ _ q]; exact wl_P.mp hP i hi)
theorem wl_repI {D : va_G} {b n k N : Nat} {C : Nat → va_E} {H : Heap} {cA : ClassId} {f f1 : Nat → Int32} (hP : va_P D classes (wl b n C) H) (hC : C k = .inl (cA, N, .inl f)) (h : ∀ j, j < N → f j = f1 j) : va_P D classes (wl b n (va_up C k (.inl (cA, N, .inl f1)))) H :=
  wl_P.mpr (fun i hi => by
    by_cases q : i = k
    · subst q
      rw [va_up_self]
      have h1 := wl_P.mp hP i hi
      rw [hC] at h1
      have h2 : H[b + i]? = some (vp_cell cA (N, .inl f)) := h1
      show H[b + i]? = some (vp_cell cA (N, .inl f1))
      rw [h2, vp_cell_i, vp_cell_i, arrV_cg (fun j hj => by rw [h j hj])]
    · rw [va_up_ne _ _ q]; exact wl_P.mp hP i hi)
theorem refs_s (q : Nat → Nat) (i : Nat) : va_up (fun j => if j < i then some (q j) else none) i (some (q i)) = fun j => if j < i + 1 then some (q j) else none := by
  funext j
  by_cases h : j = i
  · subst h; rw [va_up_self, if_pos (Nat.lt_succ_self _)]
  · rw [va_up_ne _ _ h]
    by_cases h2 : j < i
    · rw [if_pos h2, if_pos (by omega)]
    · rw [if_neg h2, if_neg (by omega)]
theorem fill_s (f : Nat → Int32) (v : Int32) (i : Nat) : upd (fun j => if j < i then v else f j) i v = fun j => if j < i + 1 then v else f j := by
  funext j
  unfold upd
  by_cases h : j = i
  · subst h; rw [if_pos rfl, if_pos (Nat.lt_succ_self _)]
  · rw [if_neg h]
    show (if j < i then v else f j) = _
    by_cases h2 : j < i
    · rw [if_pos h2, if_pos (by omega)]
    · rw [if_neg h2, if_neg (by omega)]
set_option maxHeartbeats 4000000 in
set_option maxRecDepth 100000 in
/-- Arrays.fill over any int array of a world -/
theorem c_AR_fillG (l : Launch) (D : va_G) (ca : Nat → ClassId) (b N : Nat) (C0 : Nat → va_E) (k0 n : Nat) (v : Int32) (f : Nat → Int32) (hC0 : C0 k0 = .inl (ca 0, n, .inl f)) (hk0 : k0 < N) (hn : n < 1000) : Met l y_AR_fill (k_AR_fill :: gw) ({ frames := 1, cells := 0, slots := 0, locals := 12 }) (xPc D ca b N C0 [.ref (b + k0), .int v]) (xQ D b N (fun r C1 => r = none ∧ (∀ k, k ≠ k0 → C1 k = C0 k) ∧ C1 k0 = .inl (ca 0, n, .inl (fun j => if j < n then v else f j)))) 0 0 (xr b N) := by
  refine Met.ofW (cc := b_AR_fill) (maxL := 4) (ret := none) (by decide) rfl ?_
  intro p e s m args below meth c s₁ B hml hv
  obtain ⟨hav, hP, hK⟩ := hv
  have hx := B.exec
  have hb := B.bytes
  have hr := B.returns
  have hlocks := B.notSynchronized
  have hA : ∀ k, k < N → xr b N (b + k) := xr_in
  have hS : va_S (xr b N) s.heap s.heap [] := va_S.rf
  have hl := lv_entry ([.ref (b + k0), .int v]) (n := 4) (Nat.le_of_ble_eq_true rfl)
  rw [hav, lg_entry_eq]
  generalize (lg_sl ([.ref (b + k0), .int v]) ++ List.replicate (4 - (lg_sl ([.ref (b + k0), .int v])).length) Slot.unset).toArray = ls at hl ⊢
  have hl : lv_has ls 4 [(0, .ref (b + k0)), (1, .int v)] := hl
  rw [← hav]
  refine lv_iconst (v := nI 0) hx hb d_AR_fill_0 (by decide) ?_
  refine lv_istore_n (lv' := [(2, .int (nI 0)), (0, .ref (b + k0)), (1, .int v)]) hx hb d_AR_fill_1 rfl hl (by decide) rfl (fun ls hl => ?_)
  refine lv_aload_n hx hb d_AR_fill_2 rfl (lv_at hl 1 rfl) ?_
  refine va_alen (v := nI n) hx hb hK hP k0 0 (wl_at hC0 hk0) rfl rfl d_AR_fill_3 ?_
  refine lv_istore_n (lv' := [(3, .int (nI n)), (2, .int (nI 0)), (0, .ref (b + k0)), (1, .int v)]) hx hb d_AR_fill_4 rfl hl (by decide) rfl (fun ls hl => ?_)
  have loop5 : ∀ (r : Nat) (i : Nat) (C : Nat → va_E) (H : Heap) (locs : List Loc) (ls : Array Slot), n < i + r → i ≤ n → (∀ k, k ≠ k0 → C k = C0 k) → C k0 = .inl (ca 0, n, .inl (fun j => if j < i then v else f j)) → va_P D classes (wl b N C) H → va_S (xr b N) s.heap H locs → lv_has ls 4 [(0, .ref (b + k0)), (1, .int v), (2, .int (nI i)), (3, .int (nI n))] → W p l e (headSpec (k_AR_fill :: gw) ({ frames := 1, cells := 0, slots := 0, locals := 12 })).room s m args below meth c H locs 0 0 (MQ below (xQ D b N (fun r C1 => r = none ∧ (∀ k, k ≠ k0 → C1 k = C0 k) ∧ C1 k0 = .inl (ca 0, n, .inl (fun j => if j < n then v else f j)))) args s 0 0 (xr b N)) (F0 m 5 ls []) := by
    intro r
    induction r with
    | zero => intro i C H locs ls hms hi; exact absurd hms (by omega)
    | succ r ih5 =>
      intro i C H locs ls hms hi hfr hC hP hS hl
      refine lv_iload_n hx hb d_AR_fill_5 rfl (lv_at hl 2 rfl) ?_
      refine lv_iload_n hx hb d_AR_fill_6 rfl (lv_at hl 3 rfl) ?_
      refine xi_ge (tgt := 20) hx hb d_AR_fill_7 (by decide) (by omega) (by omega) (fun h7 => ?_) (fun h7 => ?_)
      · have ei : i = n := by omega
        rw [ei] at hC
        exact xw_vret hx hb hr hlocks hP hS ⟨rfl, hfr, hC⟩ d_AR_fill_20
      · refine lv_aload_n hx hb d_AR_fill_10 rfl (lv_at hl 0 rfl) ?_
        refine lv_iload_n hx hb d_AR_fill_11 rfl (lv_at hl 2 rfl) ?_
        refine lv_iload_n hx hb d_AR_fill_12 rfl (lv_at hl 1 rfl) ?_
        refine xw_iast hx hb hK hP hA hS 0 hC hk0 rfl (by omega) (by omega) d_AR_fill_13 (fun H locs hP hS => ?_)
        rw [fill_s] at hP
        refine lv_iinc (v := nI (i + 1)) (lv' := [(2, .int (nI (i + 1))), (0, .ref (b + k0)), (1, .int v), (3, .int (nI n))]) hx hb d_AR_fill_14 hl (k := 2) rfl (show nI i + Int32.ofInt 1 = nI (i + 1) from nI_add _ _) (by decide) rfl (fun ls hl => ?_)
        refine lv_goto (tgt := 5) hx hb d_AR_fill_17 (by decide) ?_
        exact ih5 (i + 1) _ _ _ _ (by omega) (by omega) (fun k hk => (va_up_ne _ _ hk).trans (hfr k hk)) (va_up_self _ _ _) hP hS (lv_sub hl [1, 2, 0, 3] rfl)
  exact loop5 (n + 1) 0 _ _ _ _ (by omega) (by omega) (fun _ _ => rfl) (by rw [hC0]; simp) hP hS (lv_sub hl [2, 3, 1, 0] rfl)
/-- a Passing in the making -/
def PSt (ca : Nat → ClassId) (b : Nat) (C0 C : Nat → va_E) (g i1 i2 i3 : Nat) : Prop :=
  (∀ k, k < g → C k = C0 k) ∧ C g = .inr (3, [.ref (b + (g + 1)), .ref (b + (g + 2)), .ref (b + (g + 3)), .ref (b + (g + 4)), .ref (b + (g + 6)), .ref (b + (g + 8)), .ref (b + (g + 10)), .ref (b + (g + 11)), .ref (b + (g + 12)), .ref (b + (g + 13)), .ref (b + (g + 14)), .ref (b + (g + 15)), .ref (b + (g + 16)), .int (nI 0), .int (nI 0)]) ∧ C (g + 1) = .inl (ca 3, 72, .inr (.inr (.inr (.inr (fun j => if j < i1 then some (b + (g + 17 + 2 * j)) else none))))) ∧ C (g + 2) = .inl (ca 3, 6, .inr (.inr (.inr (.inr (fun j => if j < i2 then some (b + (g + 161 + 2 * j)) else none))))) ∧ C (g + 3) = .inl (ca 3, 12, .inr (.inr (.inr (.inr (fun j => if j < i3 then some (b + (g + 173 + 2 * j)) else none))))) ∧ zG ca b C (g + 4) ∧ zG ca b C (g + 6) ∧ zG ca b C (g + 8) ∧ C (g + 10) = .inl (ca 0, 6, .inl (fun _ => nI 0)) ∧ C (g + 11) = .inl (ca 0, 2, .inl (fun _ => nI 0)) ∧ C (g + 12) = .inl (ca 0, 6, .inl (fun _ => nI 0)) ∧ C (g + 13) = .inl (ca 0, 6, .inl (fun _ => nI 0)) ∧ C (g + 14) = .inl (ca 0, 6, .inl (fun _ => nI 0)) ∧ C (g + 15) = .inl (ca 2, 6, .inl (fun _ => nI 0)) ∧ C (g + 16) = .inl (ca 2, 6, .inl (fun _ => nI 0)) ∧ (∀ j, j < i1 → zG ca b C (g + 17 + 2 * j)) ∧ (∀ j, j < i2 → zG ca b C (g + 161 + 2 * j)) ∧ ∀ j, j < i3 → zG ca b C (g + 173 + 2 * j)
theorem zG.fr {ca : Nat → ClassId} {b : Nat} {C C1 : Nat → va_E} {q : Nat} (h : zG ca b C q) (h1 : C1 q = C q) (h2 : C1 (q + 1) = C (q + 1)) : zG ca b C1 q := ⟨h1.trans h.1, h2.trans h.2⟩
theorem PSt.s1 {ca : Nat → ClassId} {b : Nat} {C0 C C1 : Nat → va_E} {g i : Nat} (h : PSt ca b C0 C g i 0 0) (hf : ∀ k, k < g + 17 + 2 * i → k ≠ g + 1 → C1 k = C k) (h1 : C1 (g + 1) = .inl (ca 3, 72, .inr (.inr (.inr (.inr (fun j => if j < (i + 1) then some (b + (g + 17 + 2 * j)) else none)))))) (hz : zG ca b C1 (g + 17 + 2 * i)) : PSt ca b C0 C1 g (i + 1) 0 0 := by
  obtain ⟨a0, a1, a2, a3, a4, a5, a6, a7, b10, b11, b12, b13, b14, b15, b16, z1, z2, z3⟩ := h
  exact ⟨fun k hk => (hf k (by omega) (by omega)).trans (a0 k hk), (hf g (by omega) (by omega)).trans a1, h1, (hf (g + 2) (by omega) (by omega)).trans a3, (hf (g + 3) (by omega) (by omega)).trans a4, a5.fr (hf _ (by omega) (by omega)) (hf _ (by omega) (by omega)), a6.fr (hf _ (by omega) (by omega)) (hf _ (by omega) (by omega)), a7.fr (hf _ (by omega) (by omega)) (hf _ (by omega) (by omega)), (hf (g + 10) (by omega) (by omega)).trans b10, (hf (g + 11) (by omega) (by omega)).trans b11, (hf (g + 12) (by omega) (by omega)).trans b12, (hf (g + 13) (by omega) (by omega)).trans b13, (hf (g + 14) (by omega) (by omega)).trans b14, (hf (g + 15) (by omega) (by omega)).trans b15, (hf (g + 16) (by omega) (by omega)).trans b16, fun j hj => (if e : j = i then by rw [e]; exact hz else (z1 j (by omega)).fr (hf _ (by omega) (by omega)) (hf _ (by omega) (by omega))), fun j hj => (z2 j hj).fr (hf _ (by omega) (by omega)) (hf _ (by omega) (by omega)), fun j hj => (z3 j hj).fr (hf _ (by omega) (by omega)) (hf _ (by omega) (by omega))⟩
theorem PSt.s2 {ca : Nat → ClassId} {b : Nat} {C0 C C1 : Nat → va_E} {g i : Nat} (h : PSt ca b C0 C g 72 i 0) (hf : ∀ k, k < g + 161 + 2 * i → k ≠ g + 2 → C1 k = C k) (h1 : C1 (g + 2) = .inl (ca 3, 6, .inr (.inr (.inr (.inr (fun j => if j < (i + 1) then some (b + (g + 161 + 2 * j)) else none)))))) (hz : zG ca b C1 (g + 161 + 2 * i)) : PSt ca b C0 C1 g 72 (i + 1) 0 := by
  obtain ⟨a0, a1, a2, a3, a4, a5, a6, a7, b10, b11, b12, b13, b14, b15, b16, z1, z2, z3⟩ := h
  exact ⟨fun k hk => (hf k (by omega) (by omega)).trans (a0 k hk), (hf g (by omega) (by omega)).trans a1, (hf (g + 1) (by omega) (by omega)).trans a2, h1, (hf (g + 3) (by omega) (by omega)).trans a4, a5.fr (hf _ (by omega) (by omega)) (hf _ (by omega) (by omega)), a6.fr (hf _ (by omega) (by omega)) (hf _ (by omega) (by omega)), a7.fr (hf _ (by omega) (by omega)) (hf _ (by omega) (by omega)), (hf (g + 10) (by omega) (by omega)).trans b10, (hf (g + 11) (by omega) (by omega)).trans b11, (hf (g + 12) (by omega) (by omega)).trans b12, (hf (g + 13) (by omega) (by omega)).trans b13, (hf (g + 14) (by omega) (by omega)).trans b14, (hf (g + 15) (by omega) (by omega)).trans b15, (hf (g + 16) (by omega) (by omega)).trans b16, fun j hj => (z1 j hj).fr (hf _ (by omega) (by omega)) (hf _ (by omega) (by omega)), fun j hj => (if e : j = i then by rw [e]; exact hz else (z2 j (by omega)).fr (hf _ (by omega) (by omega)) (hf _ (by omega) (by omega))), fun j hj => (z3 j hj).fr (hf _ (by omega) (by omega)) (hf _ (by omega) (by omega))⟩
theorem PSt.s3 {ca : Nat → ClassId} {b : Nat} {C0 C C1 : Nat → va_E} {g i : Nat} (h : PSt ca b C0 C g 72 6 i) (hf : ∀ k, k < g + 173 + 2 * i → k ≠ g + 3 → C1 k = C k) (h1 : C1 (g + 3) = .inl (ca 3, 12, .inr (.inr (.inr (.inr (fun j => if j < (i + 1) then some (b + (g + 173 + 2 * j)) else none)))))) (hz : zG ca b C1 (g + 173 + 2 * i)) : PSt ca b C0 C1 g 72 6 (i + 1) := by
  obtain ⟨a0, a1, a2, a3, a4, a5, a6, a7, b10, b11, b12, b13, b14, b15, b16, z1, z2, z3⟩ := h
  exact ⟨fun k hk => (hf k (by omega) (by omega)).trans (a0 k hk), (hf g (by omega) (by omega)).trans a1, (hf (g + 1) (by omega) (by omega)).trans a2, (hf (g + 2) (by omega) (by omega)).trans a3, h1, a5.fr (hf _ (by omega) (by omega)) (hf _ (by omega) (by omega)), a6.fr (hf _ (by omega) (by omega)) (hf _ (by omega) (by omega)), a7.fr (hf _ (by omega) (by omega)) (hf _ (by omega) (by omega)), (hf (g + 10) (by omega) (by omega)).trans b10, (hf (g + 11) (by omega) (by omega)).trans b11, (hf (g + 12) (by omega) (by omega)).trans b12, (hf (g + 13) (by omega) (by omega)).trans b13, (hf (g + 14) (by omega) (by omega)).trans b14, (hf (g + 15) (by omega) (by omega)).trans b15, (hf (g + 16) (by omega) (by omega)).trans b16, fun j hj => (z1 j hj).fr (hf _ (by omega) (by omega)) (hf _ (by omega) (by omega)), fun j hj => (z2 j hj).fr (hf _ (by omega) (by omega)) (hf _ (by omega) (by omega)), fun j hj => (if e : j = i then by rw [e]; exact hz else (z3 j (by omega)).fr (hf _ (by omega) (by omega)) (hf _ (by omega) (by omega)))⟩
set_option maxHeartbeats 4000000 in
set_option maxRecDepth 100000 in
/-- the Passing is made -/
theorem c_PA_init (l : Launch) (D : va_G) (ca : Nat → ClassId) (b : Nat) (C0 : Nat → va_E) (g : Nat) (h0 : C0 g = .inr (3, [.null, .null, .null, .null, .null, .null, .null, .null, .null, .null, .null, .null, .null, .int (nI 0), .int (nI 0)])) : Met l y_PA_init (k_PA_init :: gw) ({ frames := 2, cells := 196, slots := 872, locals := 35 }) (nPc D ca b (g + 1) C0 [.ref (b + g)]) (nQ D b (g + 197) (fun C1 => (∀ k, k < g → C1 k = C0 k) ∧ C1 g = .inr (3, [.ref (b + (g + 1)), .ref (b + (g + 2)), .ref (b + (g + 3)), .ref (b + (g + 4)), .ref (b + (g + 6)), .ref (b + (g + 8)), .ref (b + (g + 10)), .ref (b + (g + 11)), .ref (b + (g + 12)), .ref (b + (g + 13)), .ref (b + (g + 14)), .ref (b + (g + 15)), .ref (b + (g + 16)), .int (nI 0), .int (nI 0)]) ∧ C1 (g + 1) = .inl (ca 3, 72, .inr (.inr (.inr (.inr (fun j => some (b + (g + 17 + 2 * j))))))) ∧ C1 (g + 2) = .inl (ca 3, 6, .inr (.inr (.inr (.inr (fun j => some (b + (g + 161 + 2 * j))))))) ∧ C1 (g + 3) = .inl (ca 3, 12, .inr (.inr (.inr (.inr (fun j => some (b + (g + 173 + 2 * j))))))) ∧ zG ca b C1 (g + 4) ∧ zG ca b C1 (g + 6) ∧ zG ca b C1 (g + 8) ∧ C1 (g + 10) = .inl (ca 0, 6, .inl (fun _ => eo none)) ∧ C1 (g + 11) = .inl (ca 0, 2, .inl (fun _ => eo none)) ∧ C1 (g + 12) = .inl (ca 0, 6, .inl (fun _ => nI 0)) ∧ C1 (g + 13) = .inl (ca 0, 6, .inl (fun _ => nI 0)) ∧ C1 (g + 14) = .inl (ca 0, 6, .inl (fun _ => nI 0)) ∧ C1 (g + 15) = .inl (ca 2, 6, .inl (fun _ => nI 0)) ∧ C1 (g + 16) = .inl (ca 2, 6, .inl (fun _ => nI 0)) ∧ (∀ j, j < 72 → zG ca b C1 (g + 17 + 2 * j)) ∧ (∀ j, j < 6 → zG ca b C1 (g + 161 + 2 * j)) ∧ ∀ j, j < 12 → zG ca b C1 (g + 173 + 2 * j))) 196 872 (fun q => b ≤ q) := by
  refine Met.ofW (cc := b_PA_init) (maxL := 2) (ret := none) (by decide) rfl ?_
  intro p e s m args below meth c s₁ B hml hv
  obtain ⟨hav, hP, hsz, hK, hZ⟩ := hv
  have hx := B.exec
  have hb := B.bytes
  have hr := B.returns
  have hts := atoms_spec (ws := k_PA_init :: gw) B.pre
  have hown : s.vm.findClass R_PA = some m.cls := findClass_of_methodNamed B.named
  have hlocks := B.notSynchronized
  have hin : meth.name = "<init>" := (name_of_methodNamed B.named B.method).1
  have hS : va_S (fun q => b ≤ q) s.heap s.heap [] := va_S.rf
  have hs0 : s.heap.size = b + (g + 1) := hsz
  have hfr : ∀ k, k < g → C0 k = C0 k := fun _ _ => rfl
  have hl := lv_entry ([.ref (b + g)]) (n := 2) (Nat.le_of_ble_eq_true rfl)
  rw [hav, lg_entry_eq]
  generalize (lg_sl ([.ref (b + g)]) ++ List.replicate (2 - (lg_sl ([.ref (b + g)])).length) Slot.unset).toArray = ls at hl ⊢
  have hl : lv_has ls 2 [(0, .ref (b + g))] := hl
  rw [← hav]
  refine lv_aload_n hx hb d_PA_init_0 rfl (lv_at hl 0 rfl) ?_
  refine W.objInit hx hb hown (hts _ (mw tb_82)) (hts _ (mw tb_21)) (hts _ (mw tb_22)) rfl (by rw [hml]; exact hl.1) rfl d_PA_init_1 (Nat.le_of_ble_eq_true rfl) (Nat.le_of_ble_eq_true rfl) ?_
  refine lv_aload_n hx hb d_PA_init_4 rfl (lv_at hl 0 rfl) ?_
  refine lv_bipush (v := nI 72) hx hb d_PA_init_5 (by decide) ?_
  refine xw_anew (Cn := "OrderPassing$Great") hx hb 3 hown (hts _ (mw tb_83)) hZ.2.2.2.2.1 hK rfl hP hS hsz (by decide) (N' := 72) (by decide) (by decide) (by decide) (by decide) d_PA_init_7 (fun H hP hsz hS => ?_)
  generalize hCd : va_up C0 (g + 1) _ = C91 at hP
  have hfr : ∀ k, k < g → C91 k = C0 k := fun k hk => by rw [← hCd]; exact (va_up_ne _ _ (by omega)).trans (hfr k hk)
  have h0 : C91 g = .inr (3, [.null, .null, .null, .null, .null, .null, .null, .null, .null, .null, .null, .null, .null, .int (nI 0), .int (nI 0)]) := by rw [← hCd]; exact (va_up_ne _ _ (by omega)).trans h0
  have h1 : C91 (g + 1) = .inl (ca 3, 72, .inr (.inr (.inr (.inr (fun _ => none))))) := by rw [← hCd]; exact va_up_self _ _ _
  clear hCd
  refine xw_putF (v := .ref (b + (g + 1))) (ty := t_PA 0) hx hb hts (fun w h => mw (uw_PA w h)) t_PA t_PA_ok n_PA hown hK hP (fun k _ => Nat.le_add_right _ _) hS h0 (by omega) rfl 0 (by decide) (hts _ (mw tb_101)) (fun _ h => h) rfl hin rfl (by decide +kernel) rfl rfl (Nat.le_of_ble_eq_true rfl) d_PA_init_10 (fun H locs hP hS => ?_)
  generalize hCd : va_up C91 g _ = C92 at hP
  have hfr : ∀ k, k < g → C92 k = C0 k := fun k hk => by rw [← hCd]; exact (va_up_ne _ _ (by omega)).trans (hfr k hk)
  have h0 : C92 g = .inr (3, [.ref (b + (g + 1)), .null, .null, .null, .null, .null, .null, .null, .null, .null, .null, .null, .null, .int (nI 0), .int (nI 0)]) := by rw [← hCd]; exact va_up_self _ _ _
  have h1 : C92 (g + 1) = .inl (ca 3, 72, .inr (.inr (.inr (.inr (fun _ => none))))) := by rw [← hCd]; exact (va_up_ne _ _ (by omega)).trans h1
  clear hCd
  refine lv_aload_n hx hb d_PA_init_13 rfl (lv_at hl 0 rfl) ?_
  refine lv_bipush (v := nI 6) hx hb d_PA_init_14 (by decide) ?_
  refine xw_sz (n := g + 2) (by omega) hP (by omega) (fun hsz => ?_)
  refine xw_anew (Cn := "OrderPassing$Great") hx hb 3 hown (hts _ (mw tb_83)) hZ.2.2.2.2.1 hK rfl hP hS hsz (by decide) (N' := 6) (by decide) (by decide) (by decide) (by decide) d_PA_init_16 (fun H hP hsz hS => ?_)
  generalize hCd : va_up C92 (g + 2) _ = C93 at hP
  have hfr : ∀ k, k < g → C93 k = C0 k := fun k hk => by rw [← hCd]; exact (va_up_ne _ _ (by omega)).trans (hfr k hk)
  have h0 : C93 g = .inr (3, [.ref (b + (g + 1)), .null, .null, .null, .null, .null, .null, .null, .null, .null, .null, .null, .null, .int (nI 0), .int (nI 0)]) := by rw [← hCd]; exact (va_up_ne _ _ (by omega)).trans h0
  have h1 : C93 (g + 1) = .inl (ca 3, 72, .inr (.inr (.inr (.inr (fun _ => none))))) := by rw [← hCd]; exact (va_up_ne _ _ (by omega)).trans h1
  have h2 : C93 (g + 2) = .inl (ca 3, 6, .inr (.inr (.inr (.inr (fun _ => none))))) := by rw [← hCd]; exact va_up_self _ _ _
  clear hCd
  refine xw_putF (v := .ref (b + (g + 2))) (ty := t_PA 1) hx hb hts (fun w h => mw (uw_PA w h)) t_PA t_PA_ok n_PA hown hK hP (fun k _ => Nat.le_add_right _ _) hS h0 (by omega) rfl 1 (by decide) (hts _ (mw tb_102)) (fun _ h => h) rfl hin rfl (by decide +kernel) rfl rfl (Nat.le_of_ble_eq_true rfl) d_PA_init_19 (fun H locs hP hS => ?_)
  generalize hCd : va_up C93 g _ = C94 at hP
  have hfr : ∀ k, k < g → C94 k = C0 k := fun k hk => by rw [← hCd]; exact (va_up_ne _ _ (by omega)).trans (hfr k hk)
  have h0 : C94 g = .inr (3, [.ref (b + (g + 1)), .ref (b + (g + 2)), .null, .null, .null, .null, .null, .null, .null, .null, .null, .null, .null, .int (nI 0), .int (nI 0)]) := by rw [← hCd]; exact va_up_self _ _ _
  have h1 : C94 (g + 1) = .inl (ca 3, 72, .inr (.inr (.inr (.inr (fun _ => none))))) := by rw [← hCd]; exact (va_up_ne _ _ (by omega)).trans h1
  have h2 : C94 (g + 2) = .inl (ca 3, 6, .inr (.inr (.inr (.inr (fun _ => none))))) := by rw [← hCd]; exact (va_up_ne _ _ (by omega)).trans h2
  clear hCd
  refine lv_aload_n hx hb d_PA_init_22 rfl (lv_at hl 0 rfl) ?_
  refine lv_bipush (v := nI 12) hx hb d_PA_init_23 (by decide) ?_
  refine xw_sz (n := g + 3) (by omega) hP (by omega) (fun hsz => ?_)
  refine xw_anew (Cn := "OrderPassing$Great") hx hb 3 hown (hts _ (mw tb_83)) hZ.2.2.2.2.1 hK rfl hP hS hsz (by decide) (N' := 12) (by decide) (by decide) (by decide) (by decide) d_PA_init_25 (fun H hP hsz hS => ?_)
  generalize hCd : va_up C94 (g + 3) _ = C95 at hP
  have hfr : ∀ k, k < g → C95 k = C0 k := fun k hk => by rw [← hCd]; exact (va_up_ne _ _ (by omega)).trans (hfr k hk)
  have h0 : C95 g = .inr (3, [.ref (b + (g + 1)), .ref (b + (g + 2)), .null, .null, .null, .null, .null, .null, .null, .null, .null, .null, .null, .int (nI 0), .int (nI 0)]) := by rw [← hCd]; exact (va_up_ne _ _ (by omega)).trans h0
  have h1 : C95 (g + 1) = .inl (ca 3, 72, .inr (.inr (.inr (.inr (fun _ => none))))) := by rw [← hCd]; exact (va_up_ne _ _ (by omega)).trans h1
  have h2 : C95 (g + 2) = .inl (ca 3, 6, .inr (.inr (.inr (.inr (fun _ => none))))) := by rw [← hCd]; exact (va_up_ne _ _ (by omega)).trans h2
  have h3 : C95 (g + 3) = .inl (ca 3, 12, .inr (.inr (.inr (.inr (fun _ => none))))) := by rw [← hCd]; exact va_up_self _ _ _
  clear hCd
  refine xw_putF (v := .ref (b + (g + 3))) (ty := t_PA 2) hx hb hts (fun w h => mw (uw_PA w h)) t_PA t_PA_ok n_PA hown hK hP (fun k _ => Nat.le_add_right _ _) hS h0 (by omega) rfl 2 (by decide) (hts _ (mw tb_103)) (fun _ h => h) rfl hin rfl (by decide +kernel) rfl rfl (Nat.le_of_ble_eq_true rfl) d_PA_init_28 (fun H locs hP hS => ?_)
  generalize hCd : va_up C95 g _ = C96 at hP
  have hfr : ∀ k, k < g → C96 k = C0 k := fun k hk => by rw [← hCd]; exact (va_up_ne _ _ (by omega)).trans (hfr k hk)
  have h0 : C96 g = .inr (3, [.ref (b + (g + 1)), .ref (b + (g + 2)), .ref (b + (g + 3)), .null, .null, .null, .null, .null, .null, .null, .null, .null, .null, .int (nI 0), .int (nI 0)]) := by rw [← hCd]; exact va_up_self _ _ _
  have h1 : C96 (g + 1) = .inl (ca 3, 72, .inr (.inr (.inr (.inr (fun _ => none))))) := by rw [← hCd]; exact (va_up_ne _ _ (by omega)).trans h1
  have h2 : C96 (g + 2) = .inl (ca 3, 6, .inr (.inr (.inr (.inr (fun _ => none))))) := by rw [← hCd]; exact (va_up_ne _ _ (by omega)).trans h2
  have h3 : C96 (g + 3) = .inl (ca 3, 12, .inr (.inr (.inr (.inr (fun _ => none))))) := by rw [← hCd]; exact (va_up_ne _ _ (by omega)).trans h3
  clear hCd
  refine lv_aload_n hx hb d_PA_init_31 rfl (lv_at hl 0 rfl) ?_
  refine xw_sz (n := g + 4) (by omega) hP (by omega) (fun hsz => ?_)
  refine xw_mkG hx hb hml hown hts tb_83 hZ.2.2.1 hK hZ hP hsz hl (Nat.le_of_ble_eq_true rfl) d_PA_init_32 d_PA_init_35 d_PA_init_36 (by decide) (by decide) ⟨by decide, by decide⟩ hS (fun C97 H locs hCf hzG hP hsz hS => ?_)
  have hfr : ∀ k, k < g → C97 k = C0 k := fun k hk => (hCf k (by omega)).trans (hfr k hk)
  have h0 : C97 g = .inr (3, [.ref (b + (g + 1)), .ref (b + (g + 2)), .ref (b + (g + 3)), .null, .null, .null, .null, .null, .null, .null, .null, .null, .null, .int (nI 0), .int (nI 0)]) := (hCf g (by omega)).trans h0
  have h1 : C97 (g + 1) = .inl (ca 3, 72, .inr (.inr (.inr (.inr (fun _ => none))))) := (hCf _ (by omega)).trans h1
  have h2 : C97 (g + 2) = .inl (ca 3, 6, .inr (.inr (.inr (.inr (fun _ => none))))) := (hCf _ (by omega)).trans h2
  have h3 : C97 (g + 3) = .inl (ca 3, 12, .inr (.inr (.inr (.inr (fun _ => none))))) := (hCf _ (by omega)).trans h3
  have h4 : C97 (g + 4) = gobj b (g + 4) 0 := hzG.1
  have h5 : C97 (g + 5) = garr ca (fun _ => 0) := hzG.2
  refine xw_putF (v := .ref (b + (g + 4))) (ty := t_PA 3) hx hb hts (fun w h => mw (uw_PA w h)) t_PA t_PA_ok n_PA hown hK hP (fun k _ => Nat.le_add_right _ _) hS h0 (by omega) rfl 3 (by decide) (hts _ (mw tb_104)) (fun _ h => h) rfl hin rfl (by decide +kernel) rfl rfl (Nat.le_of_ble_eq_true rfl) d_PA_init_39 (fun H locs hP hS => ?_)
  generalize hCd : va_up C97 g _ = C98 at hP
  have hfr : ∀ k, k < g → C98 k = C0 k := fun k hk => by rw [← hCd]; exact (va_up_ne _ _ (by omega)).trans (hfr k hk)
  have h0 : C98 g = .inr (3, [.ref (b + (g + 1)), .ref (b + (g + 2)), .ref (b + (g + 3)), .ref (b + (g + 4)), .null, .null, .null, .null, .null, .null, .null, .null, .null, .int (nI 0), .int (nI 0)]) := by rw [← hCd]; exact va_up_self _ _ _
  have h1 : C98 (g + 1) = .inl (ca 3, 72, .inr (.inr (.inr (.inr (fun _ => none))))) := by rw [← hCd]; exact (va_up_ne _ _ (by omega)).trans h1
  have h2 : C98 (g + 2) = .inl (ca 3, 6, .inr (.inr (.inr (.inr (fun _ => none))))) := by rw [← hCd]; exact (va_up_ne _ _ (by omega)).trans h2
  have h3 : C98 (g + 3) = .inl (ca 3, 12, .inr (.inr (.inr (.inr (fun _ => none))))) := by rw [← hCd]; exact (va_up_ne _ _ (by omega)).trans h3
  have h4 : C98 (g + 4) = gobj b (g + 4) 0 := by rw [← hCd]; exact (va_up_ne _ _ (by omega)).trans h4
  have h5 : C98 (g + 5) = garr ca (fun _ => 0) := by rw [← hCd]; exact (va_up_ne _ _ (by omega)).trans h5
  clear hCd
  refine lv_aload_n hx hb d_PA_init_42 rfl (lv_at hl 0 rfl) ?_
  refine xw_sz (n := g + 6) (by omega) hP (by omega) (fun hsz => ?_)
  refine xw_mkG hx hb hml hown hts tb_83 hZ.2.2.1 hK hZ hP hsz hl (Nat.le_of_ble_eq_true rfl) d_PA_init_43 d_PA_init_46 d_PA_init_47 (by decide) (by decide) ⟨by decide, by decide⟩ hS (fun C99 H locs hCf hzG hP hsz hS => ?_)
  have hfr : ∀ k, k < g → C99 k = C0 k := fun k hk => (hCf k (by omega)).trans (hfr k hk)
  have h0 : C99 g = .inr (3, [.ref (b + (g + 1)), .ref (b + (g + 2)), .ref (b + (g + 3)), .ref (b + (g + 4)), .null, .null, .null, .null, .null, .null, .null, .null, .null, .int (nI 0), .int (nI 0)]) := (hCf g (by omega)).trans h0
  have h1 : C99 (g + 1) = .inl (ca 3, 72, .inr (.inr (.inr (.inr (fun _ => none))))) := (hCf _ (by omega)).trans h1
  have h2 : C99 (g + 2) = .inl (ca 3, 6, .inr (.inr (.inr (.inr (fun _ => none))))) := (hCf _ (by omega)).trans h2
  have h3 : C99 (g + 3) = .inl (ca 3, 12, .inr (.inr (.inr (.inr (fun _ => none))))) := (hCf _ (by omega)).trans h3
  have h4 : C99 (g + 4) = gobj b (g + 4) 0 := (hCf _ (by omega)).trans h4
  have h5 : C99 (g + 5) = garr ca (fun _ => 0) := (hCf _ (by omega)).trans h5
  have h6 : C99 (g + 6) = gobj b (g + 6) 0 := hzG.1
  have h7 : C99 (g + 7) = garr ca (fun _ => 0) := hzG.2
  refine xw_putF (v := .ref (b + (g + 6))) (ty := t_PA 4) hx hb hts (fun w h => mw (uw_PA w h)) t_PA t_PA_ok n_PA hown hK hP (fun k _ => Nat.le_add_right _ _) hS h0 (by omega) rfl 4 (by decide) (hts _ (mw tb_105)) (fun _ h => h) rfl hin rfl (by decide +kernel) rfl rfl (Nat.le_of_ble_eq_true rfl) d_PA_init_50 (fun H locs hP hS => ?_)
  generalize hCd : va_up C99 g _ = C910 at hP
  have hfr : ∀ k, k < g → C910 k = C0 k := fun k hk => by rw [← hCd]; exact (va_up_ne _ _ (by omega)).trans (hfr k hk)
  have h0 : C910 g = .inr (3, [.ref (b + (g + 1)), .ref (b + (g + 2)), .ref (b + (g + 3)), .ref (b + (g + 4)), .ref (b + (g + 6)), .null, .null, .null, .null, .null, .null, .null, .null, .int (nI 0), .int (nI 0)]) := by rw [← hCd]; exact va_up_self _ _ _
  have h1 : C910 (g + 1) = .inl (ca 3, 72, .inr (.inr (.inr (.inr (fun _ => none))))) := by rw [← hCd]; exact (va_up_ne _ _ (by omega)).trans h1
  have h2 : C910 (g + 2) = .inl (ca 3, 6, .inr (.inr (.inr (.inr (fun _ => none))))) := by rw [← hCd]; exact (va_up_ne _ _ (by omega)).trans h2
  have h3 : C910 (g + 3) = .inl (ca 3, 12, .inr (.inr (.inr (.inr (fun _ => none))))) := by rw [← hCd]; exact (va_up_ne _ _ (by omega)).trans h3
  have h4 : C910 (g + 4) = gobj b (g + 4) 0 := by rw [← hCd]; exact (va_up_ne _ _ (by omega)).trans h4
  have h5 : C910 (g + 5) = garr ca (fun _ => 0) := by rw [← hCd]; exact (va_up_ne _ _ (by omega)).trans h5
  have h6 : C910 (g + 6) = gobj b (g + 6) 0 := by rw [← hCd]; exact (va_up_ne _ _ (by omega)).trans h6
  have h7 : C910 (g + 7) = garr ca (fun _ => 0) := by rw [← hCd]; exact (va_up_ne _ _ (by omega)).trans h7
  clear hCd
  refine lv_aload_n hx hb d_PA_init_53 rfl (lv_at hl 0 rfl) ?_
  refine xw_sz (n := g + 8) (by omega) hP (by omega) (fun hsz => ?_)
  refine xw_mkG hx hb hml hown hts tb_83 hZ.2.2.1 hK hZ hP hsz hl (Nat.le_of_ble_eq_true rfl) d_PA_init_54 d_PA_init_57 d_PA_init_58 (by decide) (by decide) ⟨by decide, by decide⟩ hS (fun C911 H locs hCf hzG hP hsz hS => ?_)
  have hfr : ∀ k, k < g → C911 k = C0 k := fun k hk => (hCf k (by omega)).trans (hfr k hk)
  have h0 : C911 g = .inr (3, [.ref (b + (g + 1)), .ref (b + (g + 2)), .ref (b + (g + 3)), .ref (b + (g + 4)), .ref (b + (g + 6)), .null, .null, .null, .null, .null, .null, .null, .null, .int (nI 0), .int (nI 0)]) := (hCf g (by omega)).trans h0
  have h1 : C911 (g + 1) = .inl (ca 3, 72, .inr (.inr (.inr (.inr (fun _ => none))))) := (hCf _ (by omega)).trans h1
  have h2 : C911 (g + 2) = .inl (ca 3, 6, .inr (.inr (.inr (.inr (fun _ => none))))) := (hCf _ (by omega)).trans h2
  have h3 : C911 (g + 3) = .inl (ca 3, 12, .inr (.inr (.inr (.inr (fun _ => none))))) := (hCf _ (by omega)).trans h3
  have h4 : C911 (g + 4) = gobj b (g + 4) 0 := (hCf _ (by omega)).trans h4
  have h5 : C911 (g + 5) = garr ca (fun _ => 0) := (hCf _ (by omega)).trans h5
  have h6 : C911 (g + 6) = gobj b (g + 6) 0 := (hCf _ (by omega)).trans h6
  have h7 : C911 (g + 7) = garr ca (fun _ => 0) := (hCf _ (by omega)).trans h7
  have h8 : C911 (g + 8) = gobj b (g + 8) 0 := hzG.1
  have h9 : C911 (g + 9) = garr ca (fun _ => 0) := hzG.2
  refine xw_putF (v := .ref (b + (g + 8))) (ty := t_PA 5) hx hb hts (fun w h => mw (uw_PA w h)) t_PA t_PA_ok n_PA hown hK hP (fun k _ => Nat.le_add_right _ _) hS h0 (by omega) rfl 5 (by decide) (hts _ (mw tb_106)) (fun _ h => h) rfl hin rfl (by decide +kernel) rfl rfl (Nat.le_of_ble_eq_true rfl) d_PA_init_61 (fun H locs hP hS => ?_)
  generalize hCd : va_up C911 g _ = C912 at hP
  have hfr : ∀ k, k < g → C912 k = C0 k := fun k hk => by rw [← hCd]; exact (va_up_ne _ _ (by omega)).trans (hfr k hk)
  have h0 : C912 g = .inr (3, [.ref (b + (g + 1)), .ref (b + (g + 2)), .ref (b + (g + 3)), .ref (b + (g + 4)), .ref (b + (g + 6)), .ref (b + (g + 8)), .null, .null, .null, .null, .null, .null, .null, .int (nI 0), .int (nI 0)]) := by rw [← hCd]; exact va_up_self _ _ _
  have h1 : C912 (g + 1) = .inl (ca 3, 72, .inr (.inr (.inr (.inr (fun _ => none))))) := by rw [← hCd]; exact (va_up_ne _ _ (by omega)).trans h1
  have h2 : C912 (g + 2) = .inl (ca 3, 6, .inr (.inr (.inr (.inr (fun _ => none))))) := by rw [← hCd]; exact (va_up_ne _ _ (by omega)).trans h2
  have h3 : C912 (g + 3) = .inl (ca 3, 12, .inr (.inr (.inr (.inr (fun _ => none))))) := by rw [← hCd]; exact (va_up_ne _ _ (by omega)).trans h3
  have h4 : C912 (g + 4) = gobj b (g + 4) 0 := by rw [← hCd]; exact (va_up_ne _ _ (by omega)).trans h4
  have h5 : C912 (g + 5) = garr ca (fun _ => 0) := by rw [← hCd]; exact (va_up_ne _ _ (by omega)).trans h5
  have h6 : C912 (g + 6) = gobj b (g + 6) 0 := by rw [← hCd]; exact (va_up_ne _ _ (by omega)).trans h6
  have h7 : C912 (g + 7) = garr ca (fun _ => 0) := by rw [← hCd]; exact (va_up_ne _ _ (by omega)).trans h7
  have h8 : C912 (g + 8) = gobj b (g + 8) 0 := by rw [← hCd]; exact (va_up_ne _ _ (by omega)).trans h8
  have h9 : C912 (g + 9) = garr ca (fun _ => 0) := by rw [← hCd]; exact (va_up_ne _ _ (by omega)).trans h9
  clear hCd
  refine lv_aload_n hx hb d_PA_init_64 rfl (lv_at hl 0 rfl) ?_
  refine lv_bipush (v := nI 6) hx hb d_PA_init_65 (by decide) ?_
  refine xw_sz (n := g + 10) (by omega) hP (by omega) (fun hsz => ?_)
  refine xw_newa (atype := .int) (ty := .int) (a0 := (6, .inl (fun _ => nI 0))) hx hb 0 (hts _ (mw tb_44)) rfl hK rfl (hK.2 0 _ rfl).2 hP hS hsz rfl (by decide) (by decide) (by decide) (by decide) (by decide) d_PA_init_67 (fun H hP hsz hS => ?_)
  generalize hCd : va_up C912 (g + 10) _ = C913 at hP
  have hfr : ∀ k, k < g → C913 k = C0 k := fun k hk => by rw [← hCd]; exact (va_up_ne _ _ (by omega)).trans (hfr k hk)
  have h0 : C913 g = .inr (3, [.ref (b + (g + 1)), .ref (b + (g + 2)), .ref (b + (g + 3)), .ref (b + (g + 4)), .ref (b + (g + 6)), .ref (b + (g + 8)), .null, .null, .null, .null, .null, .null, .null, .int (nI 0), .int (nI 0)]) := by rw [← hCd]; exact (va_up_ne _ _ (by omega)).trans h0
  have h1 : C913 (g + 1) = .inl (ca 3, 72, .inr (.inr (.inr (.inr (fun _ => none))))) := by rw [← hCd]; exact (va_up_ne _ _ (by omega)).trans h1
  have h2 : C913 (g + 2) = .inl (ca 3, 6, .inr (.inr (.inr (.inr (fun _ => none))))) := by rw [← hCd]; exact (va_up_ne _ _ (by omega)).trans h2
  have h3 : C913 (g + 3) = .inl (ca 3, 12, .inr (.inr (.inr (.inr (fun _ => none))))) := by rw [← hCd]; exact (va_up_ne _ _ (by omega)).trans h3
  have h4 : C913 (g + 4) = gobj b (g + 4) 0 := by rw [← hCd]; exact (va_up_ne _ _ (by omega)).trans h4
  have h5 : C913 (g + 5) = garr ca (fun _ => 0) := by rw [← hCd]; exact (va_up_ne _ _ (by omega)).trans h5
  have h6 : C913 (g + 6) = gobj b (g + 6) 0 := by rw [← hCd]; exact (va_up_ne _ _ (by omega)).trans h6
  have h7 : C913 (g + 7) = garr ca (fun _ => 0) := by rw [← hCd]; exact (va_up_ne _ _ (by omega)).trans h7
  have h8 : C913 (g + 8) = gobj b (g + 8) 0 := by rw [← hCd]; exact (va_up_ne _ _ (by omega)).trans h8
  have h9 : C913 (g + 9) = garr ca (fun _ => 0) := by rw [← hCd]; exact (va_up_ne _ _ (by omega)).trans h9
  have h10 : C913 (g + 10) = .inl (ca 0, 6, .inl (fun _ => nI 0)) := by rw [← hCd]; exact va_up_self _ _ _
  clear hCd
  refine xw_putF (v := .ref (b + (g + 10))) (ty := t_PA 6) hx hb hts (fun w h => mw (uw_PA w h)) t_PA t_PA_ok n_PA hown hK hP (fun k _ => Nat.le_add_right _ _) hS h0 (by omega) rfl 6 (by decide) (hts _ (mw tb_107)) (fun _ h => h) rfl hin rfl (by decide +kernel) rfl rfl (Nat.le_of_ble_eq_true rfl) d_PA_init_69 (fun H locs hP hS => ?_)
  generalize hCd : va_up C913 g _ = C914 at hP
  have hfr : ∀ k, k < g → C914 k = C0 k := fun k hk => by rw [← hCd]; exact (va_up_ne _ _ (by omega)).trans (hfr k hk)
  have h0 : C914 g = .inr (3, [.ref (b + (g + 1)), .ref (b + (g + 2)), .ref (b + (g + 3)), .ref (b + (g + 4)), .ref (b + (g + 6)), .ref (b + (g + 8)), .ref (b + (g + 10)), .null, .null, .null, .null, .null, .null, .int (nI 0), .int (nI 0)]) := by rw [← hCd]; exact va_up_self _ _ _
  have h1 : C914 (g + 1) = .inl (ca 3, 72, .inr (.inr (.inr (.inr (fun _ => none))))) := by rw [← hCd]; exact (va_up_ne _ _ (by omega)).trans h1
  have h2 : C914 (g + 2) = .inl (ca 3, 6, .inr (.inr (.inr (.inr (fun _ => none))))) := by rw [← hCd]; exact (va_up_ne _ _ (by omega)).trans h2
  have h3 : C914 (g + 3) = .inl (ca 3, 12, .inr (.inr (.inr (.inr (fun _ => none))))) := by rw [← hCd]; exact (va_up_ne _ _ (by omega)).trans h3
  have h4 : C914 (g + 4) = gobj b (g + 4) 0 := by rw [← hCd]; exact (va_up_ne _ _ (by omega)).trans h4
  have h5 : C914 (g + 5) = garr ca (fun _ => 0) := by rw [← hCd]; exact (va_up_ne _ _ (by omega)).trans h5
  have h6 : C914 (g + 6) = gobj b (g + 6) 0 := by rw [← hCd]; exact (va_up_ne _ _ (by omega)).trans h6
  have h7 : C914 (g + 7) = garr ca (fun _ => 0) := by rw [← hCd]; exact (va_up_ne _ _ (by omega)).trans h7
  have h8 : C914 (g + 8) = gobj b (g + 8) 0 := by rw [← hCd]; exact (va_up_ne _ _ (by omega)).trans h8
  have h9 : C914 (g + 9) = garr ca (fun _ => 0) := by rw [← hCd]; exact (va_up_ne _ _ (by omega)).trans h9
  have h10 : C914 (g + 10) = .inl (ca 0, 6, .inl (fun _ => nI 0)) := by rw [← hCd]; exact (va_up_ne _ _ (by omega)).trans h10
  clear hCd
  refine lv_aload_n hx hb d_PA_init_72 rfl (lv_at hl 0 rfl) ?_
  refine lv_iconst (v := nI 2) hx hb d_PA_init_73 (by decide) ?_
  refine xw_sz (n := g + 11) (by omega) hP (by omega) (fun hsz => ?_)
  refine xw_newa (atype := .int) (ty := .int) (a0 := (2, .inl (fun _ => nI 0))) hx hb 0 (hts _ (mw tb_44)) rfl hK rfl (hK.2 0 _ rfl).2 hP hS hsz rfl (by decide) (by decide) (by decide) (by decide) (by decide) d_PA_init_74 (fun H hP hsz hS => ?_)
  generalize hCd : va_up C914 (g + 11) _ = C915 at hP
  have hfr : ∀ k, k < g → C915 k = C0 k := fun k hk => by rw [← hCd]; exact (va_up_ne _ _ (by omega)).trans (hfr k hk)
  have h0 : C915 g = .inr (3, [.ref (b + (g + 1)), .ref (b + (g + 2)), .ref (b + (g + 3)), .ref (b + (g + 4)), .ref (b + (g + 6)), .ref (b + (g + 8)), .ref (b + (g + 10)), .null, .null, .null, .null, .null, .null, .int (nI 0), .int (nI 0)]) := by rw [← hCd]; exact (va_up_ne _ _ (by omega)).trans h0
  have h1 : C915 (g + 1) = .inl (ca 3, 72, .inr (.inr (.inr (.inr (fun _ => none))))) := by rw [← hCd]; exact (va_up_ne _ _ (by omega)).trans h1
  have h2 : C915 (g + 2) = .inl (ca 3, 6, .inr (.inr (.inr (.inr (fun _ => none))))) := by rw [← hCd]; exact (va_up_ne _ _ (by omega)).trans h2
  have h3 : C915 (g + 3) = .inl (ca 3, 12, .inr (.inr (.inr (.inr (fun _ => none))))) := by rw [← hCd]; exact (va_up_ne _ _ (by omega)).trans h3
  have h4 : C915 (g + 4) = gobj b (g + 4) 0 := by rw [← hCd]; exact (va_up_ne _ _ (by omega)).trans h4
  have h5 : C915 (g + 5) = garr ca (fun _ => 0) := by rw [← hCd]; exact (va_up_ne _ _ (by omega)).trans h5
  have h6 : C915 (g + 6) = gobj b (g + 6) 0 := by rw [← hCd]; exact (va_up_ne _ _ (by omega)).trans h6
  have h7 : C915 (g + 7) = garr ca (fun _ => 0) := by rw [← hCd]; exact (va_up_ne _ _ (by omega)).trans h7
  have h8 : C915 (g + 8) = gobj b (g + 8) 0 := by rw [← hCd]; exact (va_up_ne _ _ (by omega)).trans h8
  have h9 : C915 (g + 9) = garr ca (fun _ => 0) := by rw [← hCd]; exact (va_up_ne _ _ (by omega)).trans h9
  have h10 : C915 (g + 10) = .inl (ca 0, 6, .inl (fun _ => nI 0)) := by rw [← hCd]; exact (va_up_ne _ _ (by omega)).trans h10
  have h11 : C915 (g + 11) = .inl (ca 0, 2, .inl (fun _ => nI 0)) := by rw [← hCd]; exact va_up_self _ _ _
  clear hCd
  refine xw_putF (v := .ref (b + (g + 11))) (ty := t_PA 7) hx hb hts (fun w h => mw (uw_PA w h)) t_PA t_PA_ok n_PA hown hK hP (fun k _ => Nat.le_add_right _ _) hS h0 (by omega) rfl 7 (by decide) (hts _ (mw tb_108)) (fun _ h => h) rfl hin rfl (by decide +kernel) rfl rfl (Nat.le_of_ble_eq_true rfl) d_PA_init_76 (fun H locs hP hS => ?_)
  generalize hCd : va_up C915 g _ = C916 at hP
  have hfr : ∀ k, k < g → C916 k = C0 k := fun k hk => by rw [← hCd]; exact (va_up_ne _ _ (by omega)).trans (hfr k hk)
  have h0 : C916 g = .inr (3, [.ref (b + (g + 1)), .ref (b + (g + 2)), .ref (b + (g + 3)), .ref (b + (g + 4)), .ref (b + (g + 6)), .ref (b + (g + 8)), .ref (b + (g + 10)), .ref (b + (g + 11)), .null, .null, .null, .null, .null, .int (nI 0), .int (nI 0)]) := by rw [← hCd]; exact va_up_self _ _ _
  have h1 : C916 (g + 1) = .inl (ca 3, 72, .inr (.inr (.inr (.inr (fun _ => none))))) := by rw [← hCd]; exact (va_up_ne _ _ (by omega)).trans h1
  have h2 : C916 (g + 2) = .inl (ca 3, 6, .inr (.inr (.inr (.inr (fun _ => none))))) := by rw [← hCd]; exact (va_up_ne _ _ (by omega)).trans h2
  have h3 : C916 (g + 3) = .inl (ca 3, 12, .inr (.inr (.inr (.inr (fun _ => none))))) := by rw [← hCd]; exact (va_up_ne _ _ (by omega)).trans h3
  have h4 : C916 (g + 4) = gobj b (g + 4) 0 := by rw [← hCd]; exact (va_up_ne _ _ (by omega)).trans h4
  have h5 : C916 (g + 5) = garr ca (fun _ => 0) := by rw [← hCd]; exact (va_up_ne _ _ (by omega)).trans h5
  have h6 : C916 (g + 6) = gobj b (g + 6) 0 := by rw [← hCd]; exact (va_up_ne _ _ (by omega)).trans h6
  have h7 : C916 (g + 7) = garr ca (fun _ => 0) := by rw [← hCd]; exact (va_up_ne _ _ (by omega)).trans h7
  have h8 : C916 (g + 8) = gobj b (g + 8) 0 := by rw [← hCd]; exact (va_up_ne _ _ (by omega)).trans h8
  have h9 : C916 (g + 9) = garr ca (fun _ => 0) := by rw [← hCd]; exact (va_up_ne _ _ (by omega)).trans h9
  have h10 : C916 (g + 10) = .inl (ca 0, 6, .inl (fun _ => nI 0)) := by rw [← hCd]; exact (va_up_ne _ _ (by omega)).trans h10
  have h11 : C916 (g + 11) = .inl (ca 0, 2, .inl (fun _ => nI 0)) := by rw [← hCd]; exact (va_up_ne _ _ (by omega)).trans h11
  clear hCd
  refine lv_aload_n hx hb d_PA_init_79 rfl (lv_at hl 0 rfl) ?_
  refine lv_bipush (v := nI 6) hx hb d_PA_init_80 (by decide) ?_
  refine xw_sz (n := g + 12) (by omega) hP (by omega) (fun hsz => ?_)
  refine xw_newa (atype := .int) (ty := .int) (a0 := (6, .inl (fun _ => nI 0))) hx hb 0 (hts _ (mw tb_44)) rfl hK rfl (hK.2 0 _ rfl).2 hP hS hsz rfl (by decide) (by decide) (by decide) (by decide) (by decide) d_PA_init_82 (fun H hP hsz hS => ?_)
  generalize hCd : va_up C916 (g + 12) _ = C917 at hP
  have hfr : ∀ k, k < g → C917 k = C0 k := fun k hk => by rw [← hCd]; exact (va_up_ne _ _ (by omega)).trans (hfr k hk)
  have h0 : C917 g = .inr (3, [.ref (b + (g + 1)), .ref (b + (g + 2)), .ref (b + (g + 3)), .ref (b + (g + 4)), .ref (b + (g + 6)), .ref (b + (g + 8)), .ref (b + (g + 10)), .ref (b + (g + 11)), .null, .null, .null, .null, .null, .int (nI 0), .int (nI 0)]) := by rw [← hCd]; exact (va_up_ne _ _ (by omega)).trans h0
  have h1 : C917 (g + 1) = .inl (ca 3, 72, .inr (.inr (.inr (.inr (fun _ => none))))) := by rw [← hCd]; exact (va_up_ne _ _ (by omega)).trans h1
  have h2 : C917 (g + 2) = .inl (ca 3, 6, .inr (.inr (.inr (.inr (fun _ => none))))) := by rw [← hCd]; exact (va_up_ne _ _ (by omega)).trans h2
  have h3 : C917 (g + 3) = .inl (ca 3, 12, .inr (.inr (.inr (.inr (fun _ => none))))) := by rw [← hCd]; exact (va_up_ne _ _ (by omega)).trans h3
  have h4 : C917 (g + 4) = gobj b (g + 4) 0 := by rw [← hCd]; exact (va_up_ne _ _ (by omega)).trans h4
  have h5 : C917 (g + 5) = garr ca (fun _ => 0) := by rw [← hCd]; exact (va_up_ne _ _ (by omega)).trans h5
  have h6 : C917 (g + 6) = gobj b (g + 6) 0 := by rw [← hCd]; exact (va_up_ne _ _ (by omega)).trans h6
  have h7 : C917 (g + 7) = garr ca (fun _ => 0) := by rw [← hCd]; exact (va_up_ne _ _ (by omega)).trans h7
  have h8 : C917 (g + 8) = gobj b (g + 8) 0 := by rw [← hCd]; exact (va_up_ne _ _ (by omega)).trans h8
  have h9 : C917 (g + 9) = garr ca (fun _ => 0) := by rw [← hCd]; exact (va_up_ne _ _ (by omega)).trans h9
  have h10 : C917 (g + 10) = .inl (ca 0, 6, .inl (fun _ => nI 0)) := by rw [← hCd]; exact (va_up_ne _ _ (by omega)).trans h10
  have h11 : C917 (g + 11) = .inl (ca 0, 2, .inl (fun _ => nI 0)) := by rw [← hCd]; exact (va_up_ne _ _ (by omega)).trans h11
  have h12 : C917 (g + 12) = .inl (ca 0, 6, .inl (fun _ => nI 0)) := by rw [← hCd]; exact va_up_self _ _ _
  clear hCd
  refine xw_putF (v := .ref (b + (g + 12))) (ty := t_PA 8) hx hb hts (fun w h => mw (uw_PA w h)) t_PA t_PA_ok n_PA hown hK hP (fun k _ => Nat.le_add_right _ _) hS h0 (by omega) rfl 8 (by decide) (hts _ (mw tb_109)) (fun _ h => h) rfl hin rfl (by decide +kernel) rfl rfl (Nat.le_of_ble_eq_true rfl) d_PA_init_84 (fun H locs hP hS => ?_)
  generalize hCd : va_up C917 g _ = C918 at hP
  have hfr : ∀ k, k < g → C918 k = C0 k := fun k hk => by rw [← hCd]; exact (va_up_ne _ _ (by omega)).trans (hfr k hk)
  have h0 : C918 g = .inr (3, [.ref (b + (g + 1)), .ref (b + (g + 2)), .ref (b + (g + 3)), .ref (b + (g + 4)), .ref (b + (g + 6)), .ref (b + (g + 8)), .ref (b + (g + 10)), .ref (b + (g + 11)), .ref (b + (g + 12)), .null, .null, .null, .null, .int (nI 0), .int (nI 0)]) := by rw [← hCd]; exact va_up_self _ _ _
  have h1 : C918 (g + 1) = .inl (ca 3, 72, .inr (.inr (.inr (.inr (fun _ => none))))) := by rw [← hCd]; exact (va_up_ne _ _ (by omega)).trans h1
  have h2 : C918 (g + 2) = .inl (ca 3, 6, .inr (.inr (.inr (.inr (fun _ => none))))) := by rw [← hCd]; exact (va_up_ne _ _ (by omega)).trans h2
  have h3 : C918 (g + 3) = .inl (ca 3, 12, .inr (.inr (.inr (.inr (fun _ => none))))) := by rw [← hCd]; exact (va_up_ne _ _ (by omega)).trans h3
  have h4 : C918 (g + 4) = gobj b (g + 4) 0 := by rw [← hCd]; exact (va_up_ne _ _ (by omega)).trans h4
  have h5 : C918 (g + 5) = garr ca (fun _ => 0) := by rw [← hCd]; exact (va_up_ne _ _ (by omega)).trans h5
  have h6 : C918 (g + 6) = gobj b (g + 6) 0 := by rw [← hCd]; exact (va_up_ne _ _ (by omega)).trans h6
  have h7 : C918 (g + 7) = garr ca (fun _ => 0) := by rw [← hCd]; exact (va_up_ne _ _ (by omega)).trans h7
  have h8 : C918 (g + 8) = gobj b (g + 8) 0 := by rw [← hCd]; exact (va_up_ne _ _ (by omega)).trans h8
  have h9 : C918 (g + 9) = garr ca (fun _ => 0) := by rw [← hCd]; exact (va_up_ne _ _ (by omega)).trans h9
  have h10 : C918 (g + 10) = .inl (ca 0, 6, .inl (fun _ => nI 0)) := by rw [← hCd]; exact (va_up_ne _ _ (by omega)).trans h10
  have h11 : C918 (g + 11) = .inl (ca 0, 2, .inl (fun _ => nI 0)) := by rw [← hCd]; exact (va_up_ne _ _ (by omega)).trans h11
  have h12 : C918 (g + 12) = .inl (ca 0, 6, .inl (fun _ => nI 0)) := by rw [← hCd]; exact (va_up_ne _ _ (by omega)).trans h12
  clear hCd
  refine lv_aload_n hx hb d_PA_init_87 rfl (lv_at hl 0 rfl) ?_
  refine lv_bipush (v := nI 6) hx hb d_PA_init_88 (by decide) ?_
  refine xw_sz (n := g + 13) (by omega) hP (by omega) (fun hsz => ?_)
  refine xw_newa (atype := .int) (ty := .int) (a0 := (6, .inl (fun _ => nI 0))) hx hb 0 (hts _ (mw tb_44)) rfl hK rfl (hK.2 0 _ rfl).2 hP hS hsz rfl (by decide) (by decide) (by decide) (by decide) (by decide) d_PA_init_90 (fun H hP hsz hS => ?_)
  generalize hCd : va_up C918 (g + 13) _ = C919 at hP
  have hfr : ∀ k, k < g → C919 k = C0 k := fun k hk => by rw [← hCd]; exact (va_up_ne _ _ (by omega)).trans (hfr k hk)
  have h0 : C919 g = .inr (3, [.ref (b + (g + 1)), .ref (b + (g + 2)), .ref (b + (g + 3)), .ref (b + (g + 4)), .ref (b + (g + 6)), .ref (b + (g + 8)), .ref (b + (g + 10)), .ref (b + (g + 11)), .ref (b + (g + 12)), .null, .null, .null, .null, .int (nI 0), .int (nI 0)]) := by rw [← hCd]; exact (va_up_ne _ _ (by omega)).trans h0
  have h1 : C919 (g + 1) = .inl (ca 3, 72, .inr (.inr (.inr (.inr (fun _ => none))))) := by rw [← hCd]; exact (va_up_ne _ _ (by omega)).trans h1
  have h2 : C919 (g + 2) = .inl (ca 3, 6, .inr (.inr (.inr (.inr (fun _ => none))))) := by rw [← hCd]; exact (va_up_ne _ _ (by omega)).trans h2
  have h3 : C919 (g + 3) = .inl (ca 3, 12, .inr (.inr (.inr (.inr (fun _ => none))))) := by rw [← hCd]; exact (va_up_ne _ _ (by omega)).trans h3
  have h4 : C919 (g + 4) = gobj b (g + 4) 0 := by rw [← hCd]; exact (va_up_ne _ _ (by omega)).trans h4
  have h5 : C919 (g + 5) = garr ca (fun _ => 0) := by rw [← hCd]; exact (va_up_ne _ _ (by omega)).trans h5
  have h6 : C919 (g + 6) = gobj b (g + 6) 0 := by rw [← hCd]; exact (va_up_ne _ _ (by omega)).trans h6
  have h7 : C919 (g + 7) = garr ca (fun _ => 0) := by rw [← hCd]; exact (va_up_ne _ _ (by omega)).trans h7
  have h8 : C919 (g + 8) = gobj b (g + 8) 0 := by rw [← hCd]; exact (va_up_ne _ _ (by omega)).trans h8
  have h9 : C919 (g + 9) = garr ca (fun _ => 0) := by rw [← hCd]; exact (va_up_ne _ _ (by omega)).trans h9
  have h10 : C919 (g + 10) = .inl (ca 0, 6, .inl (fun _ => nI 0)) := by rw [← hCd]; exact (va_up_ne _ _ (by omega)).trans h10
  have h11 : C919 (g + 11) = .inl (ca 0, 2, .inl (fun _ => nI 0)) := by rw [← hCd]; exact (va_up_ne _ _ (by omega)).trans h11
  have h12 : C919 (g + 12) = .inl (ca 0, 6, .inl (fun _ => nI 0)) := by rw [← hCd]; exact (va_up_ne _ _ (by omega)).trans h12
  have h13 : C919 (g + 13) = .inl (ca 0, 6, .inl (fun _ => nI 0)) := by rw [← hCd]; exact va_up_self _ _ _
  clear hCd
  refine xw_putF (v := .ref (b + (g + 13))) (ty := t_PA 9) hx hb hts (fun w h => mw (uw_PA w h)) t_PA t_PA_ok n_PA hown hK hP (fun k _ => Nat.le_add_right _ _) hS h0 (by omega) rfl 9 (by decide) (hts _ (mw tb_110)) (fun _ h => h) rfl hin rfl (by decide +kernel) rfl rfl (Nat.le_of_ble_eq_true rfl) d_PA_init_92 (fun H locs hP hS => ?_)
  generalize hCd : va_up C919 g _ = C920 at hP
  have hfr : ∀ k, k < g → C920 k = C0 k := fun k hk => by rw [← hCd]; exact (va_up_ne _ _ (by omega)).trans (hfr k hk)
  have h0 : C920 g = .inr (3, [.ref (b + (g + 1)), .ref (b + (g + 2)), .ref (b + (g + 3)), .ref (b + (g + 4)), .ref (b + (g + 6)), .ref (b + (g + 8)), .ref (b + (g + 10)), .ref (b + (g + 11)), .ref (b + (g + 12)), .ref (b + (g + 13)), .null, .null, .null, .int (nI 0), .int (nI 0)]) := by rw [← hCd]; exact va_up_self _ _ _
  have h1 : C920 (g + 1) = .inl (ca 3, 72, .inr (.inr (.inr (.inr (fun _ => none))))) := by rw [← hCd]; exact (va_up_ne _ _ (by omega)).trans h1
  have h2 : C920 (g + 2) = .inl (ca 3, 6, .inr (.inr (.inr (.inr (fun _ => none))))) := by rw [← hCd]; exact (va_up_ne _ _ (by omega)).trans h2
  have h3 : C920 (g + 3) = .inl (ca 3, 12, .inr (.inr (.inr (.inr (fun _ => none))))) := by rw [← hCd]; exact (va_up_ne _ _ (by omega)).trans h3
  have h4 : C920 (g + 4) = gobj b (g + 4) 0 := by rw [← hCd]; exact (va_up_ne _ _ (by omega)).trans h4
  have h5 : C920 (g + 5) = garr ca (fun _ => 0) := by rw [← hCd]; exact (va_up_ne _ _ (by omega)).trans h5
  have h6 : C920 (g + 6) = gobj b (g + 6) 0 := by rw [← hCd]; exact (va_up_ne _ _ (by omega)).trans h6
  have h7 : C920 (g + 7) = garr ca (fun _ => 0) := by rw [← hCd]; exact (va_up_ne _ _ (by omega)).trans h7
  have h8 : C920 (g + 8) = gobj b (g + 8) 0 := by rw [← hCd]; exact (va_up_ne _ _ (by omega)).trans h8
  have h9 : C920 (g + 9) = garr ca (fun _ => 0) := by rw [← hCd]; exact (va_up_ne _ _ (by omega)).trans h9
  have h10 : C920 (g + 10) = .inl (ca 0, 6, .inl (fun _ => nI 0)) := by rw [← hCd]; exact (va_up_ne _ _ (by omega)).trans h10
  have h11 : C920 (g + 11) = .inl (ca 0, 2, .inl (fun _ => nI 0)) := by rw [← hCd]; exact (va_up_ne _ _ (by omega)).trans h11
  have h12 : C920 (g + 12) = .inl (ca 0, 6, .inl (fun _ => nI 0)) := by rw [← hCd]; exact (va_up_ne _ _ (by omega)).trans h12
  have h13 : C920 (g + 13) = .inl (ca 0, 6, .inl (fun _ => nI 0)) := by rw [← hCd]; exact (va_up_ne _ _ (by omega)).trans h13
  clear hCd
  refine lv_aload_n hx hb d_PA_init_95 rfl (lv_at hl 0 rfl) ?_
  refine lv_bipush (v := nI 6) hx hb d_PA_init_96 (by decide) ?_
  refine xw_sz (n := g + 14) (by omega) hP (by omega) (fun hsz => ?_)
  refine xw_newa (atype := .int) (ty := .int) (a0 := (6, .inl (fun _ => nI 0))) hx hb 0 (hts _ (mw tb_44)) rfl hK rfl (hK.2 0 _ rfl).2 hP hS hsz rfl (by decide) (by decide) (by decide) (by decide) (by decide) d_PA_init_98 (fun H hP hsz hS => ?_)
  generalize hCd : va_up C920 (g + 14) _ = C921 at hP
  have hfr : ∀ k, k < g → C921 k = C0 k := fun k hk => by rw [← hCd]; exact (va_up_ne _ _ (by omega)).trans (hfr k hk)
  have h0 : C921 g = .inr (3, [.ref (b + (g + 1)), .ref (b + (g + 2)), .ref (b + (g + 3)), .ref (b + (g + 4)), .ref (b + (g + 6)), .ref (b + (g + 8)), .ref (b + (g + 10)), .ref (b + (g + 11)), .ref (b + (g + 12)), .ref (b + (g + 13)), .null, .null, .null, .int (nI 0), .int (nI 0)]) := by rw [← hCd]; exact (va_up_ne _ _ (by omega)).trans h0
  have h1 : C921 (g + 1) = .inl (ca 3, 72, .inr (.inr (.inr (.inr (fun _ => none))))) := by rw [← hCd]; exact (va_up_ne _ _ (by omega)).trans h1
  have h2 : C921 (g + 2) = .inl (ca 3, 6, .inr (.inr (.inr (.inr (fun _ => none))))) := by rw [← hCd]; exact (va_up_ne _ _ (by omega)).trans h2
  have h3 : C921 (g + 3) = .inl (ca 3, 12, .inr (.inr (.inr (.inr (fun _ => none))))) := by rw [← hCd]; exact (va_up_ne _ _ (by omega)).trans h3
  have h4 : C921 (g + 4) = gobj b (g + 4) 0 := by rw [← hCd]; exact (va_up_ne _ _ (by omega)).trans h4
  have h5 : C921 (g + 5) = garr ca (fun _ => 0) := by rw [← hCd]; exact (va_up_ne _ _ (by omega)).trans h5
  have h6 : C921 (g + 6) = gobj b (g + 6) 0 := by rw [← hCd]; exact (va_up_ne _ _ (by omega)).trans h6
  have h7 : C921 (g + 7) = garr ca (fun _ => 0) := by rw [← hCd]; exact (va_up_ne _ _ (by omega)).trans h7
  have h8 : C921 (g + 8) = gobj b (g + 8) 0 := by rw [← hCd]; exact (va_up_ne _ _ (by omega)).trans h8
  have h9 : C921 (g + 9) = garr ca (fun _ => 0) := by rw [← hCd]; exact (va_up_ne _ _ (by omega)).trans h9
  have h10 : C921 (g + 10) = .inl (ca 0, 6, .inl (fun _ => nI 0)) := by rw [← hCd]; exact (va_up_ne _ _ (by omega)).trans h10
  have h11 : C921 (g + 11) = .inl (ca 0, 2, .inl (fun _ => nI 0)) := by rw [← hCd]; exact (va_up_ne _ _ (by omega)).trans h11
  have h12 : C921 (g + 12) = .inl (ca 0, 6, .inl (fun _ => nI 0)) := by rw [← hCd]; exact (va_up_ne _ _ (by omega)).trans h12
  have h13 : C921 (g + 13) = .inl (ca 0, 6, .inl (fun _ => nI 0)) := by rw [← hCd]; exact (va_up_ne _ _ (by omega)).trans h13
  have h14 : C921 (g + 14) = .inl (ca 0, 6, .inl (fun _ => nI 0)) := by rw [← hCd]; exact va_up_self _ _ _
  clear hCd
  refine xw_putF (v := .ref (b + (g + 14))) (ty := t_PA 10) hx hb hts (fun w h => mw (uw_PA w h)) t_PA t_PA_ok n_PA hown hK hP (fun k _ => Nat.le_add_right _ _) hS h0 (by omega) rfl 10 (by decide) (hts _ (mw tb_111)) (fun _ h => h) rfl hin rfl (by decide +kernel) rfl rfl (Nat.le_of_ble_eq_true rfl) d_PA_init_100 (fun H locs hP hS => ?_)
  generalize hCd : va_up C921 g _ = C922 at hP
  have hfr : ∀ k, k < g → C922 k = C0 k := fun k hk => by rw [← hCd]; exact (va_up_ne _ _ (by omega)).trans (hfr k hk)
  have h0 : C922 g = .inr (3, [.ref (b + (g + 1)), .ref (b + (g + 2)), .ref (b + (g + 3)), .ref (b + (g + 4)), .ref (b + (g + 6)), .ref (b + (g + 8)), .ref (b + (g + 10)), .ref (b + (g + 11)), .ref (b + (g + 12)), .ref (b + (g + 13)), .ref (b + (g + 14)), .null, .null, .int (nI 0), .int (nI 0)]) := by rw [← hCd]; exact va_up_self _ _ _
  have h1 : C922 (g + 1) = .inl (ca 3, 72, .inr (.inr (.inr (.inr (fun _ => none))))) := by rw [← hCd]; exact (va_up_ne _ _ (by omega)).trans h1
  have h2 : C922 (g + 2) = .inl (ca 3, 6, .inr (.inr (.inr (.inr (fun _ => none))))) := by rw [← hCd]; exact (va_up_ne _ _ (by omega)).trans h2
  have h3 : C922 (g + 3) = .inl (ca 3, 12, .inr (.inr (.inr (.inr (fun _ => none))))) := by rw [← hCd]; exact (va_up_ne _ _ (by omega)).trans h3
  have h4 : C922 (g + 4) = gobj b (g + 4) 0 := by rw [← hCd]; exact (va_up_ne _ _ (by omega)).trans h4
  have h5 : C922 (g + 5) = garr ca (fun _ => 0) := by rw [← hCd]; exact (va_up_ne _ _ (by omega)).trans h5
  have h6 : C922 (g + 6) = gobj b (g + 6) 0 := by rw [← hCd]; exact (va_up_ne _ _ (by omega)).trans h6
  have h7 : C922 (g + 7) = garr ca (fun _ => 0) := by rw [← hCd]; exact (va_up_ne _ _ (by omega)).trans h7
  have h8 : C922 (g + 8) = gobj b (g + 8) 0 := by rw [← hCd]; exact (va_up_ne _ _ (by omega)).trans h8
  have h9 : C922 (g + 9) = garr ca (fun _ => 0) := by rw [← hCd]; exact (va_up_ne _ _ (by omega)).trans h9
  have h10 : C922 (g + 10) = .inl (ca 0, 6, .inl (fun _ => nI 0)) := by rw [← hCd]; exact (va_up_ne _ _ (by omega)).trans h10
  have h11 : C922 (g + 11) = .inl (ca 0, 2, .inl (fun _ => nI 0)) := by rw [← hCd]; exact (va_up_ne _ _ (by omega)).trans h11
  have h12 : C922 (g + 12) = .inl (ca 0, 6, .inl (fun _ => nI 0)) := by rw [← hCd]; exact (va_up_ne _ _ (by omega)).trans h12
  have h13 : C922 (g + 13) = .inl (ca 0, 6, .inl (fun _ => nI 0)) := by rw [← hCd]; exact (va_up_ne _ _ (by omega)).trans h13
  have h14 : C922 (g + 14) = .inl (ca 0, 6, .inl (fun _ => nI 0)) := by rw [← hCd]; exact (va_up_ne _ _ (by omega)).trans h14
  clear hCd
  refine lv_aload_n hx hb d_PA_init_103 rfl (lv_at hl 0 rfl) ?_
  refine lv_bipush (v := nI 6) hx hb d_PA_init_104 (by decide) ?_
  refine xw_sz (n := g + 15) (by omega) hP (by omega) (fun hsz => ?_)
  refine xw_newa (atype := .boolean) (ty := .boolean) (a0 := (6, .inl (fun _ => nI 0))) hx hb 2 (hts _ (mw tb_76)) rfl hK rfl (hK.2 2 _ rfl).2 hP hS hsz rfl (by decide) (by decide) (by decide) (by decide) (by decide) d_PA_init_106 (fun H hP hsz hS => ?_)
  generalize hCd : va_up C922 (g + 15) _ = C923 at hP
  have hfr : ∀ k, k < g → C923 k = C0 k := fun k hk => by rw [← hCd]; exact (va_up_ne _ _ (by omega)).trans (hfr k hk)
  have h0 : C923 g = .inr (3, [.ref (b + (g + 1)), .ref (b + (g + 2)), .ref (b + (g + 3)), .ref (b + (g + 4)), .ref (b + (g + 6)), .ref (b + (g + 8)), .ref (b + (g + 10)), .ref (b + (g + 11)), .ref (b + (g + 12)), .ref (b + (g + 13)), .ref (b + (g + 14)), .null, .null, .int (nI 0), .int (nI 0)]) := by rw [← hCd]; exact (va_up_ne _ _ (by omega)).trans h0
  have h1 : C923 (g + 1) = .inl (ca 3, 72, .inr (.inr (.inr (.inr (fun _ => none))))) := by rw [← hCd]; exact (va_up_ne _ _ (by omega)).trans h1
  have h2 : C923 (g + 2) = .inl (ca 3, 6, .inr (.inr (.inr (.inr (fun _ => none))))) := by rw [← hCd]; exact (va_up_ne _ _ (by omega)).trans h2
  have h3 : C923 (g + 3) = .inl (ca 3, 12, .inr (.inr (.inr (.inr (fun _ => none))))) := by rw [← hCd]; exact (va_up_ne _ _ (by omega)).trans h3
  have h4 : C923 (g + 4) = gobj b (g + 4) 0 := by rw [← hCd]; exact (va_up_ne _ _ (by omega)).trans h4
  have h5 : C923 (g + 5) = garr ca (fun _ => 0) := by rw [← hCd]; exact (va_up_ne _ _ (by omega)).trans h5
  have h6 : C923 (g + 6) = gobj b (g + 6) 0 := by rw [← hCd]; exact (va_up_ne _ _ (by omega)).trans h6
  have h7 : C923 (g + 7) = garr ca (fun _ => 0) := by rw [← hCd]; exact (va_up_ne _ _ (by omega)).trans h7
  have h8 : C923 (g + 8) = gobj b (g + 8) 0 := by rw [← hCd]; exact (va_up_ne _ _ (by omega)).trans h8
  have h9 : C923 (g + 9) = garr ca (fun _ => 0) := by rw [← hCd]; exact (va_up_ne _ _ (by omega)).trans h9
  have h10 : C923 (g + 10) = .inl (ca 0, 6, .inl (fun _ => nI 0)) := by rw [← hCd]; exact (va_up_ne _ _ (by omega)).trans h10
  have h11 : C923 (g + 11) = .inl (ca 0, 2, .inl (fun _ => nI 0)) := by rw [← hCd]; exact (va_up_ne _ _ (by omega)).trans h11
  have h12 : C923 (g + 12) = .inl (ca 0, 6, .inl (fun _ => nI 0)) := by rw [← hCd]; exact (va_up_ne _ _ (by omega)).trans h12
  have h13 : C923 (g + 13) = .inl (ca 0, 6, .inl (fun _ => nI 0)) := by rw [← hCd]; exact (va_up_ne _ _ (by omega)).trans h13
  have h14 : C923 (g + 14) = .inl (ca 0, 6, .inl (fun _ => nI 0)) := by rw [← hCd]; exact (va_up_ne _ _ (by omega)).trans h14
  have h15 : C923 (g + 15) = .inl (ca 2, 6, .inl (fun _ => nI 0)) := by rw [← hCd]; exact va_up_self _ _ _
  clear hCd
  refine xw_putF (v := .ref (b + (g + 15))) (ty := t_PA 11) hx hb hts (fun w h => mw (uw_PA w h)) t_PA t_PA_ok n_PA hown hK hP (fun k _ => Nat.le_add_right _ _) hS h0 (by omega) rfl 11 (by decide) (hts _ (mw tb_112)) (fun _ h => h) rfl hin rfl (by decide +kernel) rfl rfl (Nat.le_of_ble_eq_true rfl) d_PA_init_108 (fun H locs hP hS => ?_)
  generalize hCd : va_up C923 g _ = C924 at hP
  have hfr : ∀ k, k < g → C924 k = C0 k := fun k hk => by rw [← hCd]; exact (va_up_ne _ _ (by omega)).trans (hfr k hk)
  have h0 : C924 g = .inr (3, [.ref (b + (g + 1)), .ref (b + (g + 2)), .ref (b + (g + 3)), .ref (b + (g + 4)), .ref (b + (g + 6)), .ref (b + (g + 8)), .ref (b + (g + 10)), .ref (b + (g + 11)), .ref (b + (g + 12)), .ref (b + (g + 13)), .ref (b + (g + 14)), .ref (b + (g + 15)), .null, .int (nI 0), .int (nI 0)]) := by rw [← hCd]; exact va_up_self _ _ _
  have h1 : C924 (g + 1) = .inl (ca 3, 72, .inr (.inr (.inr (.inr (fun _ => none))))) := by rw [← hCd]; exact (va_up_ne _ _ (by omega)).trans h1
  have h2 : C924 (g + 2) = .inl (ca 3, 6, .inr (.inr (.inr (.inr (fun _ => none))))) := by rw [← hCd]; exact (va_up_ne _ _ (by omega)).trans h2
  have h3 : C924 (g + 3) = .inl (ca 3, 12, .inr (.inr (.inr (.inr (fun _ => none))))) := by rw [← hCd]; exact (va_up_ne _ _ (by omega)).trans h3
  have h4 : C924 (g + 4) = gobj b (g + 4) 0 := by rw [← hCd]; exact (va_up_ne _ _ (by omega)).trans h4
  have h5 : C924 (g + 5) = garr ca (fun _ => 0) := by rw [← hCd]; exact (va_up_ne _ _ (by omega)).trans h5
  have h6 : C924 (g + 6) = gobj b (g + 6) 0 := by rw [← hCd]; exact (va_up_ne _ _ (by omega)).trans h6
  have h7 : C924 (g + 7) = garr ca (fun _ => 0) := by rw [← hCd]; exact (va_up_ne _ _ (by omega)).trans h7
  have h8 : C924 (g + 8) = gobj b (g + 8) 0 := by rw [← hCd]; exact (va_up_ne _ _ (by omega)).trans h8
  have h9 : C924 (g + 9) = garr ca (fun _ => 0) := by rw [← hCd]; exact (va_up_ne _ _ (by omega)).trans h9
  have h10 : C924 (g + 10) = .inl (ca 0, 6, .inl (fun _ => nI 0)) := by rw [← hCd]; exact (va_up_ne _ _ (by omega)).trans h10
  have h11 : C924 (g + 11) = .inl (ca 0, 2, .inl (fun _ => nI 0)) := by rw [← hCd]; exact (va_up_ne _ _ (by omega)).trans h11
  have h12 : C924 (g + 12) = .inl (ca 0, 6, .inl (fun _ => nI 0)) := by rw [← hCd]; exact (va_up_ne _ _ (by omega)).trans h12
  have h13 : C924 (g + 13) = .inl (ca 0, 6, .inl (fun _ => nI 0)) := by rw [← hCd]; exact (va_up_ne _ _ (by omega)).trans h13
  have h14 : C924 (g + 14) = .inl (ca 0, 6, .inl (fun _ => nI 0)) := by rw [← hCd]; exact (va_up_ne _ _ (by omega)).trans h14
  have h15 : C924 (g + 15) = .inl (ca 2, 6, .inl (fun _ => nI 0)) := by rw [← hCd]; exact (va_up_ne _ _ (by omega)).trans h15
  clear hCd
  refine lv_aload_n hx hb d_PA_init_111 rfl (lv_at hl 0 rfl) ?_
  refine lv_bipush (v := nI 6) hx hb d_PA_init_112 (by decide) ?_
  refine xw_sz (n := g + 16) (by omega) hP (by omega) (fun hsz => ?_)
  refine xw_newa (atype := .boolean) (ty := .boolean) (a0 := (6, .inl (fun _ => nI 0))) hx hb 2 (hts _ (mw tb_76)) rfl hK rfl (hK.2 2 _ rfl).2 hP hS hsz rfl (by decide) (by decide) (by decide) (by decide) (by decide) d_PA_init_114 (fun H hP hsz hS => ?_)
  generalize hCd : va_up C924 (g + 16) _ = C925 at hP
  have hfr : ∀ k, k < g → C925 k = C0 k := fun k hk => by rw [← hCd]; exact (va_up_ne _ _ (by omega)).trans (hfr k hk)
  have h0 : C925 g = .inr (3, [.ref (b + (g + 1)), .ref (b + (g + 2)), .ref (b + (g + 3)), .ref (b + (g + 4)), .ref (b + (g + 6)), .ref (b + (g + 8)), .ref (b + (g + 10)), .ref (b + (g + 11)), .ref (b + (g + 12)), .ref (b + (g + 13)), .ref (b + (g + 14)), .ref (b + (g + 15)), .null, .int (nI 0), .int (nI 0)]) := by rw [← hCd]; exact (va_up_ne _ _ (by omega)).trans h0
  have h1 : C925 (g + 1) = .inl (ca 3, 72, .inr (.inr (.inr (.inr (fun _ => none))))) := by rw [← hCd]; exact (va_up_ne _ _ (by omega)).trans h1
  have h2 : C925 (g + 2) = .inl (ca 3, 6, .inr (.inr (.inr (.inr (fun _ => none))))) := by rw [← hCd]; exact (va_up_ne _ _ (by omega)).trans h2
  have h3 : C925 (g + 3) = .inl (ca 3, 12, .inr (.inr (.inr (.inr (fun _ => none))))) := by rw [← hCd]; exact (va_up_ne _ _ (by omega)).trans h3
  have h4 : C925 (g + 4) = gobj b (g + 4) 0 := by rw [← hCd]; exact (va_up_ne _ _ (by omega)).trans h4
  have h5 : C925 (g + 5) = garr ca (fun _ => 0) := by rw [← hCd]; exact (va_up_ne _ _ (by omega)).trans h5
  have h6 : C925 (g + 6) = gobj b (g + 6) 0 := by rw [← hCd]; exact (va_up_ne _ _ (by omega)).trans h6
  have h7 : C925 (g + 7) = garr ca (fun _ => 0) := by rw [← hCd]; exact (va_up_ne _ _ (by omega)).trans h7
  have h8 : C925 (g + 8) = gobj b (g + 8) 0 := by rw [← hCd]; exact (va_up_ne _ _ (by omega)).trans h8
  have h9 : C925 (g + 9) = garr ca (fun _ => 0) := by rw [← hCd]; exact (va_up_ne _ _ (by omega)).trans h9
  have h10 : C925 (g + 10) = .inl (ca 0, 6, .inl (fun _ => nI 0)) := by rw [← hCd]; exact (va_up_ne _ _ (by omega)).trans h10
  have h11 : C925 (g + 11) = .inl (ca 0, 2, .inl (fun _ => nI 0)) := by rw [← hCd]; exact (va_up_ne _ _ (by omega)).trans h11
  have h12 : C925 (g + 12) = .inl (ca 0, 6, .inl (fun _ => nI 0)) := by rw [← hCd]; exact (va_up_ne _ _ (by omega)).trans h12
  have h13 : C925 (g + 13) = .inl (ca 0, 6, .inl (fun _ => nI 0)) := by rw [← hCd]; exact (va_up_ne _ _ (by omega)).trans h13
  have h14 : C925 (g + 14) = .inl (ca 0, 6, .inl (fun _ => nI 0)) := by rw [← hCd]; exact (va_up_ne _ _ (by omega)).trans h14
  have h15 : C925 (g + 15) = .inl (ca 2, 6, .inl (fun _ => nI 0)) := by rw [← hCd]; exact (va_up_ne _ _ (by omega)).trans h15
  have h16 : C925 (g + 16) = .inl (ca 2, 6, .inl (fun _ => nI 0)) := by rw [← hCd]; exact va_up_self _ _ _
  clear hCd
  refine xw_putF (v := .ref (b + (g + 16))) (ty := t_PA 12) hx hb hts (fun w h => mw (uw_PA w h)) t_PA t_PA_ok n_PA hown hK hP (fun k _ => Nat.le_add_right _ _) hS h0 (by omega) rfl 12 (by decide) (hts _ (mw tb_113)) (fun _ h => h) rfl hin rfl (by decide +kernel) rfl rfl (Nat.le_of_ble_eq_true rfl) d_PA_init_116 (fun H locs hP hS => ?_)
  generalize hCd : va_up C925 g _ = C926 at hP
  have hfr : ∀ k, k < g → C926 k = C0 k := fun k hk => by rw [← hCd]; exact (va_up_ne _ _ (by omega)).trans (hfr k hk)
  have h0 : C926 g = .inr (3, [.ref (b + (g + 1)), .ref (b + (g + 2)), .ref (b + (g + 3)), .ref (b + (g + 4)), .ref (b + (g + 6)), .ref (b + (g + 8)), .ref (b + (g + 10)), .ref (b + (g + 11)), .ref (b + (g + 12)), .ref (b + (g + 13)), .ref (b + (g + 14)), .ref (b + (g + 15)), .ref (b + (g + 16)), .int (nI 0), .int (nI 0)]) := by rw [← hCd]; exact va_up_self _ _ _
  have h1 : C926 (g + 1) = .inl (ca 3, 72, .inr (.inr (.inr (.inr (fun _ => none))))) := by rw [← hCd]; exact (va_up_ne _ _ (by omega)).trans h1
  have h2 : C926 (g + 2) = .inl (ca 3, 6, .inr (.inr (.inr (.inr (fun _ => none))))) := by rw [← hCd]; exact (va_up_ne _ _ (by omega)).trans h2
  have h3 : C926 (g + 3) = .inl (ca 3, 12, .inr (.inr (.inr (.inr (fun _ => none))))) := by rw [← hCd]; exact (va_up_ne _ _ (by omega)).trans h3
  have h4 : C926 (g + 4) = gobj b (g + 4) 0 := by rw [← hCd]; exact (va_up_ne _ _ (by omega)).trans h4
  have h5 : C926 (g + 5) = garr ca (fun _ => 0) := by rw [← hCd]; exact (va_up_ne _ _ (by omega)).trans h5
  have h6 : C926 (g + 6) = gobj b (g + 6) 0 := by rw [← hCd]; exact (va_up_ne _ _ (by omega)).trans h6
  have h7 : C926 (g + 7) = garr ca (fun _ => 0) := by rw [← hCd]; exact (va_up_ne _ _ (by omega)).trans h7
  have h8 : C926 (g + 8) = gobj b (g + 8) 0 := by rw [← hCd]; exact (va_up_ne _ _ (by omega)).trans h8
  have h9 : C926 (g + 9) = garr ca (fun _ => 0) := by rw [← hCd]; exact (va_up_ne _ _ (by omega)).trans h9
  have h10 : C926 (g + 10) = .inl (ca 0, 6, .inl (fun _ => nI 0)) := by rw [← hCd]; exact (va_up_ne _ _ (by omega)).trans h10
  have h11 : C926 (g + 11) = .inl (ca 0, 2, .inl (fun _ => nI 0)) := by rw [← hCd]; exact (va_up_ne _ _ (by omega)).trans h11
  have h12 : C926 (g + 12) = .inl (ca 0, 6, .inl (fun _ => nI 0)) := by rw [← hCd]; exact (va_up_ne _ _ (by omega)).trans h12
  have h13 : C926 (g + 13) = .inl (ca 0, 6, .inl (fun _ => nI 0)) := by rw [← hCd]; exact (va_up_ne _ _ (by omega)).trans h13
  have h14 : C926 (g + 14) = .inl (ca 0, 6, .inl (fun _ => nI 0)) := by rw [← hCd]; exact (va_up_ne _ _ (by omega)).trans h14
  have h15 : C926 (g + 15) = .inl (ca 2, 6, .inl (fun _ => nI 0)) := by rw [← hCd]; exact (va_up_ne _ _ (by omega)).trans h15
  have h16 : C926 (g + 16) = .inl (ca 2, 6, .inl (fun _ => nI 0)) := by rw [← hCd]; exact (va_up_ne _ _ (by omega)).trans h16
  clear hCd
  refine lv_aload_n hx hb d_PA_init_119 rfl (lv_at hl 0 rfl) ?_
  refine lv_iconst (v := nI 0) hx hb d_PA_init_120 (by decide) ?_
  refine xw_put (v := .int (nI 0)) (ty := t_PA 13) hx hb hts (fun w h => mw (uw_PA w h)) t_PA t_PA_ok n_PA hown hK hP (fun k _ => Nat.le_add_right _ _) hS h0 (by omega) rfl 13 (by decide) (hts _ (mw tb_114)) (fun _ h => h) rfl (by decide +kernel) rfl rfl (Nat.le_of_ble_eq_true rfl) d_PA_init_121 (fun H locs hP hS => ?_)
  generalize hCd : va_up C926 g _ = C927 at hP
  have hfr : ∀ k, k < g → C927 k = C0 k := fun k hk => by rw [← hCd]; exact (va_up_ne _ _ (by omega)).trans (hfr k hk)
  have h0 : C927 g = .inr (3, [.ref (b + (g + 1)), .ref (b + (g + 2)), .ref (b + (g + 3)), .ref (b + (g + 4)), .ref (b + (g + 6)), .ref (b + (g + 8)), .ref (b + (g + 10)), .ref (b + (g + 11)), .ref (b + (g + 12)), .ref (b + (g + 13)), .ref (b + (g + 14)), .ref (b + (g + 15)), .ref (b + (g + 16)), .int (nI 0), .int (nI 0)]) := by rw [← hCd]; exact va_up_self _ _ _
  have h1 : C927 (g + 1) = .inl (ca 3, 72, .inr (.inr (.inr (.inr (fun _ => none))))) := by rw [← hCd]; exact (va_up_ne _ _ (by omega)).trans h1
  have h2 : C927 (g + 2) = .inl (ca 3, 6, .inr (.inr (.inr (.inr (fun _ => none))))) := by rw [← hCd]; exact (va_up_ne _ _ (by omega)).trans h2
  have h3 : C927 (g + 3) = .inl (ca 3, 12, .inr (.inr (.inr (.inr (fun _ => none))))) := by rw [← hCd]; exact (va_up_ne _ _ (by omega)).trans h3
  have h4 : C927 (g + 4) = gobj b (g + 4) 0 := by rw [← hCd]; exact (va_up_ne _ _ (by omega)).trans h4
  have h5 : C927 (g + 5) = garr ca (fun _ => 0) := by rw [← hCd]; exact (va_up_ne _ _ (by omega)).trans h5
  have h6 : C927 (g + 6) = gobj b (g + 6) 0 := by rw [← hCd]; exact (va_up_ne _ _ (by omega)).trans h6
  have h7 : C927 (g + 7) = garr ca (fun _ => 0) := by rw [← hCd]; exact (va_up_ne _ _ (by omega)).trans h7
  have h8 : C927 (g + 8) = gobj b (g + 8) 0 := by rw [← hCd]; exact (va_up_ne _ _ (by omega)).trans h8
  have h9 : C927 (g + 9) = garr ca (fun _ => 0) := by rw [← hCd]; exact (va_up_ne _ _ (by omega)).trans h9
  have h10 : C927 (g + 10) = .inl (ca 0, 6, .inl (fun _ => nI 0)) := by rw [← hCd]; exact (va_up_ne _ _ (by omega)).trans h10
  have h11 : C927 (g + 11) = .inl (ca 0, 2, .inl (fun _ => nI 0)) := by rw [← hCd]; exact (va_up_ne _ _ (by omega)).trans h11
  have h12 : C927 (g + 12) = .inl (ca 0, 6, .inl (fun _ => nI 0)) := by rw [← hCd]; exact (va_up_ne _ _ (by omega)).trans h12
  have h13 : C927 (g + 13) = .inl (ca 0, 6, .inl (fun _ => nI 0)) := by rw [← hCd]; exact (va_up_ne _ _ (by omega)).trans h13
  have h14 : C927 (g + 14) = .inl (ca 0, 6, .inl (fun _ => nI 0)) := by rw [← hCd]; exact (va_up_ne _ _ (by omega)).trans h14
  have h15 : C927 (g + 15) = .inl (ca 2, 6, .inl (fun _ => nI 0)) := by rw [← hCd]; exact (va_up_ne _ _ (by omega)).trans h15
  have h16 : C927 (g + 16) = .inl (ca 2, 6, .inl (fun _ => nI 0)) := by rw [← hCd]; exact (va_up_ne _ _ (by omega)).trans h16
  clear hCd
  refine lv_aload_n hx hb d_PA_init_124 rfl (lv_at hl 0 rfl) ?_
  refine lv_iconst (v := nI 0) hx hb d_PA_init_125 (by decide) ?_
  refine xw_put (v := .int (nI 0)) (ty := t_PA 14) hx hb hts (fun w h => mw (uw_PA w h)) t_PA t_PA_ok n_PA hown hK hP (fun k _ => Nat.le_add_right _ _) hS h0 (by omega) rfl 14 (by decide) (hts _ (mw tb_115)) (fun _ h => h) rfl (by decide +kernel) rfl rfl (Nat.le_of_ble_eq_true rfl) d_PA_init_126 (fun H locs hP hS => ?_)
  generalize hCd : va_up C927 g _ = C928 at hP
  have hfr : ∀ k, k < g → C928 k = C0 k := fun k hk => by rw [← hCd]; exact (va_up_ne _ _ (by omega)).trans (hfr k hk)
  have h0 : C928 g = .inr (3, [.ref (b + (g + 1)), .ref (b + (g + 2)), .ref (b + (g + 3)), .ref (b + (g + 4)), .ref (b + (g + 6)), .ref (b + (g + 8)), .ref (b + (g + 10)), .ref (b + (g + 11)), .ref (b + (g + 12)), .ref (b + (g + 13)), .ref (b + (g + 14)), .ref (b + (g + 15)), .ref (b + (g + 16)), .int (nI 0), .int (nI 0)]) := by rw [← hCd]; exact va_up_self _ _ _
  have h1 : C928 (g + 1) = .inl (ca 3, 72, .inr (.inr (.inr (.inr (fun _ => none))))) := by rw [← hCd]; exact (va_up_ne _ _ (by omega)).trans h1
  have h2 : C928 (g + 2) = .inl (ca 3, 6, .inr (.inr (.inr (.inr (fun _ => none))))) := by rw [← hCd]; exact (va_up_ne _ _ (by omega)).trans h2
  have h3 : C928 (g + 3) = .inl (ca 3, 12, .inr (.inr (.inr (.inr (fun _ => none))))) := by rw [← hCd]; exact (va_up_ne _ _ (by omega)).trans h3
  have h4 : C928 (g + 4) = gobj b (g + 4) 0 := by rw [← hCd]; exact (va_up_ne _ _ (by omega)).trans h4
  have h5 : C928 (g + 5) = garr ca (fun _ => 0) := by rw [← hCd]; exact (va_up_ne _ _ (by omega)).trans h5
  have h6 : C928 (g + 6) = gobj b (g + 6) 0 := by rw [← hCd]; exact (va_up_ne _ _ (by omega)).trans h6
  have h7 : C928 (g + 7) = garr ca (fun _ => 0) := by rw [← hCd]; exact (va_up_ne _ _ (by omega)).trans h7
  have h8 : C928 (g + 8) = gobj b (g + 8) 0 := by rw [← hCd]; exact (va_up_ne _ _ (by omega)).trans h8
  have h9 : C928 (g + 9) = garr ca (fun _ => 0) := by rw [← hCd]; exact (va_up_ne _ _ (by omega)).trans h9
  have h10 : C928 (g + 10) = .inl (ca 0, 6, .inl (fun _ => nI 0)) := by rw [← hCd]; exact (va_up_ne _ _ (by omega)).trans h10
  have h11 : C928 (g + 11) = .inl (ca 0, 2, .inl (fun _ => nI 0)) := by rw [← hCd]; exact (va_up_ne _ _ (by omega)).trans h11
  have h12 : C928 (g + 12) = .inl (ca 0, 6, .inl (fun _ => nI 0)) := by rw [← hCd]; exact (va_up_ne _ _ (by omega)).trans h12
  have h13 : C928 (g + 13) = .inl (ca 0, 6, .inl (fun _ => nI 0)) := by rw [← hCd]; exact (va_up_ne _ _ (by omega)).trans h13
  have h14 : C928 (g + 14) = .inl (ca 0, 6, .inl (fun _ => nI 0)) := by rw [← hCd]; exact (va_up_ne _ _ (by omega)).trans h14
  have h15 : C928 (g + 15) = .inl (ca 2, 6, .inl (fun _ => nI 0)) := by rw [← hCd]; exact (va_up_ne _ _ (by omega)).trans h15
  have h16 : C928 (g + 16) = .inl (ca 2, 6, .inl (fun _ => nI 0)) := by rw [← hCd]; exact (va_up_ne _ _ (by omega)).trans h16
  clear hCd
  have hPS : PSt ca b C0 C928 g 0 0 0 := ⟨hfr, h0, by rw [h1]; simp, by rw [h2]; simp, by rw [h3]; simp, ⟨h4, h5⟩, ⟨h6, h7⟩, ⟨h8, h9⟩, h10, h11, h12, h13, h14, h15, h16, fun j hj => absurd hj (Nat.not_lt_zero _), fun j hj => absurd hj (Nat.not_lt_zero _), fun j hj => absurd hj (Nat.not_lt_zero _)⟩
  clear hfr h0 h1 h2 h3 h4 h5 h6 h7 h8 h9 h10 h11 h12 h13 h14 h15 h16
  refine lv_iconst (v := nI 0) hx hb d_PA_init_129 (by decide) ?_
  refine lv_istore_n (lv' := [(1, .int (nI 0)), (0, .ref (b + g))]) hx hb d_PA_init_130 rfl hl (by decide) rfl (fun ls hl => ?_)
  have loop131 : ∀ (r : Nat) (i : Nat) (C : Nat → va_E) (H : Heap) (locs : List Loc) (ls : Array Slot), 72 < i + r → i ≤ 72 → PSt ca b C0 C g i 0 0 → va_P D classes (wl b (g + 17 + 2 * i) C) H → va_S (fun q => b ≤ q) s.heap H locs → lv_has ls 2 [(0, .ref (b + g)), (1, .int (nI i))] → W p l e (headSpec (k_PA_init :: gw) ({ frames := 2, cells := 196, slots := 872, locals := 35 })).room s m args below meth c H locs (16 + 2 * i) (152 + 8 * i) (MQ below (nQ D b (g + 197) (fun C1 => (∀ k, k < g → C1 k = C0 k) ∧ C1 g = .inr (3, [.ref (b + (g + 1)), .ref (b + (g + 2)), .ref (b + (g + 3)), .ref (b + (g + 4)), .ref (b + (g + 6)), .ref (b + (g + 8)), .ref (b + (g + 10)), .ref (b + (g + 11)), .ref (b + (g + 12)), .ref (b + (g + 13)), .ref (b + (g + 14)), .ref (b + (g + 15)), .ref (b + (g + 16)), .int (nI 0), .int (nI 0)]) ∧ C1 (g + 1) = .inl (ca 3, 72, .inr (.inr (.inr (.inr (fun j => some (b + (g + 17 + 2 * j))))))) ∧ C1 (g + 2) = .inl (ca 3, 6, .inr (.inr (.inr (.inr (fun j => some (b + (g + 161 + 2 * j))))))) ∧ C1 (g + 3) = .inl (ca 3, 12, .inr (.inr (.inr (.inr (fun j => some (b + (g + 173 + 2 * j))))))) ∧ zG ca b C1 (g + 4) ∧ zG ca b C1 (g + 6) ∧ zG ca b C1 (g + 8) ∧ C1 (g + 10) = .inl (ca 0, 6, .inl (fun _ => eo none)) ∧ C1 (g + 11) = .inl (ca 0, 2, .inl (fun _ => eo none)) ∧ C1 (g + 12) = .inl (ca 0, 6, .inl (fun _ => nI 0)) ∧ C1 (g + 13) = .inl (ca 0, 6, .inl (fun _ => nI 0)) ∧ C1 (g + 14) = .inl (ca 0, 6, .inl (fun _ => nI 0)) ∧ C1 (g + 15) = .inl (ca 2, 6, .inl (fun _ => nI 0)) ∧ C1 (g + 16) = .inl (ca 2, 6, .inl (fun _ => nI 0)) ∧ (∀ j, j < 72 → zG ca b C1 (g + 17 + 2 * j)) ∧ (∀ j, j < 6 → zG ca b C1 (g + 161 + 2 * j)) ∧ ∀ j, j < 12 → zG ca b C1 (g + 173 + 2 * j))) args s 196 872 (fun q => b ≤ q)) (F0 m 131 ls []) := by
    intro r
    induction r with
    | zero => intro i C H locs ls hms hi; exact absurd hms (by omega)
    | succ r ih131 =>
      intro i C H locs ls hms hi hPS hP hS hl
      refine lv_iload_n hx hb d_PA_init_131 rfl (lv_at hl 1 rfl) ?_
      refine lv_bipush (v := nI 72) hx hb d_PA_init_132 (by decide) ?_
      refine xi_ge (tgt := 156) hx hb d_PA_init_134 (by decide) (by omega) (by omega) (fun h7 => ?_) (fun h7 => ?_)
      · have ei : i = 72 := by omega
        subst ei
        refine lv_iconst (v := nI 0) hx hb d_PA_init_156 (by decide) ?_
        refine lv_istore_n (lv' := [(1, .int (nI 0)), (0, .ref (b + g))]) hx hb d_PA_init_157 rfl hl (by decide) rfl (fun ls hl => ?_)
        have loop158 : ∀ (r : Nat) (i : Nat) (C : Nat → va_E) (H : Heap) (locs : List Loc) (ls : Array Slot), 6 < i + r → i ≤ 6 → PSt ca b C0 C g 72 i 0 → va_P D classes (wl b (g + 161 + 2 * i) C) H → va_S (fun q => b ≤ q) s.heap H locs → lv_has ls 2 [(0, .ref (b + g)), (1, .int (nI i))] → W p l e (headSpec (k_PA_init :: gw) ({ frames := 2, cells := 196, slots := 872, locals := 35 })).room s m args below meth c H locs (160 + 2 * i) (728 + 8 * i) (MQ below (nQ D b (g + 197) (fun C1 => (∀ k, k < g → C1 k = C0 k) ∧ C1 g = .inr (3, [.ref (b + (g + 1)), .ref (b + (g + 2)), .ref (b + (g + 3)), .ref (b + (g + 4)), .ref (b + (g + 6)), .ref (b + (g + 8)), .ref (b + (g + 10)), .ref (b + (g + 11)), .ref (b + (g + 12)), .ref (b + (g + 13)), .ref (b + (g + 14)), .ref (b + (g + 15)), .ref (b + (g + 16)), .int (nI 0), .int (nI 0)]) ∧ C1 (g + 1) = .inl (ca 3, 72, .inr (.inr (.inr (.inr (fun j => some (b + (g + 17 + 2 * j))))))) ∧ C1 (g + 2) = .inl (ca 3, 6, .inr (.inr (.inr (.inr (fun j => some (b + (g + 161 + 2 * j))))))) ∧ C1 (g + 3) = .inl (ca 3, 12, .inr (.inr (.inr (.inr (fun j => some (b + (g + 173 + 2 * j))))))) ∧ zG ca b C1 (g + 4) ∧ zG ca b C1 (g + 6) ∧ zG ca b C1 (g + 8) ∧ C1 (g + 10) = .inl (ca 0, 6, .inl (fun _ => eo none)) ∧ C1 (g + 11) = .inl (ca 0, 2, .inl (fun _ => eo none)) ∧ C1 (g + 12) = .inl (ca 0, 6, .inl (fun _ => nI 0)) ∧ C1 (g + 13) = .inl (ca 0, 6, .inl (fun _ => nI 0)) ∧ C1 (g + 14) = .inl (ca 0, 6, .inl (fun _ => nI 0)) ∧ C1 (g + 15) = .inl (ca 2, 6, .inl (fun _ => nI 0)) ∧ C1 (g + 16) = .inl (ca 2, 6, .inl (fun _ => nI 0)) ∧ (∀ j, j < 72 → zG ca b C1 (g + 17 + 2 * j)) ∧ (∀ j, j < 6 → zG ca b C1 (g + 161 + 2 * j)) ∧ ∀ j, j < 12 → zG ca b C1 (g + 173 + 2 * j))) args s 196 872 (fun q => b ≤ q)) (F0 m 158 ls []) := by
          intro r
          induction r with
          | zero => intro i C H locs ls hms hi; exact absurd hms (by omega)
          | succ r ih158 =>
            intro i C H locs ls hms hi hPS hP hS hl
            refine lv_iload_n hx hb d_PA_init_158 rfl (lv_at hl 1 rfl) ?_
            refine lv_bipush (v := nI 6) hx hb d_PA_init_159 (by decide) ?_
            refine xi_ge (tgt := 183) hx hb d_PA_init_161 (by decide) (by omega) (by omega) (fun h7 => ?_) (fun h7 => ?_)
            · have ei : i = 6 := by omega
              subst ei
              refine lv_iconst (v := nI 0) hx hb d_PA_init_183 (by decide) ?_
              refine lv_istore_n (lv' := [(1, .int (nI 0)), (0, .ref (b + g))]) hx hb d_PA_init_184 rfl hl (by decide) rfl (fun ls hl => ?_)
              have loop185 : ∀ (r : Nat) (i : Nat) (C : Nat → va_E) (H : Heap) (locs : List Loc) (ls : Array Slot), 12 < i + r → i ≤ 12 → PSt ca b C0 C g 72 6 i → va_P D classes (wl b (g + 173 + 2 * i) C) H → va_S (fun q => b ≤ q) s.heap H locs → lv_has ls 2 [(0, .ref (b + g)), (1, .int (nI i))] → W p l e (headSpec (k_PA_init :: gw) ({ frames := 2, cells := 196, slots := 872, locals := 35 })).room s m args below meth c H locs (172 + 2 * i) (776 + 8 * i) (MQ below (nQ D b (g + 197) (fun C1 => (∀ k, k < g → C1 k = C0 k) ∧ C1 g = .inr (3, [.ref (b + (g + 1)), .ref (b + (g + 2)), .ref (b + (g + 3)), .ref (b + (g + 4)), .ref (b + (g + 6)), .ref (b + (g + 8)), .ref (b + (g + 10)), .ref (b + (g + 11)), .ref (b + (g + 12)), .ref (b + (g + 13)), .ref (b + (g + 14)), .ref (b + (g + 15)), .ref (b + (g + 16)), .int (nI 0), .int (nI 0)]) ∧ C1 (g + 1) = .inl (ca 3, 72, .inr (.inr (.inr (.inr (fun j => some (b + (g + 17 + 2 * j))))))) ∧ C1 (g + 2) = .inl (ca 3, 6, .inr (.inr (.inr (.inr (fun j => some (b + (g + 161 + 2 * j))))))) ∧ C1 (g + 3) = .inl (ca 3, 12, .inr (.inr (.inr (.inr (fun j => some (b + (g + 173 + 2 * j))))))) ∧ zG ca b C1 (g + 4) ∧ zG ca b C1 (g + 6) ∧ zG ca b C1 (g + 8) ∧ C1 (g + 10) = .inl (ca 0, 6, .inl (fun _ => eo none)) ∧ C1 (g + 11) = .inl (ca 0, 2, .inl (fun _ => eo none)) ∧ C1 (g + 12) = .inl (ca 0, 6, .inl (fun _ => nI 0)) ∧ C1 (g + 13) = .inl (ca 0, 6, .inl (fun _ => nI 0)) ∧ C1 (g + 14) = .inl (ca 0, 6, .inl (fun _ => nI 0)) ∧ C1 (g + 15) = .inl (ca 2, 6, .inl (fun _ => nI 0)) ∧ C1 (g + 16) = .inl (ca 2, 6, .inl (fun _ => nI 0)) ∧ (∀ j, j < 72 → zG ca b C1 (g + 17 + 2 * j)) ∧ (∀ j, j < 6 → zG ca b C1 (g + 161 + 2 * j)) ∧ ∀ j, j < 12 → zG ca b C1 (g + 173 + 2 * j))) args s 196 872 (fun q => b ≤ q)) (F0 m 185 ls []) := by
                intro r
                induction r with
                | zero => intro i C H locs ls hms hi; exact absurd hms (by omega)
                | succ r ih185 =>
                  intro i C H locs ls hms hi hPS hP hS hl
                  refine lv_iload_n hx hb d_PA_init_185 rfl (lv_at hl 1 rfl) ?_
                  refine lv_bipush (v := nI 12) hx hb d_PA_init_186 (by decide) ?_
                  refine xi_ge (tgt := 210) hx hb d_PA_init_188 (by decide) (by omega) (by omega) (fun h7 => ?_) (fun h7 => ?_)
                  · have ei : i = 12 := by omega
                    subst ei
                    obtain ⟨a0, a1, a2, a3, a4, a5, a6, a7, b10, b11, b12, b13, b14, b15, b16, z1, z2, z3⟩ := hPS
                    refine lv_aload_n hx hb d_PA_init_210 rfl (lv_at hl 0 rfl) ?_
                    refine xw_get (v := .ref (b + (g + 10))) hx hb hts (fun w h => mw (uw_PA w h)) hown hK hP a1 (by omega) rfl 6 (by decide) (hts _ (mw tb_107)) (fun _ h => h) rfl d_PA_init_211 ?_
                    refine lv_iconst (v := (-1)) hx hb d_PA_init_214 (by decide) ?_
                    refine xc_T (n := 2) (As := [.ref (b + (g + 10)), .int (-1)]) (rest := []) (st0 := _) hx hb hml hown hts (c_AR_fillG l D ca b _ _ (g + 10) 6 (-1) _ b10 (by omega) (by decide)) km_AR_fill tb_98 tb_99 tb_6 (by decide +kernel) rfl rfl ⟨Nat.le_of_ble_eq_true rfl, Nat.le_of_ble_eq_true rfl⟩ hK hP rfl hl rfl (Nat.le_of_ble_eq_true rfl) d_PA_init_215 ⟨by decide, by decide⟩ hS (fun _ h => h.1) (fun v Cf10 H locs hp hP _ _ hS => ?_)
                    obtain ⟨rfl, hCf, b10n⟩ := hp
                    have a0 : ∀ k, k < g → Cf10 k = C0 k := fun k hk => (hCf k (by omega)).trans (a0 k hk)
                    have a1 := (hCf g (by omega)).trans a1
                    have a2 := (hCf (g + 1) (by omega)).trans a2
                    have a3 := (hCf (g + 2) (by omega)).trans a3
                    have a4 := (hCf (g + 3) (by omega)).trans a4
                    have a5 : zG ca b Cf10 (g + 4) := a5.fr (hCf _ (by omega)) (hCf _ (by omega))
                    have a6 : zG ca b Cf10 (g + 6) := a6.fr (hCf _ (by omega)) (hCf _ (by omega))
                    have a7 : zG ca b Cf10 (g + 8) := a7.fr (hCf _ (by omega)) (hCf _ (by omega))
                    have b11 := (hCf (g + 11) (by omega)).trans b11
                    have b12 := (hCf (g + 12) (by omega)).trans b12
                    have b13 := (hCf (g + 13) (by omega)).trans b13
                    have b14 := (hCf (g + 14) (by omega)).trans b14
                    have b15 := (hCf (g + 15) (by omega)).trans b15
                    have b16 := (hCf (g + 16) (by omega)).trans b16
                    have b10 := b10n
                    have z1 : ∀ j, j < 72 → zG ca b Cf10 (g + 17 + 2 * j) := fun j hj => (z1 j hj).fr (hCf _ (by omega)) (hCf _ (by omega))
                    have z2 : ∀ j, j < 6 → zG ca b Cf10 (g + 161 + 2 * j) := fun j hj => (z2 j hj).fr (hCf _ (by omega)) (hCf _ (by omega))
                    have z3 : ∀ j, j < 12 → zG ca b Cf10 (g + 173 + 2 * j) := fun j hj => (z3 j hj).fr (hCf _ (by omega)) (hCf _ (by omega))
                    refine lv_aload_n hx hb d_PA_init_218 rfl (lv_at hl 0 rfl) ?_
                    refine xw_get (v := .ref (b + (g + 11))) hx hb hts (fun w h => mw (uw_PA w h)) hown hK hP a1 (by omega) rfl 7 (by decide) (hts _ (mw tb_108)) (fun _ h => h) rfl d_PA_init_219 ?_
                    refine lv_iconst (v := (-1)) hx hb d_PA_init_222 (by decide) ?_
                    refine xc_T (n := 2) (As := [.ref (b + (g + 11)), .int (-1)]) (rest := []) (st0 := _) hx hb hml hown hts (c_AR_fillG l D ca b _ _ (g + 11) 2 (-1) _ b11 (by omega) (by decide)) km_AR_fill tb_98 tb_99 tb_6 (by decide +kernel) rfl rfl ⟨Nat.le_of_ble_eq_true rfl, Nat.le_of_ble_eq_true rfl⟩ hK hP rfl hl rfl (Nat.le_of_ble_eq_true rfl) d_PA_init_223 ⟨by decide, by decide⟩ hS (fun _ h => h.1) (fun v Cf11 H locs hp hP _ _ hS => ?_)
                    obtain ⟨rfl, hCf, b11n⟩ := hp
                    have a0 : ∀ k, k < g → Cf11 k = C0 k := fun k hk => (hCf k (by omega)).trans (a0 k hk)
                    have a1 := (hCf g (by omega)).trans a1
                    have a2 := (hCf (g + 1) (by omega)).trans a2
                    have a3 := (hCf (g + 2) (by omega)).trans a3
                    have a4 := (hCf (g + 3) (by omega)).trans a4
                    have a5 : zG ca b Cf11 (g + 4) := a5.fr (hCf _ (by omega)) (hCf _ (by omega))
                    have a6 : zG ca b Cf11 (g + 6) := a6.fr (hCf _ (by omega)) (hCf _ (by omega))
                    have a7 : zG ca b Cf11 (g + 8) := a7.fr (hCf _ (by omega)) (hCf _ (by omega))
                    have b10 := (hCf (g + 10) (by omega)).trans b10
                    have b12 := (hCf (g + 12) (by omega)).trans b12
                    have b13 := (hCf (g + 13) (by omega)).trans b13
                    have b14 := (hCf (g + 14) (by omega)).trans b14
                    have b15 := (hCf (g + 15) (by omega)).trans b15
                    have b16 := (hCf (g + 16) (by omega)).trans b16
                    have b11 := b11n
                    have z1 : ∀ j, j < 72 → zG ca b Cf11 (g + 17 + 2 * j) := fun j hj => (z1 j hj).fr (hCf _ (by omega)) (hCf _ (by omega))
                    have z2 : ∀ j, j < 6 → zG ca b Cf11 (g + 161 + 2 * j) := fun j hj => (z2 j hj).fr (hCf _ (by omega)) (hCf _ (by omega))
                    have z3 : ∀ j, j < 12 → zG ca b Cf11 (g + 173 + 2 * j) := fun j hj => (z3 j hj).fr (hCf _ (by omega)) (hCf _ (by omega))
                    refine xw_sz (n := g + 197) (by omega) hP (by omega) (fun hsz => ?_)
                    refine W.widen (k := 196) (n := 872) (by decide) (by decide) ?_
                    have hP := wl_repR (f1 := (fun j => some (b + (g + 17 + 2 * j)))) hP a2 (fun j hj => if_pos hj)
                    generalize hCd : va_up Cf11 (g + 1) _ = Cn1 at hP
                    have a0 : ∀ k, k < g → Cn1 k = C0 k := fun k hk => by rw [← hCd]; exact (va_up_ne _ _ (by omega)).trans (a0 k hk)
                    have a1 := (show Cn1 g = Cf11 g by rw [← hCd]; exact va_up_ne _ _ (by omega)).trans a1
                    have a2 : Cn1 (g + 1) = .inl (ca 3, 72, .inr (.inr (.inr (.inr (fun j => some (b + (g + 17 + 2 * j))))))) := by rw [← hCd]; exact va_up_self _ _ _
                    have a3 := (show Cn1 (g + 2) = Cf11 (g + 2) by rw [← hCd]; exact va_up_ne _ _ (by omega)).trans a3
                    have a4 := (show Cn1 (g + 3) = Cf11 (g + 3) by rw [← hCd]; exact va_up_ne _ _ (by omega)).trans a4
                    have a5 : zG ca b Cn1 (g + 4) := a5.fr (by rw [← hCd]; exact va_up_ne _ _ (by omega)) (by rw [← hCd]; exact va_up_ne _ _ (by omega))
                    have a6 : zG ca b Cn1 (g + 6) := a6.fr (by rw [← hCd]; exact va_up_ne _ _ (by omega)) (by rw [← hCd]; exact va_up_ne _ _ (by omega))
                    have a7 : zG ca b Cn1 (g + 8) := a7.fr (by rw [← hCd]; exact va_up_ne _ _ (by omega)) (by rw [← hCd]; exact va_up_ne _ _ (by omega))
                    have b10 := (show Cn1 (g + 10) = Cf11 (g + 10) by rw [← hCd]; exact va_up_ne _ _ (by omega)).trans b10
                    have b11 := (show Cn1 (g + 11) = Cf11 (g + 11) by rw [← hCd]; exact va_up_ne _ _ (by omega)).trans b11
                    have b12 := (show Cn1 (g + 12) = Cf11 (g + 12) by rw [← hCd]; exact va_up_ne _ _ (by omega)).trans b12
                    have b13 := (show Cn1 (g + 13) = Cf11 (g + 13) by rw [← hCd]; exact va_up_ne _ _ (by omega)).trans b13
                    have b14 := (show Cn1 (g + 14) = Cf11 (g + 14) by rw [← hCd]; exact va_up_ne _ _ (by omega)).trans b14
                    have b15 := (show Cn1 (g + 15) = Cf11 (g + 15) by rw [← hCd]; exact va_up_ne _ _ (by omega)).trans b15
                    have b16 := (show Cn1 (g + 16) = Cf11 (g + 16) by rw [← hCd]; exact va_up_ne _ _ (by omega)).trans b16
                    have z1 : ∀ j, j < 72 → zG ca b Cn1 (g + 17 + 2 * j) := fun j hj => (z1 j hj).fr (by rw [← hCd]; exact va_up_ne _ _ (by omega)) (by rw [← hCd]; exact va_up_ne _ _ (by omega))
                    have z2 : ∀ j, j < 6 → zG ca b Cn1 (g + 161 + 2 * j) := fun j hj => (z2 j hj).fr (by rw [← hCd]; exact va_up_ne _ _ (by omega)) (by rw [← hCd]; exact va_up_ne _ _ (by omega))
                    have z3 : ∀ j, j < 12 → zG ca b Cn1 (g + 173 + 2 * j) := fun j hj => (z3 j hj).fr (by rw [← hCd]; exact va_up_ne _ _ (by omega)) (by rw [← hCd]; exact va_up_ne _ _ (by omega))
                    clear hCd
                    have hP := wl_repR (f1 := (fun j => some (b + (g + 161 + 2 * j)))) hP a3 (fun j hj => if_pos hj)
                    generalize hCd : va_up Cn1 (g + 2) _ = Cn2 at hP
                    have a0 : ∀ k, k < g → Cn2 k = C0 k := fun k hk => by rw [← hCd]; exact (va_up_ne _ _ (by omega)).trans (a0 k hk)
                    have a1 := (show Cn2 g = Cn1 g by rw [← hCd]; exact va_up_ne _ _ (by omega)).trans a1
                    have a2 := (show Cn2 (g + 1) = Cn1 (g + 1) by rw [← hCd]; exact va_up_ne _ _ (by omega)).trans a2
                    have a3 : Cn2 (g + 2) = .inl (ca 3, 6, .inr (.inr (.inr (.inr (fun j => some (b + (g + 161 + 2 * j))))))) := by rw [← hCd]; exact va_up_self _ _ _
                    have a4 := (show Cn2 (g + 3) = Cn1 (g + 3) by rw [← hCd]; exact va_up_ne _ _ (by omega)).trans a4
                    have a5 : zG ca b Cn2 (g + 4) := a5.fr (by rw [← hCd]; exact va_up_ne _ _ (by omega)) (by rw [← hCd]; exact va_up_ne _ _ (by omega))
                    have a6 : zG ca b Cn2 (g + 6) := a6.fr (by rw [← hCd]; exact va_up_ne _ _ (by omega)) (by rw [← hCd]; exact va_up_ne _ _ (by omega))
                    have a7 : zG ca b Cn2 (g + 8) := a7.fr (by rw [← hCd]; exact va_up_ne _ _ (by omega)) (by rw [← hCd]; exact va_up_ne _ _ (by omega))
                    have b10 := (show Cn2 (g + 10) = Cn1 (g + 10) by rw [← hCd]; exact va_up_ne _ _ (by omega)).trans b10
                    have b11 := (show Cn2 (g + 11) = Cn1 (g + 11) by rw [← hCd]; exact va_up_ne _ _ (by omega)).trans b11
                    have b12 := (show Cn2 (g + 12) = Cn1 (g + 12) by rw [← hCd]; exact va_up_ne _ _ (by omega)).trans b12
                    have b13 := (show Cn2 (g + 13) = Cn1 (g + 13) by rw [← hCd]; exact va_up_ne _ _ (by omega)).trans b13
                    have b14 := (show Cn2 (g + 14) = Cn1 (g + 14) by rw [← hCd]; exact va_up_ne _ _ (by omega)).trans b14
                    have b15 := (show Cn2 (g + 15) = Cn1 (g + 15) by rw [← hCd]; exact va_up_ne _ _ (by omega)).trans b15
                    have b16 := (show Cn2 (g + 16) = Cn1 (g + 16) by rw [← hCd]; exact va_up_ne _ _ (by omega)).trans b16
                    have z1 : ∀ j, j < 72 → zG ca b Cn2 (g + 17 + 2 * j) := fun j hj => (z1 j hj).fr (by rw [← hCd]; exact va_up_ne _ _ (by omega)) (by rw [← hCd]; exact va_up_ne _ _ (by omega))
                    have z2 : ∀ j, j < 6 → zG ca b Cn2 (g + 161 + 2 * j) := fun j hj => (z2 j hj).fr (by rw [← hCd]; exact va_up_ne _ _ (by omega)) (by rw [← hCd]; exact va_up_ne _ _ (by omega))
                    have z3 : ∀ j, j < 12 → zG ca b Cn2 (g + 173 + 2 * j) := fun j hj => (z3 j hj).fr (by rw [← hCd]; exact va_up_ne _ _ (by omega)) (by rw [← hCd]; exact va_up_ne _ _ (by omega))
                    clear hCd
                    have hP := wl_repR (f1 := (fun j => some (b + (g + 173 + 2 * j)))) hP a4 (fun j hj => if_pos hj)
                    generalize hCd : va_up Cn2 (g + 3) _ = Cn3 at hP
                    have a0 : ∀ k, k < g → Cn3 k = C0 k := fun k hk => by rw [← hCd]; exact (va_up_ne _ _ (by omega)).trans (a0 k hk)
                    have a1 := (show Cn3 g = Cn2 g by rw [← hCd]; exact va_up_ne _ _ (by omega)).trans a1
                    have a2 := (show Cn3 (g + 1) = Cn2 (g + 1) by rw [← hCd]; exact va_up_ne _ _ (by omega)).trans a2
                    have a3 := (show Cn3 (g + 2) = Cn2 (g + 2) by rw [← hCd]; exact va_up_ne _ _ (by omega)).trans a3
                    have a4 : Cn3 (g + 3) = .inl (ca 3, 12, .inr (.inr (.inr (.inr (fun j => some (b + (g + 173 + 2 * j))))))) := by rw [← hCd]; exact va_up_self _ _ _
                    have a5 : zG ca b Cn3 (g + 4) := a5.fr (by rw [← hCd]; exact va_up_ne _ _ (by omega)) (by rw [← hCd]; exact va_up_ne _ _ (by omega))
                    have a6 : zG ca b Cn3 (g + 6) := a6.fr (by rw [← hCd]; exact va_up_ne _ _ (by omega)) (by rw [← hCd]; exact va_up_ne _ _ (by omega))
                    have a7 : zG ca b Cn3 (g + 8) := a7.fr (by rw [← hCd]; exact va_up_ne _ _ (by omega)) (by rw [← hCd]; exact va_up_ne _ _ (by omega))
                    have b10 := (show Cn3 (g + 10) = Cn2 (g + 10) by rw [← hCd]; exact va_up_ne _ _ (by omega)).trans b10
                    have b11 := (show Cn3 (g + 11) = Cn2 (g + 11) by rw [← hCd]; exact va_up_ne _ _ (by omega)).trans b11
                    have b12 := (show Cn3 (g + 12) = Cn2 (g + 12) by rw [← hCd]; exact va_up_ne _ _ (by omega)).trans b12
                    have b13 := (show Cn3 (g + 13) = Cn2 (g + 13) by rw [← hCd]; exact va_up_ne _ _ (by omega)).trans b13
                    have b14 := (show Cn3 (g + 14) = Cn2 (g + 14) by rw [← hCd]; exact va_up_ne _ _ (by omega)).trans b14
                    have b15 := (show Cn3 (g + 15) = Cn2 (g + 15) by rw [← hCd]; exact va_up_ne _ _ (by omega)).trans b15
                    have b16 := (show Cn3 (g + 16) = Cn2 (g + 16) by rw [← hCd]; exact va_up_ne _ _ (by omega)).trans b16
                    have z1 : ∀ j, j < 72 → zG ca b Cn3 (g + 17 + 2 * j) := fun j hj => (z1 j hj).fr (by rw [← hCd]; exact va_up_ne _ _ (by omega)) (by rw [← hCd]; exact va_up_ne _ _ (by omega))
                    have z2 : ∀ j, j < 6 → zG ca b Cn3 (g + 161 + 2 * j) := fun j hj => (z2 j hj).fr (by rw [← hCd]; exact va_up_ne _ _ (by omega)) (by rw [← hCd]; exact va_up_ne _ _ (by omega))
                    have z3 : ∀ j, j < 12 → zG ca b Cn3 (g + 173 + 2 * j) := fun j hj => (z3 j hj).fr (by rw [← hCd]; exact va_up_ne _ _ (by omega)) (by rw [← hCd]; exact va_up_ne _ _ (by omega))
                    clear hCd
                    have hP := wl_repI (f1 := (fun _ => eo none)) hP b10 (fun j hj => if_pos hj)
                    generalize hCd : va_up Cn3 (g + 10) _ = Cn10 at hP
                    have a0 : ∀ k, k < g → Cn10 k = C0 k := fun k hk => by rw [← hCd]; exact (va_up_ne _ _ (by omega)).trans (a0 k hk)
                    have a1 := (show Cn10 g = Cn3 g by rw [← hCd]; exact va_up_ne _ _ (by omega)).trans a1
                    have a2 := (show Cn10 (g + 1) = Cn3 (g + 1) by rw [← hCd]; exact va_up_ne _ _ (by omega)).trans a2
                    have a3 := (show Cn10 (g + 2) = Cn3 (g + 2) by rw [← hCd]; exact va_up_ne _ _ (by omega)).trans a3
                    have a4 := (show Cn10 (g + 3) = Cn3 (g + 3) by rw [← hCd]; exact va_up_ne _ _ (by omega)).trans a4
                    have a5 : zG ca b Cn10 (g + 4) := a5.fr (by rw [← hCd]; exact va_up_ne _ _ (by omega)) (by rw [← hCd]; exact va_up_ne _ _ (by omega))
                    have a6 : zG ca b Cn10 (g + 6) := a6.fr (by rw [← hCd]; exact va_up_ne _ _ (by omega)) (by rw [← hCd]; exact va_up_ne _ _ (by omega))
                    have a7 : zG ca b Cn10 (g + 8) := a7.fr (by rw [← hCd]; exact va_up_ne _ _ (by omega)) (by rw [← hCd]; exact va_up_ne _ _ (by omega))
                    have b10 : Cn10 (g + 10) = .inl (ca 0, 6, .inl (fun _ => eo none)) := by rw [← hCd]; exact va_up_self _ _ _
                    have b11 := (show Cn10 (g + 11) = Cn3 (g + 11) by rw [← hCd]; exact va_up_ne _ _ (by omega)).trans b11
                    have b12 := (show Cn10 (g + 12) = Cn3 (g + 12) by rw [← hCd]; exact va_up_ne _ _ (by omega)).trans b12
                    have b13 := (show Cn10 (g + 13) = Cn3 (g + 13) by rw [← hCd]; exact va_up_ne _ _ (by omega)).trans b13
                    have b14 := (show Cn10 (g + 14) = Cn3 (g + 14) by rw [← hCd]; exact va_up_ne _ _ (by omega)).trans b14
                    have b15 := (show Cn10 (g + 15) = Cn3 (g + 15) by rw [← hCd]; exact va_up_ne _ _ (by omega)).trans b15
                    have b16 := (show Cn10 (g + 16) = Cn3 (g + 16) by rw [← hCd]; exact va_up_ne _ _ (by omega)).trans b16
                    have z1 : ∀ j, j < 72 → zG ca b Cn10 (g + 17 + 2 * j) := fun j hj => (z1 j hj).fr (by rw [← hCd]; exact va_up_ne _ _ (by omega)) (by rw [← hCd]; exact va_up_ne _ _ (by omega))
                    have z2 : ∀ j, j < 6 → zG ca b Cn10 (g + 161 + 2 * j) := fun j hj => (z2 j hj).fr (by rw [← hCd]; exact va_up_ne _ _ (by omega)) (by rw [← hCd]; exact va_up_ne _ _ (by omega))
                    have z3 : ∀ j, j < 12 → zG ca b Cn10 (g + 173 + 2 * j) := fun j hj => (z3 j hj).fr (by rw [← hCd]; exact va_up_ne _ _ (by omega)) (by rw [← hCd]; exact va_up_ne _ _ (by omega))
                    clear hCd
                    have hP := wl_repI (f1 := (fun _ => eo none)) hP b11 (fun j hj => if_pos hj)
                    generalize hCd : va_up Cn10 (g + 11) _ = Cn11 at hP
                    have a0 : ∀ k, k < g → Cn11 k = C0 k := fun k hk => by rw [← hCd]; exact (va_up_ne _ _ (by omega)).trans (a0 k hk)
                    have a1 := (show Cn11 g = Cn10 g by rw [← hCd]; exact va_up_ne _ _ (by omega)).trans a1
                    have a2 := (show Cn11 (g + 1) = Cn10 (g + 1) by rw [← hCd]; exact va_up_ne _ _ (by omega)).trans a2
                    have a3 := (show Cn11 (g + 2) = Cn10 (g + 2) by rw [← hCd]; exact va_up_ne _ _ (by omega)).trans a3
                    have a4 := (show Cn11 (g + 3) = Cn10 (g + 3) by rw [← hCd]; exact va_up_ne _ _ (by omega)).trans a4
                    have a5 : zG ca b Cn11 (g + 4) := a5.fr (by rw [← hCd]; exact va_up_ne _ _ (by omega)) (by rw [← hCd]; exact va_up_ne _ _ (by omega))
                    have a6 : zG ca b Cn11 (g + 6) := a6.fr (by rw [← hCd]; exact va_up_ne _ _ (by omega)) (by rw [← hCd]; exact va_up_ne _ _ (by omega))
                    have a7 : zG ca b Cn11 (g + 8) := a7.fr (by rw [← hCd]; exact va_up_ne _ _ (by omega)) (by rw [← hCd]; exact va_up_ne _ _ (by omega))
                    have b10 := (show Cn11 (g + 10) = Cn10 (g + 10) by rw [← hCd]; exact va_up_ne _ _ (by omega)).trans b10
                    have b11 : Cn11 (g + 11) = .inl (ca 0, 2, .inl (fun _ => eo none)) := by rw [← hCd]; exact va_up_self _ _ _
                    have b12 := (show Cn11 (g + 12) = Cn10 (g + 12) by rw [← hCd]; exact va_up_ne _ _ (by omega)).trans b12
                    have b13 := (show Cn11 (g + 13) = Cn10 (g + 13) by rw [← hCd]; exact va_up_ne _ _ (by omega)).trans b13
                    have b14 := (show Cn11 (g + 14) = Cn10 (g + 14) by rw [← hCd]; exact va_up_ne _ _ (by omega)).trans b14
                    have b15 := (show Cn11 (g + 15) = Cn10 (g + 15) by rw [← hCd]; exact va_up_ne _ _ (by omega)).trans b15
                    have b16 := (show Cn11 (g + 16) = Cn10 (g + 16) by rw [← hCd]; exact va_up_ne _ _ (by omega)).trans b16
                    have z1 : ∀ j, j < 72 → zG ca b Cn11 (g + 17 + 2 * j) := fun j hj => (z1 j hj).fr (by rw [← hCd]; exact va_up_ne _ _ (by omega)) (by rw [← hCd]; exact va_up_ne _ _ (by omega))
                    have z2 : ∀ j, j < 6 → zG ca b Cn11 (g + 161 + 2 * j) := fun j hj => (z2 j hj).fr (by rw [← hCd]; exact va_up_ne _ _ (by omega)) (by rw [← hCd]; exact va_up_ne _ _ (by omega))
                    have z3 : ∀ j, j < 12 → zG ca b Cn11 (g + 173 + 2 * j) := fun j hj => (z3 j hj).fr (by rw [← hCd]; exact va_up_ne _ _ (by omega)) (by rw [← hCd]; exact va_up_ne _ _ (by omega))
                    clear hCd
                    exact nw_ret hx hb hr hlocks hP hsz hS ⟨a0, a1, a2, a3, a4, a5, a6, a7, b10, b11, b12, b13, b14, b15, b16, z1, z2, z3⟩ d_PA_init_226
                  · skip
                    refine lv_aload_n hx hb d_PA_init_191 rfl (lv_at hl 0 rfl) ?_
                    refine xw_get (v := .ref (b + (g + 3))) hx hb hts (fun w h => mw (uw_PA w h)) hown hK hP hPS.2.1 (by omega) rfl 2 (by decide) (hts _ (mw tb_103)) (fun _ h => h) rfl d_PA_init_192 ?_
                    refine lv_iload_n hx hb d_PA_init_195 rfl (lv_at hl 1 rfl) ?_
                    refine xw_sz (n := g + 173 + 2 * i) (by omega) hP (by omega) (fun hsz => ?_)
                    refine xw_mkG hx hb hml hown hts tb_83 hZ.2.2.1 hK hZ hP hsz hl (Nat.le_of_ble_eq_true rfl) d_PA_init_196 d_PA_init_199 d_PA_init_200 (by show _ ≤ 196; omega) (by show _ ≤ 872; omega) ⟨by decide, by decide⟩ hS (fun C1 H locs hCf hzG hP hsz hS => ?_)
                    refine xw_astq (k0 := g + 3) (kv := g + 173 + 2 * i) (ci := 2) (t0 := 3) (r := (R_GR, F_GR, 2)) hx hb hK hP (fun k _ => Nat.le_add_right _ _) hS ((hCf _ (by omega)).trans hPS.2.2.2.2.1) (by omega) rfl hzG.1 (by omega) rfl (show i < 12 by omega) (by decide) d_PA_init_203 (fun H locs hP hS => ?_)
                    rw [refs_s (fun j => b + (g + 173 + 2 * j)) i] at hP
                    generalize hCd : va_up C1 (g + 3) _ = C2 at hP
                    have hPS2 : PSt ca b C0 C2 g 72 6 (i + 1) := hPS.s3 (fun k hk hne => by rw [← hCd]; exact (va_up_ne _ _ hne).trans (hCf k hk)) (by rw [← hCd]; exact va_up_self _ _ _) (hzG.fr (by rw [← hCd]; exact va_up_ne _ _ (by omega)) (by rw [← hCd]; exact va_up_ne _ _ (by omega)))
                    refine lv_iinc (v := nI (i + 1)) (lv' := [(1, .int (nI (i + 1))), (0, .ref (b + g))]) hx hb d_PA_init_204 hl (k := 1) rfl (show nI i + Int32.ofInt 1 = nI (i + 1) from nI_add _ _) (by decide) rfl (fun ls hl => ?_)
                    refine lv_goto (tgt := 185) hx hb d_PA_init_207 (by decide) ?_
                    refine xw_cs (k := 172 + 2 * (i + 1)) (n := 776 + 8 * (i + 1)) (by omega) (by omega) ?_
                    exact ih185 (i + 1) _ _ _ _ (by omega) (by omega) hPS2 (by rw [show g + 173 + 2 * (i + 1) = g + 173 + 2 * i + 2 by omega]; exact hP) hS (lv_sub hl [1, 0] rfl)
              refine xw_cs (k := 172 + 2 * 0) (n := 776 + 8 * 0) (by decide) (by decide) ?_
              exact loop185 13 0 _ _ _ _ (by omega) (by omega) hPS hP hS (lv_sub hl [1, 0] rfl)
            · skip
              refine lv_aload_n hx hb d_PA_init_164 rfl (lv_at hl 0 rfl) ?_
              refine xw_get (v := .ref (b + (g + 2))) hx hb hts (fun w h => mw (uw_PA w h)) hown hK hP hPS.2.1 (by omega) rfl 1 (by decide) (hts _ (mw tb_102)) (fun _ h => h) rfl d_PA_init_165 ?_
              refine lv_iload_n hx hb d_PA_init_168 rfl (lv_at hl 1 rfl) ?_
              refine xw_sz (n := g + 161 + 2 * i) (by omega) hP (by omega) (fun hsz => ?_)
              refine xw_mkG hx hb hml hown hts tb_83 hZ.2.2.1 hK hZ hP hsz hl (Nat.le_of_ble_eq_true rfl) d_PA_init_169 d_PA_init_172 d_PA_init_173 (by show _ ≤ 196; omega) (by show _ ≤ 872; omega) ⟨by decide, by decide⟩ hS (fun C1 H locs hCf hzG hP hsz hS => ?_)
              refine xw_astq (k0 := g + 2) (kv := g + 161 + 2 * i) (ci := 2) (t0 := 3) (r := (R_GR, F_GR, 2)) hx hb hK hP (fun k _ => Nat.le_add_right _ _) hS ((hCf _ (by omega)).trans hPS.2.2.2.1) (by omega) rfl hzG.1 (by omega) rfl (show i < 6 by omega) (by decide) d_PA_init_176 (fun H locs hP hS => ?_)
              rw [refs_s (fun j => b + (g + 161 + 2 * j)) i] at hP
              generalize hCd : va_up C1 (g + 2) _ = C2 at hP
              have hPS2 : PSt ca b C0 C2 g 72 (i + 1) 0 := hPS.s2 (fun k hk hne => by rw [← hCd]; exact (va_up_ne _ _ hne).trans (hCf k hk)) (by rw [← hCd]; exact va_up_self _ _ _) (hzG.fr (by rw [← hCd]; exact va_up_ne _ _ (by omega)) (by rw [← hCd]; exact va_up_ne _ _ (by omega)))
              refine lv_iinc (v := nI (i + 1)) (lv' := [(1, .int (nI (i + 1))), (0, .ref (b + g))]) hx hb d_PA_init_177 hl (k := 1) rfl (show nI i + Int32.ofInt 1 = nI (i + 1) from nI_add _ _) (by decide) rfl (fun ls hl => ?_)
              refine lv_goto (tgt := 158) hx hb d_PA_init_180 (by decide) ?_
              refine xw_cs (k := 160 + 2 * (i + 1)) (n := 728 + 8 * (i + 1)) (by omega) (by omega) ?_
              exact ih158 (i + 1) _ _ _ _ (by omega) (by omega) hPS2 (by rw [show g + 161 + 2 * (i + 1) = g + 161 + 2 * i + 2 by omega]; exact hP) hS (lv_sub hl [1, 0] rfl)
        refine xw_cs (k := 160 + 2 * 0) (n := 728 + 8 * 0) (by decide) (by decide) ?_
        exact loop158 7 0 _ _ _ _ (by omega) (by omega) hPS hP hS (lv_sub hl [1, 0] rfl)
      · skip
        refine lv_aload_n hx hb d_PA_init_137 rfl (lv_at hl 0 rfl) ?_
        refine xw_get (v := .ref (b + (g + 1))) hx hb hts (fun w h => mw (uw_PA w h)) hown hK hP hPS.2.1 (by omega) rfl 0 (by decide) (hts _ (mw tb_101)) (fun _ h => h) rfl d_PA_init_138 ?_
        refine lv_iload_n hx hb d_PA_init_141 rfl (lv_at hl 1 rfl) ?_
        refine xw_sz (n := g + 17 + 2 * i) (by omega) hP (by omega) (fun hsz => ?_)
        refine xw_mkG hx hb hml hown hts tb_83 hZ.2.2.1 hK hZ hP hsz hl (Nat.le_of_ble_eq_true rfl) d_PA_init_142 d_PA_init_145 d_PA_init_146 (by show _ ≤ 196; omega) (by show _ ≤ 872; omega) ⟨by decide, by decide⟩ hS (fun C1 H locs hCf hzG hP hsz hS => ?_)
        refine xw_astq (k0 := g + 1) (kv := g + 17 + 2 * i) (ci := 2) (t0 := 3) (r := (R_GR, F_GR, 2)) hx hb hK hP (fun k _ => Nat.le_add_right _ _) hS ((hCf _ (by omega)).trans hPS.2.2.1) (by omega) rfl hzG.1 (by omega) rfl (show i < 72 by omega) (by decide) d_PA_init_149 (fun H locs hP hS => ?_)
        rw [refs_s (fun j => b + (g + 17 + 2 * j)) i] at hP
        generalize hCd : va_up C1 (g + 1) _ = C2 at hP
        have hPS2 : PSt ca b C0 C2 g (i + 1) 0 0 := hPS.s1 (fun k hk hne => by rw [← hCd]; exact (va_up_ne _ _ hne).trans (hCf k hk)) (by rw [← hCd]; exact va_up_self _ _ _) (hzG.fr (by rw [← hCd]; exact va_up_ne _ _ (by omega)) (by rw [← hCd]; exact va_up_ne _ _ (by omega)))
        refine lv_iinc (v := nI (i + 1)) (lv' := [(1, .int (nI (i + 1))), (0, .ref (b + g))]) hx hb d_PA_init_150 hl (k := 1) rfl (show nI i + Int32.ofInt 1 = nI (i + 1) from nI_add _ _) (by decide) rfl (fun ls hl => ?_)
        refine lv_goto (tgt := 131) hx hb d_PA_init_153 (by decide) ?_
        refine xw_cs (k := 16 + 2 * (i + 1)) (n := 152 + 8 * (i + 1)) (by omega) (by omega) ?_
        exact ih131 (i + 1) _ _ _ _ (by omega) (by omega) hPS2 (by rw [show g + 17 + 2 * (i + 1) = g + 17 + 2 * i + 2 by omega]; exact hP) hS (lv_sub hl [1, 0] rfl)
  refine xw_cs (k := 16 + 2 * 0) (n := 152 + 8 * 0) (by decide) (by decide) ?_
  exact loop131 73 0 _ _ _ _ (by omega) (by omega) hPS hP hS (lv_sub hl [1, 0] rfl)

