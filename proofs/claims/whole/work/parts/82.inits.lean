/-! Constructors -/
abbrev zA : va_E → Prop := fun _ => True
theorem gRep_0 : gRep (fun _ => 0) 0 0 := ⟨⟨by decide, fun _ _ => (by decide : 0 < gB), fun _ _ _ => rfl⟩, fun _ => ⟨by decide, fun h => absurd h (Nat.lt_irrefl _)⟩⟩
set_option maxHeartbeats 4000000 in
set_option maxRecDepth 100000 in
/-- a Great is made: zero -/
theorem c_GR_init (l : Launch) (D : va_G) (ca : Nat → ClassId) (b : Nat) (C0 : Nat → va_E) (g : Nat) (h0 : C0 g = .inr (2, [.null, .int (nI 0)])) : Met l y_GR_init (k_GR_init :: gw) ({ frames := 1, cells := 1, slots := 6, locals := 12 }) (nPc D ca b (g + 1) C0 [.ref (b + g)]) (nQ D b (g + 2) (fun C1 => (∀ k, k < g → C1 k = C0 k) ∧ C1 g = gobj b g 0 ∧ C1 (g + 1) = garr ca (fun _ => 0))) 1 6 (fun q => b ≤ q) := by
  refine Met.ofW (cc := b_GR_init) (maxL := 1) (ret := none) (by decide) rfl ?_
  intro p e s m args below meth c s₁ B hml hv
  obtain ⟨hav, hP, hsz, hK, hZ⟩ := hv
  have hx := B.exec
  have hb := B.bytes
  have hr := B.returns
  have hts := atoms_spec (ws := k_GR_init :: gw) B.pre
  have hown : s.vm.findClass R_GR = some m.cls := findClass_of_methodNamed B.named
  have hlocks := B.notSynchronized
  have hin : meth.name = "<init>" := (name_of_methodNamed B.named B.method).1
  have hS : va_S (fun q => b ≤ q) s.heap s.heap [] := va_S.rf
  have hs0 : s.heap.size = b + (g + 1) := hsz
  have hfr : ∀ k, k < g → C0 k = C0 k := fun _ _ => rfl
  have hl := lv_entry ([.ref (b + g)]) (n := 1) (Nat.le_of_ble_eq_true rfl)
  rw [hav, lg_entry_eq]
  generalize (lg_sl ([.ref (b + g)]) ++ List.replicate (1 - (lg_sl ([.ref (b + g)])).length) Slot.unset).toArray = ls at hl ⊢
  have hl : lv_has ls 1 [(0, .ref (b + g))] := hl
  rw [← hav]
  refine lv_aload_n hx hb d_GR_init_0 rfl (lv_at hl 0 rfl) ?_
  refine W.objInit hx hb hown (hts _ (mw tb_89)) (hts _ (mw tb_21)) (hts _ (mw tb_22)) rfl (by rw [hml]; exact hl.1) rfl d_GR_init_1 (Nat.le_of_ble_eq_true rfl) (Nat.le_of_ble_eq_true rfl) ?_
  refine lv_aload_n hx hb d_GR_init_4 rfl (lv_at hl 0 rfl) ?_
  refine lv_bipush (v := nI 6) hx hb d_GR_init_5 (by decide) ?_
  refine xw_newa (atype := .long) (ty := .long) (a0 := (6, .inr (.inl (fun _ => lN 0)))) hx hb 1 (hts _ (mw tb_97)) rfl hK rfl (hK.2 1 _ rfl).2 hP hS hsz rfl (by decide) (by decide) (by decide) (by decide) (by decide) d_GR_init_7 (fun H hP hsz hS => ?_)
  generalize hCd : va_up C0 (g + 1) _ = C91 at hP
  have hfr : ∀ k, k < g → C91 k = C0 k := fun k hk => by rw [← hCd]; exact (va_up_ne _ _ (by omega)).trans (hfr k hk)
  have h0 : C91 g = .inr (2, [.null, .int (nI 0)]) := by rw [← hCd]; exact (va_up_ne _ _ (by omega)).trans h0
  have h1 : C91 (g + 1) = .inl (ca 1, 6, .inr (.inl (fun _ => lN 0))) := by rw [← hCd]; exact va_up_self _ _ _
  clear hCd
  refine xw_putF (v := .ref (b + (g + 1))) (ty := t_GR 0) hx hb hts (fun w h => mw (uw_GR w h)) t_GR t_GR_ok n_GR hown hK hP (fun k _ => Nat.le_add_right _ _) hS h0 (by omega) rfl 0 (by decide) (hts _ (mw tb_90)) (fun _ h => h) rfl hin rfl (by decide +kernel) rfl rfl (Nat.le_of_ble_eq_true rfl) d_GR_init_9 (fun H locs hP hS => ?_)
  generalize hCd : va_up C91 g _ = C92 at hP
  have hfr : ∀ k, k < g → C92 k = C0 k := fun k hk => by rw [← hCd]; exact (va_up_ne _ _ (by omega)).trans (hfr k hk)
  have h0 : C92 g = .inr (2, [.ref (b + (g + 1)), .int (nI 0)]) := by rw [← hCd]; exact va_up_self _ _ _
  have h1 : C92 (g + 1) = .inl (ca 1, 6, .inr (.inl (fun _ => lN 0))) := by rw [← hCd]; exact (va_up_ne _ _ (by omega)).trans h1
  clear hCd
  refine lv_aload_n hx hb d_GR_init_12 rfl (lv_at hl 0 rfl) ?_
  refine lv_iconst (v := nI 0) hx hb d_GR_init_13 (by decide) ?_
  refine xw_put (v := .int (nI 0)) (ty := t_GR 1) hx hb hts (fun w h => mw (uw_GR w h)) t_GR t_GR_ok n_GR hown hK hP (fun k _ => Nat.le_add_right _ _) hS h0 (by omega) rfl 1 (by decide) (hts _ (mw tb_91)) (fun _ h => h) rfl (by decide +kernel) rfl rfl (Nat.le_of_ble_eq_true rfl) d_GR_init_14 (fun H locs hP hS => ?_)
  generalize hCd : va_up C92 g _ = C93 at hP
  have hfr : ∀ k, k < g → C93 k = C0 k := fun k hk => by rw [← hCd]; exact (va_up_ne _ _ (by omega)).trans (hfr k hk)
  have h0 : C93 g = .inr (2, [.ref (b + (g + 1)), .int (nI 0)]) := by rw [← hCd]; exact va_up_self _ _ _
  have h1 : C93 (g + 1) = .inl (ca 1, 6, .inr (.inl (fun _ => lN 0))) := by rw [← hCd]; exact (va_up_ne _ _ (by omega)).trans h1
  clear hCd
  refine xw_sz (n := g + 2) (by omega) hP (by omega) (fun hsz => ?_)
  refine W.widen (k := 1) (n := 6) (by decide) (by decide) ?_
  exact nw_ret hx hb hr hlocks hP hsz hS ⟨hfr, h0, h1⟩ d_GR_init_17

/-- a Great that is zero -/
abbrev zG (ca : Nat → ClassId) (b : Nat) (C : Nat → va_E) (g : Nat) : Prop := C g = gobj b g 0 ∧ C (g + 1) = garr ca (fun _ => 0)
theorem zG.is {ca : Nat → ClassId} {b : Nat} {C : Nat → va_E} {g : Nat} (h : zG ca b C g) : isG ca b C g 0 := ⟨fun _ => 0, 0, h.1, h.2, gRep_0⟩
section MKG
variable {p : Program} {l : Launch} {e : Env} {R : Room} {s : State} {m : MethodId} {args : Array Value} {below : List Frame} {meth : Method} {c : Code} {H : Heap} {locs : List Loc} {cells slots : Nat} {Q : State → Prop}
variable {cc : ByteArray} {pc : Nat} {ls : Array Slot} {rest : List Value} {D : va_G} {ca : Nat → ClassId} {H0 : Heap} {b n : Nat} {C : Nat → va_E}
/-- new Great() -/
theorem xw_mkG {own : String} {inew ii nL : Nat} {kc : Cond} {lv : List (Nat × Value)} (hexec : p.tables.exec = Jvm.exec) (hb : c.code = cc) (hml : c.maxLocals = nL) (hown : s.vm.findClass own = some m.cls) (hts : ∀ w ∈ kc :: gw, w.before args s = true) (hcl : Cond.classLink own inew "OrderPassing$Great" ∈ gw) (hnest : va_Nw (.methodLinkNest own ii y_GR_init "OrderPassing") s)
    (hK : va_K D classes (tysA ca) s) (hZ : NZ s) (hP : va_P D classes (wl b n C) H) (hsz : H.size = b + n) (hl : lv_has ls nL lv) (hW : ((Value.ref (b + n) :: rest).map fun v => v.category).sum ≤ 8) (d0 : decode cc pc = .ok (.new inew, 3)) (d1 : decode cc (pc + 3) = .ok (.dup, 1)) (d2 : decode cc (pc + 4) = .ok (.invokespecial ii, 3)) (hc : cells + 1 + 1 ≤ R.cells) (hs : slots + 2 + 6 ≤ R.slots) (hR : 2 ≤ R.frames ∧ 32 ≤ R.locals) (hS : va_S (fun q => b ≤ q) H0 H locs)
    (kk : ∀ (C1 : Nat → va_E) (H1 : Heap) (locs1 : List Loc), (∀ k, k < n → C1 k = C k) → zG ca b C1 n → va_P D classes (wl b (n + 2) C1) H1 → H1.size = b + (n + 2) → va_S (fun q => b ≤ q) H0 H1 locs1 → W p l e R s m args below meth c H1 locs1 (cells + 1 + 1) (slots + 2 + 6) Q (F0 m (pc + 7) ls (.ref (b + n) :: rest))) : W p l e R s m args below meth c H locs cells slots Q (F0 m pc ls rest) := by
  refine xw_new (ci := 2) (fs := [.null, .int (nI 0)]) hexec hb hts (fun w h => mw (uw_GR w h)) t_GR t_GR_ok hown (hts _ (mw hcl)) (hts _ (mw tb_85)) (hts _ (mw tb_5)) hK hP hS hsz rfl (by decide) (by omega) (by omega) d0 (fun H hP hsz hS => ?_)
  refine lv_dup hexec hb d1 rfl ?_
  refine xc_IN (n1 := n + 2) (g0 := n) hexec hb hml hown hts (c_GR_init l D ca b _ n (va_up_self _ _ _)) km_GR_init hnest tb_87 tb_5 rfl (by decide +kernel) rfl rfl ⟨hR.1, hR.2⟩ hK hZ hP hsz hl hW d2 ⟨by omega, by omega⟩ hS (fun C1 H1 locs1 hp hP hsz hS => ?_)
  exact kk C1 H1 locs1 (fun k hk => (hp.1 k hk).trans (va_up_ne _ _ (by omega))) ⟨hp.2.1, hp.2.2⟩ hP hsz hS
end MKG
