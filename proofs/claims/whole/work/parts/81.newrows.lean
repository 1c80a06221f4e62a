/-! A world that grows at its end: rows for constructors -/
theorem wl_push {D : va_G} {cl : List vw_C} {b n : Nat} {C : Nat → va_E} {H H1 : Heap} {x : va_E} (hP : va_P D cl (wl b n C) H) (hk : ∀ q, q < H.size → H1[q]? = H[q]?) (hx : va_at D cl (b + n, x) H1) : va_P D cl (wl b (n + 1) (va_up C n x)) H1 :=
  wl_P.mpr (fun k hk9 => by
    by_cases q : k = n
    · subst q; rw [va_up_self]; exact hx
    · rw [va_up_ne _ _ q]
      have h := wl_P.mp hP k (by omega)
      exact h.kept (hk _ h.lt))
/-- the words of the tables that the good words do not hold and constructors ask -/
def NZ (U : State) : Prop := va_Nw (.methodLinkNest "OrderPassing" 9 y_DA_init "OrderPassing") U ∧ va_Nw (.methodLinkNest "OrderPassing" 18 y_TE_init "OrderPassing") U ∧ va_Nw (.methodLinkNest "OrderPassing$Passing" 23 y_GR_init "OrderPassing") U ∧ va_Nw (.methodLinkNest "OrderPassing" 32 y_GR_init "OrderPassing") U ∧ va_AO "OrderPassing$Great" U ∧ (Cond.arrayOver (.array .int)).before #[] U = true
theorem NZ.warm {s U : State} (hW : s.WarmedH U.vm) (h : NZ s) : NZ U :=
  ⟨va_Nw.warmM hW h.1, va_Nw.warmM hW h.2.1, va_Nw.warmM hW h.2.2.1, va_Nw.warmM hW h.2.2.2.1, va_AO.moved hW.alike h.2.2.2.2.1, by
    have h1 : (Cond.arrayOver (.array .int)).before #[] (s.setVm U.vm) = true := by rw [Cond.arrayOver_setVmC hW.alike]; exact h.2.2.2.2.2
    exact h1⟩
def nPc (D : va_G) (ca : Nat → ClassId) (b n : Nat) (C : Nat → va_E) (av : List Value) : Array Value → State → Prop := va_Pc av (fun U => va_P D classes (wl b n C) U.heap ∧ U.heap.size = b + n ∧ va_K D classes (tysA ca) U ∧ NZ U)
def nQ (D : va_G) (b n : Nat) (post : (Nat → va_E) → Prop) : Array Value → State → Outcome → State → Prop := fun _ st oc t => (∃ C : Nat → va_E, oc = .returned none ∧ post C ∧ va_P D classes (wl b n C) t.heap ∧ t.heap.size = b + n) ∧ va_F (fun q => b ≤ q) st t
theorem nPc_blind {D : va_G} {ca : Nat → ClassId} {b n : Nat} {C : Nat → va_E} {av : List Value} : FrameBlind (nPc D ca b n C av) := by
  intro a U g mk q
  obtain ⟨q0, qP, qs, qK, qN⟩ := q
  exact ⟨q0, qP, qs, va_K.moved (u := U) (U := U.calling g mk a) (Vm.Alike.refl U.vm) qK, NZ.warm (State.WarmedH.refl _) qN⟩
theorem arrV_cg {cA : ClassId} {n : Nat} {f g : Nat → Value} (h : ∀ j, j < n → f j = g j) : arrV cA n f = arrV cA n g := by
  unfold arrV
  congr 2
  funext j
  exact h j.val j.isLt
theorem vr_outer (c : ClassId) (N h0 : Nat) : ∀ i : Nat, Jvm.Free.Multi.outerC c N h0 i = arrV c N (fun j => va_rf (if j < i then some (h0 + 1 + j) else none))
  | 0 => by
    show ({ cls := c, slots := Array.replicate N .null, vm := .none } : Cell) = _
    rw [arrV_new]
    refine congrArg (arrV c N) (funext fun j => ?_)
    simp [va_rf]
  | i + 1 => by
    show (Jvm.Free.Multi.outerC c N h0 i).setSlot i (.ref (h0 + 1 + i)) = _
    rw [vr_outer c N h0 i, arrV_store]
    refine congrArg (arrV c N) (funext fun j => ?_)
    by_cases e : j = i
    · subst e
      simp [updV, va_rf]
    · by_cases h : j < i
      · simp [updV, e, h, Nat.lt_succ_of_lt h]
      · simp [updV, e, h, show ¬ j < i + 1 by omega]
section NR
variable {p : Program} {l : Launch} {e : Env} {R : Room} {s : State} {m : MethodId} {args : Array Value} {below : List Frame} {meth : Method} {c : Code} {H : Heap} {locs : List Loc} {cells slots : Nat} {Q : State → Prop}
variable {cc : ByteArray} {pc : Nat} {ls : Array Slot} {rest : List Value} {D : va_G} {ca : Nat → ClassId} {A : Nat → Prop} {H0 : Heap} {b n : Nat} {C : Nat → va_E}
/-- the heap's size, by what was made -/
theorem xw_sz {g : JFrame} (hs0 : s.heap.size + cells = b + n) (hP : va_P D classes (wl b n C) H) (hn : 0 < n) (kk : H.size = b + n → W p l e R s m args below meth c H locs cells slots Q g) : W p l e R s m args below meth c H locs cells slots Q g := by
  intro T hT X
  have h1 := X.heapSize
  rw [hT] at h1
  have h2 := (wl_P.mp hP (n - 1) (by omega)).lt
  have h3 : b + (n - 1) < H.size := h2
  exact kk (by omega) T hT X
theorem xw_new {own Cn : String} {Tf : u_T} {M ci index : Nat} {Ts : List Cond} (hexec : p.tables.exec = Jvm.exec) (hb : c.code = cc) (hts : ∀ w ∈ Ts, w.before args s = true) (hin : ∀ w ∈ u_ws Cn Tf M, w ∈ Ts) (ty : Nat → FieldType) (hty : ∀ k, k < M → parseFieldDescriptor (Tf k).2.2.1 = some (ty k)) (hown : s.vm.findClass own = some m.cls) (hcl : (Cond.classLink own index Cn).before args s = true) (hinst : (Cond.instantiable Cn M).before args s = true) (hini : (Cond.initialized Cn).before args s = true)
    (hK : va_K D classes (tysA ca) s) (hP : va_P D classes (wl b n C) H) (hS : va_S A H0 H locs) (hsz : H.size = b + n) (hc : classes[ci]? = some (Cn, Tf, M)) {fs : List Value} (hfs : ∀ j, j < M → defaultValue (ty j) = vp_V fs j) (hcells : cells + 1 ≤ R.cells) (hslots : slots + M ≤ R.slots) (hdg : decode cc pc = .ok (.new index, 3))
    (kk : ∀ H1 : Heap, va_P D classes (wl b (n + 1) (va_up C n (.inr (ci, fs)))) H1 → H1.size = b + (n + 1) → va_S A H0 H1 locs → W p l e R s m args below meth c H1 locs (cells + 1) (slots + M) Q (F0 m (pc + 3) ls (.ref (b + n) :: rest))) : W p l e R s m args below meth c H locs cells slots Q (F0 m pc ls rest) := by
  have hKn := hK.1 ci _ hc
  refine W.newcK hexec hb hown hcl hinst hini rfl hdg hcells hslots hKn.2.1 hsz fun H1 kC hkC e1 z1 o1 => ?_
  have o1' : ∀ q, q < H.size → H1[q]? = H[q]? := fun q hq => o1 q (by omega)
  refine kk H1 (wl_push hP o1' ?_) (by omega) ⟨Nat.le_trans hS.1 (by omega), fun x h1 h2 => (o1' x (Nat.lt_of_lt_of_le h1 hS.1)).trans (hS.2.1 x h1 h2), hS.2.2⟩
  refine ⟨(Cn, Tf, M), hc, ?_⟩
  exact (u_born ty hts hin hKn hkC e1 hty).to hfs
theorem xw_newa (hexec : p.tables.exec = Jvm.exec) (hb : c.code = cc) {atype : ArrayType} {ty : FieldType} (t0 : Nat) {cA : ClassId} (harr : (Cond.arrayClass (newarray.typeOf atype)).before args s = true) (hty : newarray.typeOf atype = ty) (hK : va_K D classes (tysA ca) s) (ht : (tysA ca)[t0]? = some (cA, ty)) (hra : s.vm.findClass ("[" ++ ty.toString) = some cA) (hP : va_P D classes (wl b n C) H) (hS : va_S A H0 H locs) (hsz : H.size = b + n)
    {k : Int32} {N' : Nat} {a0 : vp_A} (ha : vp_cell cA a0 = arrV cA N' (fun _ => defaultValue ty)) (hn : ¬ k < 0) (hN : k.toNatClampNeg = N') (hbytes : N' * componentBytes ty ≤ 536870912) (hcells : cells + 1 ≤ R.cells) (hslots : slots + N' ≤ R.slots) (hdg : decode cc pc = .ok (.newarray atype, 2))
    (kk : ∀ H1 : Heap, va_P D classes (wl b (n + 1) (va_up C n (.inl (cA, a0)))) H1 → H1.size = b + (n + 1) → va_S A H0 H1 locs → W p l e R s m args below meth c H1 locs (cells + 1) (slots + N') Q (F0 m (pc + 2) ls (.ref (b + n) :: rest))) : W p l e R s m args below meth c H locs cells slots Q (F0 m pc ls (.int k :: rest)) := by
  subst hty
  refine va_newaK hexec hb harr rfl hdg rfl hn hN hbytes hcells hslots hsz fun H1 cA1 e1 z1 o1 hAr hNm => ?_
  cases Option.some.inj (hra.symm.trans hNm)
  have o1' : ∀ q, q < H.size → H1[q]? = H[q]? := fun q hq => o1 q (by omega)
  refine kk H1 (wl_push hP o1' ?_) (by omega) ⟨Nat.le_trans hS.1 (by omega), fun x h1 h2 => (o1' x (Nat.lt_of_lt_of_le h1 hS.1)).trans (hS.2.1 x h1 h2), hS.2.2⟩
  show H1[b + n]? = some (vp_cell cA a0)
  rw [ha]; exact e1
theorem xw_anew (hexec : p.tables.exec = Jvm.exec) (hb : c.code = cc) {own Cn : String} {index : Nat} (t0 : Nat) {cA : ClassId} (hown : s.vm.findClass own = some m.cls) (hclink : (Cond.classLink own index Cn).before args s = true) (hover : va_AO Cn s) (hK : va_K D classes (tysA ca) s) (ht : (tysA ca)[t0]? = some (cA, .object Cn)) (hP : va_P D classes (wl b n C) H) (hS : va_S A H0 H locs) (hsz : H.size = b + n)
    {k : Int32} {N' : Nat} (hn : ¬ k < 0) (hN : k.toNatClampNeg = N') (hbytes : N' * 4 ≤ 536870912) (hcells : cells + 1 ≤ R.cells) (hslots : slots + N' ≤ R.slots) (hdg : decode cc pc = .ok (.anewarray index, 3))
    (kk : ∀ H1 : Heap, va_P D classes (wl b (n + 1) (va_up C n (.inl (cA, N', .inr (.inr (.inr (.inr (fun _ => none)))))))) H1 → H1.size = b + (n + 1) → va_S A H0 H1 locs → W p l e R s m args below meth c H1 locs (cells + 1) (slots + N') Q (F0 m (pc + 3) ls (.ref (b + n) :: rest))) : W p l e R s m args below meth c H locs cells slots Q (F0 m pc ls (.int k :: rest)) := by
  subst hN
  refine W.anew hexec hb hown hclink (va_AO.use hover) rfl hdg rfl hn hbytes hcells hslots fun cA1 kA comp h1 h2 h3 h4 => ?_
  obtain ⟨kA0, comp0, -, -, -, h5⟩ := (hK.2 t0 _ ht).2
  cases Option.some.inj (h5.symm.trans h1)
  have hstk : (F0 m (pc + 3) ls (.ref H.size :: rest)) = F0 m (pc + 3) ls (.ref (b + n) :: rest) := by rw [hsz]
  show W p l e R s m args below meth c _ locs _ _ Q (F0 m (pc + 3) ls (.ref H.size :: rest))
  rw [hstk]
  have o1' : ∀ q, q < H.size → (H.push { cls := cA, slots := Array.replicate k.toNatClampNeg .null, vm := .none })[q]? = H[q]? := fun q hq => by
    rw [Array.getElem?_push, if_neg (Nat.ne_of_lt hq)]
  refine kk _ (wl_push hP o1' ?_) (by rw [Array.size_push]; omega) ⟨Nat.le_trans hS.1 (by rw [Array.size_push]; omega), fun x g1 g2 => (o1' x (Nat.lt_of_lt_of_le g1 hS.1)).trans (hS.2.1 x g1 g2), hS.2.2⟩
  show _ = some (vp_cell cA _)
  rw [vp_cell_q, Array.getElem?_push, if_pos hsz.symm, arrV_new]
  rfl
/-- new int[6][12] -/
theorem xw_mna (hexec : p.tables.exec = Jvm.exec) (hb : c.code = cc) {own : String} {index : Nat} (hown : s.vm.findClass own = some m.cls) (hclink : (Cond.classLink own index "[[I").before args s = true) (hover : (Cond.arrayOver (.array .int)).before #[] s = true) (harr : (Cond.arrayClass .int).before args s = true) (hK : va_K D classes (tysA ca) s) (hP : va_P D classes (wl b n C) H) (hS : va_S A H0 H locs) (hsz : H.size = b + n)
    (hcells : cells + 7 ≤ R.cells) (hslots : slots + 78 ≤ R.slots) (hdg : decode cc pc = .ok (.multianewarray index 2, 4))
    (kk : ∀ (H1 : Heap) (C1 : Nat → va_E), va_P D classes (wl b (n + 7) C1) H1 → H1.size = b + (n + 7) → (∀ k, k < n → C1 k = C k) → C1 n = .inl (ca 4, 6, .inr (.inr (.inr (.inr (fun i => some (b + (n + 1 + i))))))) → (∀ i, i < 6 → C1 (n + 1 + i) = .inl (ca 0, 12, .inl (fun _ => nI 0))) → va_S A H0 H1 locs → W p l e R s m args below meth c H1 locs (cells + 7) (slots + 78) Q (F0 m (pc + 4) ls (.ref (b + n) :: rest))) : W p l e R s m args below meth c H locs cells slots Q (F0 m pc ls (.int (nI 12) :: .int (nI 6) :: rest)) := by
  intro T hT Xs
  obtain ⟨vm₁, cA, comp, -, fA, fC, -, -, X', step⟩ := Xs.multianewarray2F (ty := .int) hexec hown hclink hover harr (g := F0 m pc ls (.int (nI 12) :: .int (nI 6) :: rest)) rfl (by rw [hb]; exact hdg) rfl (by decide) (by decide) (by decide) (by decide) (by decide) (by decide) (by decide) (by exact hcells) (by exact hslots)
  have k4 : s.vm.findClass ("[" ++ (FieldType.array .int).toString) = some (ca 4) := (hK.2 4 (ca 4, .array .int) rfl).2
  have k0 : s.vm.findClass ("[" ++ FieldType.int.toString) = some (ca 0) := (hK.2 0 (ca 0, .int) rfl).2
  cases Option.some.inj (k4.symm.trans fA)
  cases Option.some.inj (k0.symm.trans (show s.vm.findClass ("[" ++ FieldType.int.toString) = some comp from fC))
  generalize hF : Jvm.Free.Multi.fill (T.setVm vm₁) (ca 4) (ca 0) (nI 6).toNatClampNeg (nI 12).toNatClampNeg (defaultValue .int) (nI 6).toNatClampNeg = F at X' step
  have hTh : (T.setVm vm₁).heap = H := hT
  obtain ⟨f1, f2, -, -⟩ := Jvm.Free.Multi.fill_facts (T.setVm vm₁) (ca 4) (ca 0) (nI 6).toNatClampNeg (nI 12).toNatClampNeg (defaultValue .int) (nI 6).toNatClampNeg
  rw [hF, hTh] at f1 f2
  have hold : ∀ x : Nat, x < H.size → F.heap[x]? = H[x]? := fun x hx => by
    have := Jvm.Free.Multi.fill_old (T.setVm vm₁) (ca 4) (ca 0) (nI 6).toNatClampNeg (nI 12).toNatClampNeg (defaultValue .int) (a := x) (by rw [hTh]; exact hx) (nI 6).toNatClampNeg
    rw [hF, hTh] at this
    exact this
  have hrow : ∀ j : Nat, j < 6 → F.heap[H.size + 1 + j]? = some (vp_cell (ca 0) (12, .inl (fun _ => nI 0))) := fun j hj => by
    have := Jvm.Free.Multi.fill_inner (T.setVm vm₁) (ca 4) (ca 0) (nI 6).toNatClampNeg (nI 12).toNatClampNeg (defaultValue .int) (nI 6).toNatClampNeg j hj
    rw [hF, hTh] at this
    rw [this, vp_cell_i]
    show some ({ cls := ca 0, slots := Array.replicate 12 (.int 0), vm := .none } : Cell) = _
    rw [arrV_new]
    rfl
  have hout : Jvm.Free.Multi.outerC (ca 4) (nI 6).toNatClampNeg H.size (nI 6).toNatClampNeg = vp_cell (ca 4) (6, .inr (.inr (.inr (.inr (fun i => some (b + (n + 1 + i))))))) := by
    rw [vp_cell_q, vr_outer]
    refine arrV_cg (fun j hj => ?_)
    rw [if_pos hj, hsz]
    exact congrArg Value.ref (show (b + n + 1 + j : Nat) = b + (n + 1 + j) by omega)
  rw [hout] at f2
  let C1 : Nat → va_E := fun k => if k < n then C k else if k = n then .inl (ca 4, 6, .inr (.inr (.inr (.inr (fun i => some (b + (n + 1 + i))))))) else .inl (ca 0, 12, .inl (fun _ => nI 0))
  have hsz1 : F.heap.size = b + (n + 7) := by
    rw [f1]
    show H.size + 1 + 6 = _
    omega
  obtain ⟨t2, a1, b1⟩ := kk F.heap C1 (wl_P.mpr (fun k hk => by
      by_cases q : k < n
      · show va_at D classes (b + k, if k < n then _ else _) _
        rw [if_pos q]
        have h := wl_P.mp hP k q
        exact h.kept (hold _ h.lt)
      · by_cases q2 : k = n
        · show va_at D classes (b + k, if k < n then _ else if k = n then _ else _) _
          rw [if_neg q, if_pos q2, q2, ← hsz]
          exact f2
        · show va_at D classes (b + k, if k < n then _ else if k = n then _ else _) _
          rw [if_neg q, if_neg q2]
          have := hrow (k - n - 1) (by omega)
          rw [show H.size + 1 + (k - n - 1) = b + k by omega] at this
          exact this)) hsz1 (fun k hk => if_pos hk) (by show (if n < n then _ else if n = n then _ else _) = _; rw [if_neg (Nat.lt_irrefl _), if_pos rfl]) (fun i hi => by show (if _ then _ else if _ then _ else _) = _; rw [if_neg (by omega), if_neg (by omega)])
    ⟨Nat.le_trans hS.1 (by omega), fun x g1 g2 => (hold x (Nat.lt_of_lt_of_le g1 hS.1)).trans (hS.2.1 x g1 g2), hS.2.2⟩ F rfl X'
  have hst : T.heap.size = b + n := by rw [hT]; exact hsz
  refine ⟨t2, step t2 ?_, b1⟩
  rw [hst]
  exact a1
theorem xw_putF {own ref K : String} {Tf : u_T} {M ci index : Nat} {Ts : List Cond} (hexec : p.tables.exec = Jvm.exec) (hb : c.code = cc) (hts : ∀ w ∈ Ts, w.before args s = true) (hin : ∀ w ∈ u_ws K Tf M, w ∈ Ts) (ty0 : Nat → FieldType) (hty : ∀ k, k < M → parseFieldDescriptor (Tf k).2.2.1 = some (ty0 k)) (hnm : ∀ a, a < M → ∀ b, b < M → a ≠ b → (Tf a).2.1 ≠ (Tf b).2.1) (hown : s.vm.findClass own = some m.cls) (hK : va_K D classes (tysA ca) s) (hP : va_P D classes (wl b n C) H) (hA : ∀ k, k < n → A (b + k)) (hS : va_S A H0 H locs) {q : Nat} {fs : List Value} (hC : C q = .inr (ci, fs)) (hq : q < n) (hc : classes[ci]? = some (K, Tf, M)) (k : Nat) (hk : k < M) (hlink : (Cond.fieldLink own index ref (Tf k).2.1 (Tf k).2.2.1).before args s = true) (hsame : ∀ x, s.fieldFound? (Tf k).1 (Tf k).2.1 (Tf k).2.2.1 = some x → s.fieldFound? ref (Tf k).2.1 (Tf k).2.2.1 = some x) (hfin : (Tf k).2.2.2 = true) (hin2 : meth.name = "<init>") (hdecl : (Tf k).1 = own) {ty : FieldType} {v : Value} (hd : parseFieldDescriptor (Tf k).2.2.1 = some ty) (hn : narrow ty v = v) (hfit : fits ty v = true) (hl : k < fs.length) (hdg : decode cc pc = .ok (.putfield index, 3))
    (kk : ∀ (H1 : Heap) (locs1 : List Loc), va_P D classes (wl b n (va_up C q (.inr (ci, fs.set k v)))) H1 → va_S A H0 H1 locs1 → W p l e R s m args below meth c H1 locs1 cells slots Q (F0 m (pc + 3) ls rest)) : W p l e R s m args below meth c H locs cells slots Q (F0 m pc ls (v :: .ref (b + q) :: rest)) :=
  va_putF hexec hb hts hin ty0 hty hnm hown hK hP (wl_D hA) hS q (wl_at hC hq) hc k hk hlink hsame hfin hin2 hdecl hd hn hfit hl hdg (fun H1 locs1 h1 _ h3 => by
    rw [wl_set hq] at h1
    exact kk H1 locs1 h1 h3)
theorem xw_astq {k0 t0 kv ci i N' : Nat} {cA : ClassId} {r : vw_C} {vs : List Value} {f : Nat → Option Nat} (hexec : p.tables.exec = Jvm.exec) (hb : c.code = cc) (hK : va_K D classes (tysA ca) s) (hP : va_P D classes (wl b n C) H) (hA : ∀ k, k < n → A (b + k)) (hS : va_S A H0 H locs) (hC : C k0 = .inl (cA, N', .inr (.inr (.inr (.inr f))))) (hk0 : k0 < n) (ht : (tysA ca)[t0]? = some (cA, .object r.1)) (hv : C kv = .inr (ci, vs)) (hkv : kv < n) (hc : classes[ci]? = some r) (hi : i < N') (hN : N' < 2 ^ 31) (hdg : decode cc pc = .ok (.aastore, 1))
    (kk : ∀ (H1 : Heap) (locs1 : List Loc), va_P D classes (wl b n (va_up C k0 (.inl (cA, N', .inr (.inr (.inr (.inr (va_up f i (some (b + kv)))))))))) H1 → va_S A H0 H1 locs1 → W p l e R s m args below meth c H1 locs1 cells slots Q (F0 m (pc + 1) ls rest)) : W p l e R s m args below meth c H locs cells slots Q (F0 m pc ls (.ref (b + kv) :: .int (nI i) :: .ref (b + k0) :: rest)) :=
  va_astq hexec hb hK hP (wl_D hA) hS k0 t0 kv ci (wl_at hC hk0) ht (wl_at hv hkv) hc (vp_in_nI hi hN) hdg (fun H1 locs1 h1 _ h3 => by
    rw [wl_set hk0, nI_clamp (by omega)] at h1
    exact kk H1 locs1 h1 h3)
theorem nw_ret {post : (Nat → va_E) → Prop} (hexec : p.tables.exec = Jvm.exec) (hb : c.code = cc) (hr : meth.sig.returnType = none) (hlocks : meth.locks = false) (hP : va_P D classes (wl b n C) H) (hsz : H.size = b + n) (hS : va_S (fun q => b ≤ q) s.heap H locs) (hq : post C) (hdg : decode cc pc = .ok (.return_, 1)) : W p l e R s m args below meth c H locs cells slots (MQ below (nQ D b n post) args s cells slots (fun q => b ≤ q)) (F0 m pc ls []) :=
  W.vret hexec hb hr (fun t ht _ => ⟨⟨C, rfl, hq, by rw [ht]; exact hP, by rw [ht]; exact hsz⟩, hS.F ht⟩) hS.2.2 hdg
/-- what comes behind a call of a constructor -/
theorem nw_on {n1 mc ms g0 : Nat} {a : Array Value} {post : (Nat → va_E) → Prop} {st0 : List Value} (hr : va_Run p l e R s m args below meth c H locs cells slots mc ms (F0 m pc ls st0) rest (nQ D b n1 post a) (fun q => b ≤ q)) (hS : va_S (fun q => b ≤ q) H0 H locs)
    (kk : ∀ (C1 : Nat → va_E) (H1 : Heap) (locs1 : List Loc), post C1 → va_P D classes (wl b n1 C1) H1 → H1.size = b + n1 → va_S (fun q => b ≤ q) H0 H1 locs1 → W p l e R s m args below meth c H1 locs1 (cells + mc) (slots + ms) Q (F0 m (pc + 3) ls rest)) : W p l e R s m args below meth c H locs cells slots Q (F0 m pc ls st0) := by
  intro T hT X
  obtain ⟨v, st₀, t, T', L, h0, X', hL, e1, e2, ⟨⟨C1, hv, hp, hP1, hs1⟩, hF⟩, st⟩ := hr T hT X
  cases hv
  obtain ⟨t2, a1, b1⟩ := kk C1 T'.heap (locs ++ L) hp (by rw [e1]; exact hP1) (by rw [e1]; exact hs1) ⟨by rw [e1]; exact Nat.le_trans hS.1 (by rw [← h0]; exact hF.1), fun z hz hx => by rw [e1]; rw [hF.2 z (by rw [h0]; exact Nat.lt_of_lt_of_le hz hS.1) hx, h0]; exact hS.2.1 z hz hx, fun z hz => (List.mem_append.mp hz).elim (fun q => hS.2.2 z q) (fun q => hL z q)⟩ T' rfl X'
  exact ⟨t2, st t2 a1, b1⟩
/-- a constructor is called, by a plain link -/
theorem xc_I {own : String} {i : Nat} {y : MethodName} {bytes : ByteArray} {maxL nL : Nat} {kc : Cond} {rm : Room} {mc ms n1 g0 : Nat} {post : (Nat → va_E) → Prop} {lv : List (Nat × Value)}
    (hexec : p.tables.exec = Jvm.exec) (hb : c.code = cc) (hml : c.maxLocals = nL) (hown : s.vm.findClass own = some m.cls) (hts : ∀ w ∈ kc :: gw, w.before args s = true)
    (hM : Met l y (Cond.code y bytes maxL none :: gw) rm (nPc D ca b n C [.ref (b + g0)]) (nQ D b n1 post) mc ms (fun q => b ≤ q))
    (h5 : Cond.code y bytes maxL none ∈ gw) (h1 : Cond.methodLink own i y ∈ gw) (h2 : Cond.instanceMethod y ∈ gw) (h4 : Cond.initialized y.cls ∈ gw) (hy1 : y.name = "<init>")
    (hd : y.cls ≠ "java/lang/invoke/MethodHandle" ∧ y.cls ≠ "java/lang/invoke/VarHandle" ∧ (parseMethodDescriptor y.desc).map (fun d => d.parameters.length) = some 0) (hrc : rm.cells = mc) (hrs : rm.slots = ms) (hR : rm.frames + 1 ≤ R.frames ∧ 8 + (maxL + 11) + rm.locals ≤ R.locals)
    (hK : va_K D classes (tysA ca) s) (hZ : NZ s) (hP : va_P D classes (wl b n C) H) (hsz : H.size = b + n) (hl : lv_has ls nL lv) (hW : (rest.map fun v => v.category).sum ≤ 8) (hdg : decode cc pc = .ok (.invokespecial i, 3)) (hf : cells + mc ≤ R.cells ∧ slots + ms ≤ R.slots) (hS : va_S (fun q => b ≤ q) H0 H locs)
    (kk : ∀ (C1 : Nat → va_E) (H1 : Heap) (locs1 : List Loc), post C1 → va_P D classes (wl b n1 C1) H1 → H1.size = b + n1 → va_S (fun q => b ≤ q) H0 H1 locs1 → W p l e R s m args below meth c H1 locs1 (cells + mc) (slots + ms) Q (F0 m (pc + 3) ls rest)) : W p l e R s m args below meth c H locs cells slots Q (F0 m pc ls (.ref (b + g0) :: rest)) :=
  nw_on (g0 := g0) (va_runI (H := H) (locs := locs) (cells := cells) (slots := slots) (As := []) (rest := rest) (below := below) (meth := meth) (e := e) (g := F0 m pc ls (.ref (b + g0) :: rest)) ⟨hexec, hb, hml, hown, hts⟩ hM (cwI 0 hts (gi_gw h5) rfl hrc hrs (hts _ (mw h4)) (hts _ (mw h1)) (hts _ (mw h2)) hy1 hd hR) ⟨nPc_blind, fun U hU hW => ⟨rfl, by rw [hU]; exact hP, by rw [hU]; exact hsz, va_K.moved hW.alike hK, hZ.warm hW⟩⟩ rfl rfl hl.1 rfl (lv_room hW) hdg hf) hS kk
/-- a constructor of a nest mate is called -/
theorem xc_IN {own : String} {i : Nat} {y : MethodName} {bytes : ByteArray} {maxL nL : Nat} {kc : Cond} {rm : Room} {mc ms n1 g0 : Nat} {post : (Nat → va_E) → Prop} {lv : List (Nat × Value)}
    (hexec : p.tables.exec = Jvm.exec) (hb : c.code = cc) (hml : c.maxLocals = nL) (hown : s.vm.findClass own = some m.cls) (hts : ∀ w ∈ kc :: gw, w.before args s = true)
    (hM : Met l y (Cond.code y bytes maxL none :: gw) rm (nPc D ca b n C [.ref (b + g0)]) (nQ D b n1 post) mc ms (fun q => b ≤ q))
    (h5 : Cond.code y bytes maxL none ∈ gw) (h1 : va_Nw (.methodLinkNest own i y "OrderPassing") s) (h2 : Cond.instanceMethod y ∈ gw) (h4 : Cond.initialized y.cls ∈ gw) (hy1 : y.name = "<init>")
    (hd : y.cls ≠ "java/lang/invoke/MethodHandle" ∧ y.cls ≠ "java/lang/invoke/VarHandle" ∧ (parseMethodDescriptor y.desc).map (fun d => d.parameters.length) = some 0) (hrc : rm.cells = mc) (hrs : rm.slots = ms) (hR : rm.frames + 1 ≤ R.frames ∧ 8 + (maxL + 11) + rm.locals ≤ R.locals)
    (hK : va_K D classes (tysA ca) s) (hZ : NZ s) (hP : va_P D classes (wl b n C) H) (hsz : H.size = b + n) (hl : lv_has ls nL lv) (hW : (rest.map fun v => v.category).sum ≤ 8) (hdg : decode cc pc = .ok (.invokespecial i, 3)) (hf : cells + mc ≤ R.cells ∧ slots + ms ≤ R.slots) (hS : va_S (fun q => b ≤ q) H0 H locs)
    (kk : ∀ (C1 : Nat → va_E) (H1 : Heap) (locs1 : List Loc), post C1 → va_P D classes (wl b n1 C1) H1 → H1.size = b + n1 → va_S (fun q => b ≤ q) H0 H1 locs1 → W p l e R s m args below meth c H1 locs1 (cells + mc) (slots + ms) Q (F0 m (pc + 3) ls rest)) : W p l e R s m args below meth c H locs cells slots Q (F0 m pc ls (.ref (b + g0) :: rest)) :=
  nw_on (g0 := g0) (va_runIN (H := H) (locs := locs) (cells := cells) (slots := slots) (As := []) (rest := rest) (below := below) (meth := meth) (e := e) (g := F0 m pc ls (.ref (b + g0) :: rest)) ⟨hexec, hb, hml, hown, hts⟩ hM ⟨va_cnB 0 hts (gi_gw h5) rfl hrc hrs h1 (hts _ (mw h4)) hd hR, hy1, hts _ (mw h2)⟩ ⟨nPc_blind, fun U hU hW => ⟨rfl, by rw [hU]; exact hP, by rw [hU]; exact hsz, va_K.moved hW.alike hK, hZ.warm hW⟩⟩ rfl rfl hl.1 rfl (lv_room hW) hdg hf) hS kk
end NR
