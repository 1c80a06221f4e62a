/-! Passing: the phase -/
theorem gi_T {c c1 : Cond} {own : String} {i : Nat} {y : MethodName} (h : c1 ∈ gw) (h1 : Cond.methodLink own i y ∈ gw) (h2 : Cond.static y ∈ gw) (h4 : Cond.initialized y.cls ∈ gw) : GoodIn (c :: gw) (va_wsS own i y (c1 :: gw)) := by
  intro w hw
  unfold va_wsS at hw
  rcases List.mem_append.mp hw with q | q
  · have hm : w ∈ gw := by
      rcases List.mem_cons.mp q with rfl | q
      · exact h1
      rcases List.mem_cons.mp q with rfl | q
      · exact h2
      rcases List.mem_cons.mp q with rfl | q
      · exact h4
      cases q
    exact ⟨List.mem_cons_of_mem _ hm, gw_good hm⟩
  · exact gi_gw h w q
section XT2
variable {p : Program} {l : Launch} {e : Env} {R : Room} {s : State} {m : MethodId} {args : Array Value} {below : List Frame} {meth : Method} {c : Code} {H : Heap} {locs : List Loc} {cells slots : Nat} {Q : State → Prop}
variable {cc : ByteArray} {pc : Nat} {ls : Array Slot} {rest : List Value} {D : va_G} {ca : Nat → ClassId} {b N : Nat} {C : Nat → va_E} {post : Option Value → (Nat → va_E) → Prop}
/-- a call of a static method of another class, over this world -/
theorem xc_T {own : String} {i : Nat} {y : MethodName} {bytes : ByteArray} {maxL nL n : Nat} {rt : Option FieldType} {kc : Cond} {rm : Room} {As st0 : List Value} {lv : List (Nat × Value)} {A0 : Nat → Prop} {H0 : Heap}
    (hexec : p.tables.exec = Jvm.exec) (hb : c.code = cc) (hml : c.maxLocals = nL) (hown : s.vm.findClass own = some m.cls) (hts : ∀ w ∈ kc :: gw, w.before args s = true)
    (hM : Met l y (Cond.code y bytes maxL rt :: gw) rm (xPc D ca b N C As) (xQ D b N post) 0 0 (xr b N))
    (h5 : Cond.code y bytes maxL rt ∈ gw) (h1 : Cond.methodLink own i y ∈ gw) (h2 : Cond.static y ∈ gw) (h4 : Cond.initialized y.cls ∈ gw)
    (hd : y.cls ≠ "java/lang/invoke/MethodHandle" ∧ y.cls ≠ "java/lang/invoke/VarHandle" ∧ (parseMethodDescriptor y.desc).map (fun d => d.parameters.length) = some n) (hrc : rm.cells = 0) (hrs : rm.slots = 0) (hR : rm.frames + 1 ≤ R.frames ∧ 8 + (maxL + 11) + rm.locals ≤ R.locals)
    (hK : va_K D classes (tysA ca) s) (hP : va_P D classes (wl b N C) H) (hn : As.length = n) (hl : lv_has ls nL lv) (hst : st0 = As.reverse ++ rest) (hW : (rest.map fun v => v.category).sum ≤ 8) (hdg : decode cc pc = .ok (.invokestatic i, 3))
    (hcs : cells ≤ R.cells ∧ slots ≤ R.slots) (hS : va_S A0 H0 H locs) (hA : ∀ z, xr b N z → A0 z)
    (kk : ∀ (v : Option Value) (C1 : Nat → va_E) (H1 : Heap) (locs1 : List Loc), post v C1 → va_P D classes (wl b N C1) H1 → H.size ≤ H1.size → (∀ z : Nat, z < H.size → ¬ xr b N z → H1[z]? = H[z]?) → va_S A0 H0 H1 locs1 → W p l e R s m args below meth c H1 locs1 cells slots Q (F0 m (pc + 3) ls (v.toList ++ rest))) :
    W p l e R s m args below meth c H locs cells slots Q (F0 m pc ls st0) := by
  have hr := va_runS (H := H) (locs := locs) (cells := cells) (slots := slots) (As := As) (rest := rest) (below := below) (meth := meth) (e := e) (g := F0 m pc ls st0) ⟨hexec, hb, hml, hown, hts⟩ hM (va_cwS n hts (gi_T h5 h1 h2 h4) rfl hrc hrs hd hR) ⟨xPc_blind, fun U hU hW => ⟨rfl, by rw [hU]; exact hP, va_K.moved hW.alike hK⟩⟩ rfl hn hl.1 hst (lv_room hW) hdg ⟨by omega, by omega⟩
  intro T hT X
  obtain ⟨v, st₀, t, T', L, h0, X', hL, e1, e2, ⟨⟨v', C1, hv, hp, hP1⟩, hF⟩, st⟩ := hr T hT X
  cases hv
  obtain ⟨t2, a1, b1⟩ := kk v C1 T'.heap (locs ++ L) hp (by rw [e1]; exact hP1) (by rw [e1, ← h0]; exact hF.1) (fun z hz hx => by rw [e1, ← h0]; exact hF.2 z (by rw [h0]; exact hz) hx) ⟨by rw [e1]; exact Nat.le_trans hS.1 (by rw [← h0]; exact hF.1), fun z hz hx => by rw [e1]; rw [hF.2 z (by rw [h0]; exact Nat.lt_of_lt_of_le hz hS.1) (fun q => hx (hA z q)), h0]; exact hS.2.1 z hz hx, fun z hz => (List.mem_append.mp hz).elim (fun q => hS.2.2 z q) (fun q => hA _ (hL z q))⟩ T' rfl X'
  exact ⟨t2, st t2 a1, b1⟩
end XT2
def clrO (n : Nat) (f : Nat → Option Nat) : Nat → Option Nat := fun k => if k < n then none else f k
theorem clrO_0 (f : Nat → Option Nat) : clrO 0 f = f := by funext k; simp [clrO]
theorem clrO_s (n : Nat) (f : Nat → Option Nat) : va_up (clrO n f) n none = clrO (n + 1) f := by
  funext k
  by_cases q : k = n
  · subst q; rw [va_up_self]; simp [clrO]
  · rw [va_up_ne _ _ q]
    by_cases q2 : k < n
    · simp [clrO, q2, show k < n + 1 by omega]
    · simp [clrO, q2, show ¬ k < n + 1 by omega]
def mI (od : Nat → Nat) (im : Nat → Bool) (S : Nat → Nat → Nat) (y hm : Nat) (I : Nat → Nat) : Nat → (Nat → Nat) × Nat
  | 0 => (I, 1)
  | j + 1 => if im (od (hm + j)) = true then (va_up (mI od im S y hm I j).1 (od (hm + j)) ((mI od im S y hm I j).1 (od (hm + j)) + S (od (hm + j)) y), (mI od im S y hm I j).2 * ((mI od im S y hm I j).1 (od (hm + j)) + S (od (hm + j)) y)) else mI od im S y hm I j
theorem mI_t {od : Nat → Nat} {im : Nat → Bool} {S : Nat → Nat → Nat} {y hm j : Nat} {I : Nat → Nat} (h : im (od (hm + j)) = true) : mI od im S y hm I (j + 1) = (va_up (mI od im S y hm I j).1 (od (hm + j)) ((mI od im S y hm I j).1 (od (hm + j)) + S (od (hm + j)) y), (mI od im S y hm I j).2 * ((mI od im S y hm I j).1 (od (hm + j)) + S (od (hm + j)) y)) := if_pos h
theorem mI_f {od : Nat → Nat} {im : Nat → Bool} {S : Nat → Nat → Nat} {y hm j : Nat} {I : Nat → Nat} (h : im (od (hm + j)) = false) : mI od im S y hm I (j + 1) = mI od im S y hm I j := if_neg (by rw [h]; simp)
def adP (P : Nat → Nat) (f n v : Nat) : Nat → Nat := fun y => if f ≤ y ∧ y < f + n then P y + v else P y
theorem adP_0 (P : Nat → Nat) (f v : Nat) : adP P f 0 v = P := by
  funext y; unfold adP; rw [if_neg (by omega)]
theorem adP_at (P : Nat → Nat) (f n v : Nat) : adP P f n v (f + n) = P (f + n) := by unfold adP; rw [if_neg (by omega)]
theorem adP_s (P : Nat → Nat) (f n v : Nat) : va_up (adP P f n v) (f + n) (P (f + n) + v) = adP P f (n + 1) v := by
  funext y
  by_cases q : y = f + n
  · subst q; rw [va_up_self]; unfold adP; rw [if_pos (by omega)]
  · rw [va_up_ne _ _ q]; unfold adP
    by_cases q2 : f ≤ y ∧ y < f + n
    · rw [if_pos q2, if_pos (by omega)]
    · rw [if_neg q2, if_neg (by omega)]
def opB (fb : Nat → Option Nat) (w y : Nat) : Prop := fb w = none ∨ fb w = some y
def Z0 : Nat → Nat := fun _ => 0
abbrev Q3 : Type := (Nat → Nat) × (Nat → Nat) × Nat
noncomputable def sBi (od : Nat → Nat) (im : Nat → Bool) (S : Nat → Nat → Nat) (hm n : Nat) (fb : Nat → Option Nat) (f : Nat) (q : Q3) : Nat → Q3
  | 0 => q
  | t + 1 => if fb 1 = none ∨ fb 1 = some (f + t) then ((mI od im S (f + t) hm (sBi od im S hm n fb f q t).1 n).1, adP (sBi od im S hm n fb f q t).2.1 f (t + 1) (mI od im S (f + t) hm (sBi od im S hm n fb f q t).1 n).2, (sBi od im S hm n fb f q t).2.2 + (mI od im S (f + t) hm (sBi od im S hm n fb f q t).1 n).2)
    else ((mI od im S (f + t) hm (sBi od im S hm n fb f q t).1 n).1, (sBi od im S hm n fb f q t).2.1, (sBi od im S hm n fb f q t).2.2)
noncomputable def sBo (od : Nat → Nat) (im : Nat → Bool) (S : Nat → Nat → Nat) (hm n : Nat) (fb : Nat → Option Nat) (q : Q3) : Nat → Q3
  | 0 => q
  | f + 1 => if fb 0 = none ∨ fb 0 = some f then sBi od im S hm n fb f (upto 6 Z0 (sBo od im S hm n fb q f).1, (sBo od im S hm n fb q f).2.1, (sBo od im S hm n fb q f).2.2) (12 - f) else sBo od im S hm n fb q f
def anyU (od : Nat → Nat) (im : Nat → Bool) : Nat → Bool
  | 0 => false
  | i + 1 => if im (od i) = true then true else anyU od im i
def mhU (od : Nat → Nat) (im : Nat → Bool) (hm : Nat) : Nat → Option Nat
  | 0 => none
  | i + 1 => if im (od i) = true then (if i < hm then some (od i) else mhU od im hm i) else mhU od im hm i
theorem anyU_t {od : Nat → Nat} {im : Nat → Bool} {i : Nat} (h : im (od i) = true) : anyU od im (i + 1) = true := if_pos h
theorem anyU_f {od : Nat → Nat} {im : Nat → Bool} {i : Nat} (h : im (od i) = false) : anyU od im (i + 1) = anyU od im i := if_neg (by rw [h]; simp)
theorem mhU_f {od : Nat → Nat} {im : Nat → Bool} {hm i : Nat} (h : im (od i) = false) : mhU od im hm (i + 1) = mhU od im hm i := if_neg (by rw [h]; simp)
theorem mhU_h {od : Nat → Nat} {im : Nat → Bool} {hm i : Nat} (h : im (od i) = true) (h2 : i < hm) : mhU od im hm (i + 1) = some (od i) := by
  show (if im (od i) = true then (if i < hm then some (od i) else mhU od im hm i) else mhU od im hm i) = _
  rw [if_pos h, if_pos h2]
theorem mhU_o {od : Nat → Nat} {im : Nat → Bool} {hm i : Nat} (h : im (od i) = true) (h2 : hm ≤ i) : mhU od im hm (i + 1) = mhU od im hm i := by
  show (if im (od i) = true then (if i < hm then some (od i) else mhU od im hm i) else mhU od im hm i) = _
  rw [if_pos h, if_neg (by omega)]
theorem mhU_lt {od : Nat → Nat} {im : Nat → Bool} {hm n : Nat} (h : ∀ j, j < n → od j < 6) : ∀ i, i ≤ n → ∀ d, mhU od im hm i = some d → d < 6 := by
  intro i
  induction i with
  | zero => intro _ d hd; cases hd
  | succ i ih =>
    intro hi d hd
    cases q : im (od i) with
    | false => rw [mhU_f q] at hd; exact ih (by omega) d hd
    | true =>
      by_cases q2 : i < hm
      · rw [mhU_h q q2] at hd; cases hd; exact h i (by omega)
      · rw [mhU_o q (by omega)] at hd; exact ih (by omega) d hd
/-- the phase: what becomes of the sums and of the factor -/
noncomputable def pPh (od : Nat → Nat) (im : Nat → Bool) (hm qd : Nat) (fb : Nat → Option Nat) (I P : Nat → Nat) (q : (Nat → Nat → Nat) × Nat) : (Nat → Nat → Nat) × Nat :=
  if anyU od im qd = true then
    (match mhU od im hm qd with
    | none => (q.1, q.2 * (sBo od im q.1 hm (qd - hm) fb (I, upto 12 Z0 P, 0) 12).2.2)
    | some d => (rowS q.1 d 12 (fun y => q.1 d y * (sBo od im q.1 hm (qd - hm) fb (I, upto 12 Z0 P, 0) 12).2.1 y), q.2))
  else q
set_option maxHeartbeats 4000000 in
set_option maxRecDepth 100000 in
/-- fill with NONE -/
theorem c_AR_fill_fy (l : Launch) (D : va_G) (ca : Nat → ClassId) (b : Nat) (C0 : Nat → va_E) {wt : Nat → Nat → Nat} {ab : Nat → Nat} {be : Nat → Nat} {nd : Nat} {fr : Nat → Nat} {tt : Nat → Option Nat} {le : Nat → Nat} {mo : Nat → Nat} {nf : Nat → Bool} {tr : Nat → Nat} {nt : Nat} {nm : Nat} {fy : Nat → Option Nat} {fb : Nat → Option Nat} {od : Nat → Nat} {pa : Nat → Option Nat} {rp : Nat → Option Nat} {se : Nat → Bool} {im : Nat → Bool} {qd : Nat} {hm : Nat} {S : Nat → Nat → Nat} {I : Nat → Nat} {P : Nat → Nat} {pt : Nat} {ap : Nat} {fa : Nat} {wh : Nat} {st : Nat}  (hX : XS ca b C0 wt ab be nd fr tt le mo nf tr nt nm fy fb od pa rp se im qd hm (gvOf S I P pt ap fa wh st))  : Met l y_AR_fill (k_AR_fill :: gw) ({ frames := 1, cells := 0, slots := 0, locals := 12 }) (xPc D ca b 219 C0 [.ref (b + 28), .int ((-1))]) (xQ D b 219 (fun r C1 => r = none ∧ XS ca b C1 wt ab be nd fr tt le mo nf tr nt nm (clrO 6 fy) fb od pa rp se im qd hm (gvOf S I P pt ap fa wh st))) 0 0 (xr b 219) := by
  refine Met.ofW (cc := b_AR_fill) (maxL := 4) (ret := none) (by decide) rfl ?_
  intro p e s m args below meth c s₁ B hml hv
  obtain ⟨hav, hP, hK⟩ := hv
  have hx := B.exec
  have hb := B.bytes
  have hr := B.returns
  have hts := atoms_spec (ws := k_AR_fill :: gw) B.pre
  have hown : s.vm.findClass R_AR = some m.cls := findClass_of_methodNamed B.named
  have hlocks := B.notSynchronized
  have hA : ∀ k, k < 219 → xr b 219 (b + k) := xr_in
  have hS : va_S (xr b 219) s.heap s.heap [] := va_S.rf
  have hl := lv_entry ([.ref (b + 28), .int ((-1))]) (n := 4) (Nat.le_of_ble_eq_true rfl)
  rw [hav, lg_entry_eq]
  generalize (lg_sl ([.ref (b + 28), .int ((-1))]) ++ List.replicate (4 - (lg_sl ([.ref (b + 28), .int ((-1))])).length) Slot.unset).toArray = ls at hl ⊢
  have hl : lv_has ls 4 [(0, .ref (b + 28)), (1, .int ((-1)))] := hl
  rw [← hav]
  refine lv_iconst (v := nI 0) hx hb d_AR_fill_0 (by decide) ?_
  refine lv_istore_n (lv' := [(2, .int (nI 0)), (0, .ref (b + 28)), (1, .int ((-1)))]) hx hb d_AR_fill_1 rfl hl (by decide) rfl (fun ls hl => ?_)
  refine lv_aload_n hx hb d_AR_fill_2 rfl (lv_at hl 1 rfl) ?_
  refine va_alen (v := nI 6) hx hb hK hP 28 0 (wl_at (XS_28 hX) (by decide)) rfl rfl d_AR_fill_3 ?_
  refine lv_istore_n (lv' := [(3, .int (nI 6)), (2, .int (nI 0)), (0, .ref (b + 28)), (1, .int ((-1)))]) hx hb d_AR_fill_4 rfl hl (by decide) rfl (fun ls hl => ?_)
  have loop5 : ∀ (r : Nat) (i : Nat) (C : Nat → va_E) (H : Heap) (locs : List Loc) (ls : Array Slot), 6 < i + r → i ≤ 6 → va_P D classes (wl b 219 C) H → va_S (xr b 219) s.heap H locs → XS ca b C wt ab be nd fr tt le mo nf tr nt nm (clrO i fy) fb od pa rp se im qd hm (gvOf S I P pt ap fa wh st) → lv_has ls 4 [(0, .ref (b + 28)), (1, .int ((-1))), (2, .int (nI i)), (3, .int (nI 6))] → W p l e (headSpec (k_AR_fill :: gw) ({ frames := 1, cells := 0, slots := 0, locals := 12 })).room s m args below meth c H locs 0 0 (MQ below (xQ D b 219 (fun r C1 => r = none ∧ XS ca b C1 wt ab be nd fr tt le mo nf tr nt nm (clrO 6 fy) fb od pa rp se im qd hm (gvOf S I P pt ap fa wh st))) args s 0 0 (xr b 219)) (F0 m 5 ls []) := by
    intro r
    induction r with
    | zero => intro i C H locs ls hms hi; exact absurd hms (by omega)
    | succ r ih5 =>
      intro i C H locs ls hms hi hP hS hX hl
      refine lv_iload_n hx hb d_AR_fill_5 rfl (lv_at hl 2 rfl) ?_
      refine lv_iload_n hx hb d_AR_fill_6 rfl (lv_at hl 3 rfl) ?_
      refine xi_ge (tgt := 20) hx hb d_AR_fill_7 (by decide) (by omega) (by omega) (fun h7 => ?_) (fun h7 => ?_)
      · skip
        have ei : i = 6 := by omega
        rw [ei] at hX
        exact xw_vret hx hb hr hlocks hP hS ⟨rfl, hX⟩ d_AR_fill_20
      · skip
        refine lv_aload_n hx hb d_AR_fill_10 rfl (lv_at hl 0 rfl) ?_
        refine lv_iload_n hx hb d_AR_fill_11 rfl (lv_at hl 2 rfl) ?_
        refine lv_iload_n hx hb d_AR_fill_12 rfl (lv_at hl 1 rfl) ?_
        refine xw_iast hx hb hK hP hA hS 0 (XS_28 hX) (by decide) rfl (by omega) (by decide) d_AR_fill_13 (fun H locs hP hS => ?_)
        have hX := XS_set_fy (j := i) (x := none) hX
        rw [show eo none = -1 from rfl] at hX
        generalize va_up _ 28 _ = C at hP hX
        refine lv_iinc (v := nI (i + 1)) (lv' := [(2, .int (nI (i + 1))), (0, .ref (b + 28)), (1, .int ((-1))), (3, .int (nI 6))]) hx hb d_AR_fill_14 hl (k := 2) rfl (show nI i + Int32.ofInt 1 = nI (i + 1) from nI_add _ _) (by decide) rfl (fun ls hl => ?_)
        refine lv_goto (tgt := 5) hx hb d_AR_fill_17 (by decide) ?_
        rw [clrO_s] at hX
        exact ih5 (i + 1) _ _ _ _ (by omega) (by omega) hP hS hX (lv_sub hl [1, 2, 0, 3] rfl)
  rw [← clrO_0 fy] at hX
  exact loop5 7 0 _ _ _ _ (by omega) (by omega) hP hS hX (lv_sub hl [2, 3, 1, 0] rfl)

set_option maxHeartbeats 4000000 in
set_option maxRecDepth 100000 in
/-- fill with NONE -/
theorem c_AR_fill_fb (l : Launch) (D : va_G) (ca : Nat → ClassId) (b : Nat) (C0 : Nat → va_E) {wt : Nat → Nat → Nat} {ab : Nat → Nat} {be : Nat → Nat} {nd : Nat} {fr : Nat → Nat} {tt : Nat → Option Nat} {le : Nat → Nat} {mo : Nat → Nat} {nf : Nat → Bool} {tr : Nat → Nat} {nt : Nat} {nm : Nat} {fy : Nat → Option Nat} {fb : Nat → Option Nat} {od : Nat → Nat} {pa : Nat → Option Nat} {rp : Nat → Option Nat} {se : Nat → Bool} {im : Nat → Bool} {qd : Nat} {hm : Nat} {S : Nat → Nat → Nat} {I : Nat → Nat} {P : Nat → Nat} {pt : Nat} {ap : Nat} {fa : Nat} {wh : Nat} {st : Nat}  (hX : XS ca b C0 wt ab be nd fr tt le mo nf tr nt nm fy fb od pa rp se im qd hm (gvOf S I P pt ap fa wh st))  : Met l y_AR_fill (k_AR_fill :: gw) ({ frames := 1, cells := 0, slots := 0, locals := 12 }) (xPc D ca b 219 C0 [.ref (b + 29), .int ((-1))]) (xQ D b 219 (fun r C1 => r = none ∧ XS ca b C1 wt ab be nd fr tt le mo nf tr nt nm fy (clrO 2 fb) od pa rp se im qd hm (gvOf S I P pt ap fa wh st))) 0 0 (xr b 219) := by
  refine Met.ofW (cc := b_AR_fill) (maxL := 4) (ret := none) (by decide) rfl ?_
  intro p e s m args below meth c s₁ B hml hv
  obtain ⟨hav, hP, hK⟩ := hv
  have hx := B.exec
  have hb := B.bytes
  have hr := B.returns
  have hts := atoms_spec (ws := k_AR_fill :: gw) B.pre
  have hown : s.vm.findClass R_AR = some m.cls := findClass_of_methodNamed B.named
  have hlocks := B.notSynchronized
  have hA : ∀ k, k < 219 → xr b 219 (b + k) := xr_in
  have hS : va_S (xr b 219) s.heap s.heap [] := va_S.rf
  have hl := lv_entry ([.ref (b + 29), .int ((-1))]) (n := 4) (Nat.le_of_ble_eq_true rfl)
  rw [hav, lg_entry_eq]
  generalize (lg_sl ([.ref (b + 29), .int ((-1))]) ++ List.replicate (4 - (lg_sl ([.ref (b + 29), .int ((-1))])).length) Slot.unset).toArray = ls at hl ⊢
  have hl : lv_has ls 4 [(0, .ref (b + 29)), (1, .int ((-1)))] := hl
  rw [← hav]
  refine lv_iconst (v := nI 0) hx hb d_AR_fill_0 (by decide) ?_
  refine lv_istore_n (lv' := [(2, .int (nI 0)), (0, .ref (b + 29)), (1, .int ((-1)))]) hx hb d_AR_fill_1 rfl hl (by decide) rfl (fun ls hl => ?_)
  refine lv_aload_n hx hb d_AR_fill_2 rfl (lv_at hl 1 rfl) ?_
  refine va_alen (v := nI 2) hx hb hK hP 29 0 (wl_at (XS_29 hX) (by decide)) rfl rfl d_AR_fill_3 ?_
  refine lv_istore_n (lv' := [(3, .int (nI 2)), (2, .int (nI 0)), (0, .ref (b + 29)), (1, .int ((-1)))]) hx hb d_AR_fill_4 rfl hl (by decide) rfl (fun ls hl => ?_)
  have loop5 : ∀ (r : Nat) (i : Nat) (C : Nat → va_E) (H : Heap) (locs : List Loc) (ls : Array Slot), 2 < i + r → i ≤ 2 → va_P D classes (wl b 219 C) H → va_S (xr b 219) s.heap H locs → XS ca b C wt ab be nd fr tt le mo nf tr nt nm fy (clrO i fb) od pa rp se im qd hm (gvOf S I P pt ap fa wh st) → lv_has ls 4 [(0, .ref (b + 29)), (1, .int ((-1))), (2, .int (nI i)), (3, .int (nI 2))] → W p l e (headSpec (k_AR_fill :: gw) ({ frames := 1, cells := 0, slots := 0, locals := 12 })).room s m args below meth c H locs 0 0 (MQ below (xQ D b 219 (fun r C1 => r = none ∧ XS ca b C1 wt ab be nd fr tt le mo nf tr nt nm fy (clrO 2 fb) od pa rp se im qd hm (gvOf S I P pt ap fa wh st))) args s 0 0 (xr b 219)) (F0 m 5 ls []) := by
    intro r
    induction r with
    | zero => intro i C H locs ls hms hi; exact absurd hms (by omega)
    | succ r ih5 =>
      intro i C H locs ls hms hi hP hS hX hl
      refine lv_iload_n hx hb d_AR_fill_5 rfl (lv_at hl 2 rfl) ?_
      refine lv_iload_n hx hb d_AR_fill_6 rfl (lv_at hl 3 rfl) ?_
      refine xi_ge (tgt := 20) hx hb d_AR_fill_7 (by decide) (by omega) (by omega) (fun h7 => ?_) (fun h7 => ?_)
      · skip
        have ei : i = 2 := by omega
        rw [ei] at hX
        exact xw_vret hx hb hr hlocks hP hS ⟨rfl, hX⟩ d_AR_fill_20
      · skip
        refine lv_aload_n hx hb d_AR_fill_10 rfl (lv_at hl 0 rfl) ?_
        refine lv_iload_n hx hb d_AR_fill_11 rfl (lv_at hl 2 rfl) ?_
        refine lv_iload_n hx hb d_AR_fill_12 rfl (lv_at hl 1 rfl) ?_
        refine xw_iast hx hb hK hP hA hS 0 (XS_29 hX) (by decide) rfl (by omega) (by decide) d_AR_fill_13 (fun H locs hP hS => ?_)
        have hX := XS_set_fb (j := i) (x := none) hX
        rw [show eo none = -1 from rfl] at hX
        generalize va_up _ 29 _ = C at hP hX
        refine lv_iinc (v := nI (i + 1)) (lv' := [(2, .int (nI (i + 1))), (0, .ref (b + 29)), (1, .int ((-1))), (3, .int (nI 2))]) hx hb d_AR_fill_14 hl (k := 2) rfl (show nI i + Int32.ofInt 1 = nI (i + 1) from nI_add _ _) (by decide) rfl (fun ls hl => ?_)
        refine lv_goto (tgt := 5) hx hb d_AR_fill_17 (by decide) ?_
        rw [clrO_s] at hX
        exact ih5 (i + 1) _ _ _ _ (by omega) (by omega) hP hS hX (lv_sub hl [1, 2, 0, 3] rfl)
  rw [← clrO_0 fb] at hX
  exact loop5 3 0 _ _ _ _ (by omega) (by omega) hP hS hX (lv_sub hl [2, 3, 1, 0] rfl)

set_option maxHeartbeats 4000000 in
set_option maxRecDepth 100000 in
/-- what lies inside grows by a year -/
theorem c_PA_multiplyInside (l : Launch) (D : va_G) (ca : Nat → ClassId) (b : Nat) (C0 : Nat → va_E) {wt : Nat → Nat → Nat} {ab : Nat → Nat} {be : Nat → Nat} {nd : Nat} {fr : Nat → Nat} {tt : Nat → Option Nat} {le : Nat → Nat} {mo : Nat → Nat} {nf : Nat → Bool} {tr : Nat → Nat} {nt : Nat} {nm : Nat} {fy : Nat → Option Nat} {fb : Nat → Option Nat} {od : Nat → Nat} {pa : Nat → Option Nat} {rp : Nat → Option Nat} {se : Nat → Bool} {im : Nat → Bool} {qd : Nat} {hm : Nat} {S : Nat → Nat → Nat} {I : Nat → Nat} {P : Nat → Nat} {pt : Nat} {ap : Nat} {fa : Nat} {wh : Nat} {st : Nat} (y : Nat) (hX : XS ca b C0 wt ab be nd fr tt le mo nf tr nt nm fy fb od pa rp se im qd hm (gvOf S I P pt ap fa wh st)) (hy : y < 12) (hq6 : qd ≤ 6) (hhq : hm ≤ qd) (hod : ∀ j, j < qd → od j < 6) : Met l y_PA_multiplyInside (k_PA_multiplyInside :: gw) ({ frames := 2, cells := 0, slots := 0, locals := 60 }) (xPc D ca b 219 C0 [.ref (b + 18), .int (nI y)]) (xQ D b 219 (fun r C1 => r = none ∧ XS ca b C1 wt ab be nd fr tt le mo nf tr nt nm fy fb od pa rp se im qd hm (gvOf S ((mI od im S y hm I (qd - hm)).1) P ((mI od im S y hm I (qd - hm)).2) ap fa wh st))) 0 0 (xr b 219) := by
  refine Met.ofW (cc := b_PA_multiplyInside) (maxL := 4) (ret := none) (by decide) rfl ?_
  intro p e s m args below meth c s₁ B hml hv
  obtain ⟨hav, hP, hK⟩ := hv
  have hx := B.exec
  have hb := B.bytes
  have hr := B.returns
  have hts := atoms_spec (ws := k_PA_multiplyInside :: gw) B.pre
  have hown : s.vm.findClass R_PA = some m.cls := findClass_of_methodNamed B.named
  have hlocks := B.notSynchronized
  have hA : ∀ k, k < 219 → xr b 219 (b + k) := xr_in
  have hS : va_S (xr b 219) s.heap s.heap [] := va_S.rf
  have hl := lv_entry ([.ref (b + 18), .int (nI y)]) (n := 4) (Nat.le_of_ble_eq_true rfl)
  rw [hav, lg_entry_eq]
  generalize (lg_sl ([.ref (b + 18), .int (nI y)]) ++ List.replicate (4 - (lg_sl ([.ref (b + 18), .int (nI y)])).length) Slot.unset).toArray = ls at hl ⊢
  have hl : lv_has ls 4 [(0, .ref (b + 18)), (1, .int (nI y))] := hl
  rw [← hav]
  refine lv_aload_n hx hb d_PA_multiplyInside_0 rfl (lv_at hl 0 rfl) ?_
  refine xw_get (v := .ref (b + 22)) hx hb hts (fun w h => mw (uw_PA w h)) hown hK hP (XS_18 hX) (by decide) rfl 3 (by decide) (hts _ (mw tb_104)) (fun _ h => h) rfl d_PA_multiplyInside_1 ?_
  refine lv_iconst (v := nI 1) hx hb d_PA_multiplyInside_4 (by decide) ?_
  have hgi1 : gid 22 := (by unfold gid; decide)
  obtain ⟨ga1, gn1, hga1, hgb1, hgc1⟩ := XS_g hX 22 hgi1
  rw [gv_pt] at hgc1
  refine xc_V (n := 1) (As := [.int (nI 1)]) (rest := []) (st0 := _) hx hb hml hown hts (c_GR_set l D ca b 219 _ 22 gn1 _ ga1 1 hga1 hgb1 (by unfold gid at hgi1; omega) hgc1 (by decide)) km_GR_set tb_202 tb_178 tb_179 tb_5 (by decide +kernel) rfl rfl ⟨Nat.le_of_ble_eq_true rfl, Nat.le_of_ble_eq_true rfl⟩ hK hP hga1 (by unfold gid at hgi1; omega) rfl rfl rfl hl rfl (Nat.le_of_ble_eq_true rfl) d_PA_multiplyInside_5 ⟨Nat.zero_le _, Nat.zero_le _⟩ hS (fun _ h => h) (fun v C H locs hp hP _ _ hS => ?_)
  obtain ⟨rfl, hG1, hG2⟩ := hp
  have hX := XS_set_gv hX hgi1 hG1 hG2
  have hX := gs_pt hX
  refine lv_aload_n hx hb d_PA_multiplyInside_8 rfl (lv_at hl 0 rfl) ?_
  refine xw_get (v := .int (nI hm)) hx hb hts (fun w h => mw (uw_PA w h)) hown hK hP (XS_18 hX) (by decide) rfl 14 (by decide) (hts _ (mw tb_115)) (fun _ h => h) rfl d_PA_multiplyInside_9 ?_
  refine lv_istore_n (lv' := [(2, .int (nI hm)), (0, .ref (b + 18)), (1, .int (nI y))]) hx hb d_PA_multiplyInside_12 rfl hl (by decide) rfl (fun ls hl => ?_)
  have loop13 : ∀ (r : Nat) (j : Nat) (C : Nat → va_E) (H : Heap) (locs : List Loc) (ls : Array Slot), qd < hm + j + r → hm + j ≤ qd → va_P D classes (wl b 219 C) H → va_S (xr b 219) s.heap H locs → XS ca b C wt ab be nd fr tt le mo nf tr nt nm fy fb od pa rp se im qd hm (gvOf S ((mI od im S y hm I j).1) P ((mI od im S y hm I j).2) ap fa wh st) → lv_has ls 4 [(0, .ref (b + 18)), (1, .int (nI y)), (2, .int (nI (hm + j)))] → W p l e (headSpec (k_PA_multiplyInside :: gw) ({ frames := 2, cells := 0, slots := 0, locals := 60 })).room s m args below meth c H locs 0 0 (MQ below (xQ D b 219 (fun r C1 => r = none ∧ XS ca b C1 wt ab be nd fr tt le mo nf tr nt nm fy fb od pa rp se im qd hm (gvOf S ((mI od im S y hm I (qd - hm)).1) P ((mI od im S y hm I (qd - hm)).2) ap fa wh st))) args s 0 0 (xr b 219)) (F0 m 13 ls []) := by
    intro r
    induction r with
    | zero => intro j C H locs ls hms hj; exact absurd hms (by omega)
    | succ r ih13 =>
      intro j C H locs ls hms hj hP hS hX hl
      refine lv_iload_n hx hb d_PA_multiplyInside_13 rfl (lv_at hl 2 rfl) ?_
      refine lv_aload_n hx hb d_PA_multiplyInside_14 rfl (lv_at hl 0 rfl) ?_
      refine xw_get (v := .int (nI qd)) hx hb hts (fun w h => mw (uw_PA w h)) hown hK hP (XS_18 hX) (by decide) rfl 13 (by decide) (hts _ (mw tb_114)) (fun _ h => h) rfl d_PA_multiplyInside_15 ?_
      refine xi_ge (tgt := 71) hx hb d_PA_multiplyInside_18 (by decide) (by omega) (by omega) (fun h18 => ?_) (fun h18 => ?_)
      · skip
        have ej : j = qd - hm := by omega
        rw [ej] at hX
        exact xw_vret hx hb hr hlocks hP hS ⟨rfl, hX⟩ d_PA_multiplyInside_71
      · skip
        have hdj : od (hm + j) < 6 := hod _ (by omega)
        refine lv_aload_n hx hb d_PA_multiplyInside_21 rfl (lv_at hl 0 rfl) ?_
        refine xw_get (v := .ref (b + 30)) hx hb hts (fun w h => mw (uw_PA w h)) hown hK hP (XS_18 hX) (by decide) rfl 8 (by decide) (hts _ (mw tb_109)) (fun _ h => h) rfl d_PA_multiplyInside_22 ?_
        refine lv_iload_n hx hb d_PA_multiplyInside_25 rfl (lv_at hl 2 rfl) ?_
        refine xw_iald hx hb hK hP 0 (XS_30 hX) (by decide) rfl (by omega) (by decide) d_PA_multiplyInside_26 ?_
        refine lv_istore_n (lv' := [(3, .int (nI (od (hm + j)))), (0, .ref (b + 18)), (1, .int (nI y)), (2, .int (nI (hm + j)))]) hx hb d_PA_multiplyInside_27 rfl hl (by decide) rfl (fun ls hl => ?_)
        refine lv_aload_n hx hb d_PA_multiplyInside_28 rfl (lv_at hl 1 rfl) ?_
        refine xw_get (v := .ref (b + 34)) hx hb hts (fun w h => mw (uw_PA w h)) hown hK hP (XS_18 hX) (by decide) rfl 12 (by decide) (hts _ (mw tb_113)) (fun _ h => h) rfl d_PA_multiplyInside_29 ?_
        refine lv_iload_n hx hb d_PA_multiplyInside_32 rfl (lv_at hl 0 rfl) ?_
        refine xw_zald hx hb hK hP 2 (XS_34 hX) (by decide) rfl hdj (by decide) d_PA_multiplyInside_33 ?_
        refine xz_eq (tgt := 65) hx hb d_PA_multiplyInside_34 (by decide) (tn31 _) (fun h34 => ?_) (fun h34 => ?_)
        · skip
          rw [show mI od im S y hm I j = mI od im S y hm I (j + 1) from (mI_f (bf h34)).symm] at hX
          refine lv_iinc (v := nI (hm + j + 1)) (lv' := [(2, .int (nI (hm + j + 1))), (3, .int (nI (od (hm + j)))), (0, .ref (b + 18)), (1, .int (nI y))]) hx hb d_PA_multiplyInside_65 hl (k := 3) rfl (show nI (hm + j) + Int32.ofInt 1 = nI (hm + j + 1) from nI_add _ _) (by decide) rfl (fun ls hl => ?_)
          refine lv_goto (tgt := 13) hx hb d_PA_multiplyInside_68 (by decide) ?_
          exact ih13 (j + 1) _ _ _ _ (by omega) (by omega) hP hS hX (lv_sub hl [2, 3, 0] rfl)
        · skip
          refine lv_aload_n hx hb d_PA_multiplyInside_37 rfl (lv_at hl 1 rfl) ?_
          refine xw_get (v := .ref (b + 20)) hx hb hts (fun w h => mw (uw_PA w h)) hown hK hP (XS_18 hX) (by decide) rfl 1 (by decide) (hts _ (mw tb_102)) (fun _ h => h) rfl d_PA_multiplyInside_38 ?_
          refine lv_iload_n hx hb d_PA_multiplyInside_41 rfl (lv_at hl 0 rfl) ?_
          refine xw_aald (q := b + (179 + 2 * (od (hm + j)))) hx hb hK hP 3 (XS_20 hX) (by decide) rfl hdj (by decide) rfl d_PA_multiplyInside_42 ?_
          refine lv_aload_n hx hb d_PA_multiplyInside_43 rfl (lv_at hl 1 rfl) ?_
          refine lv_iload_n hx hb d_PA_multiplyInside_44 rfl (lv_at hl 0 rfl) ?_
          refine lv_iload_n hx hb d_PA_multiplyInside_45 rfl (lv_at hl 2 rfl) ?_
          refine xc_V (n := 2) (As := [.int (nI (od (hm + j))), .int (nI y)]) (rest := [.ref (b + (179 + 2 * (od (hm + j))))]) (st0 := _) hx hb hml hown hts (c_PA_sumAt l D ca b _ (od (hm + j)) y hX (by omega) (by omega)) km_PA_sumAt tb_194 tb_195 tb_196 tb_4 (by decide +kernel) rfl rfl ⟨Nat.le_of_ble_eq_true rfl, Nat.le_of_ble_eq_true rfl⟩ hK hP (XS_18 hX) (by decide) rfl rfl rfl hl rfl (Nat.le_of_ble_eq_true rfl) d_PA_multiplyInside_46 ⟨Nat.zero_le _, Nat.zero_le _⟩ hS (fun _ h => h) (fun v C H locs hp hP _ _ hS => ?_)
          obtain ⟨rfl, hX⟩ := hp
          have hgi2 : gid ((179 + 2 * (od (hm + j)))) := (by unfold gid; omega)
          obtain ⟨ga2, gn2, hga2, hgb2, hgc2⟩ := XS_g hX ((179 + 2 * (od (hm + j)))) hgi2
          rw [gv_I (by omega)] at hgc2
          have hoi2 : gid ((35 + 2 * ((od (hm + j)) * 12 + y))) := (by unfold gid; omega)
          obtain ⟨oa2, on2, hoa2, hob2, hoc2⟩ := XS_g hX ((35 + 2 * ((od (hm + j)) * 12 + y))) hoi2
          rw [gv_S (by omega) (by omega)] at hoc2
          have hne2 : ((179 + 2 * (od (hm + j)))) ≠ ((35 + 2 * ((od (hm + j)) * 12 + y))) := by omega
          refine xc_V (n := 1) (As := [.ref (b + (35 + 2 * ((od (hm + j)) * 12 + y)))]) (rest := []) (st0 := _) hx hb hml hown hts (c_GR_add l D ca b 219 _ ((179 + 2 * (od (hm + j)))) ((35 + 2 * ((od (hm + j)) * 12 + y))) gn2 _ on2 _ ga2 oa2 hga2 hgb2 hoa2 hob2 (by unfold gid at hgi2; omega) (by unfold gid at hoi2; omega) ⟨hne2, by unfold gid at hgi2 hoi2; omega, by unfold gid at hgi2 hoi2; omega⟩ hgc2 hoc2) km_GR_add tb_253 tb_254 tb_255 tb_5 (by decide +kernel) rfl rfl ⟨Nat.le_of_ble_eq_true rfl, Nat.le_of_ble_eq_true rfl⟩ hK hP hga2 (by unfold gid at hgi2; omega) rfl rfl rfl hl rfl (Nat.le_of_ble_eq_true rfl) d_PA_multiplyInside_49 ⟨Nat.zero_le _, Nat.zero_le _⟩ hS (fun _ h => h) (fun v C H locs hp hP _ _ hS => ?_)
          obtain ⟨rfl, hG1, hG2⟩ := hp
          have hX := XS_set_gv hX hgi2 hG1 hG2
          have hX := gs_I (k := od (hm + j)) (by omega) hX
          refine lv_aload_n hx hb d_PA_multiplyInside_52 rfl (lv_at hl 1 rfl) ?_
          refine xw_get (v := .ref (b + 22)) hx hb hts (fun w h => mw (uw_PA w h)) hown hK hP (XS_18 hX) (by decide) rfl 3 (by decide) (hts _ (mw tb_104)) (fun _ h => h) rfl d_PA_multiplyInside_53 ?_
          refine lv_aload_n hx hb d_PA_multiplyInside_56 rfl (lv_at hl 1 rfl) ?_
          refine xw_get (v := .ref (b + 20)) hx hb hts (fun w h => mw (uw_PA w h)) hown hK hP (XS_18 hX) (by decide) rfl 1 (by decide) (hts _ (mw tb_102)) (fun _ h => h) rfl d_PA_multiplyInside_57 ?_
          refine lv_iload_n hx hb d_PA_multiplyInside_60 rfl (lv_at hl 0 rfl) ?_
          refine xw_aald (q := b + (179 + 2 * (od (hm + j)))) hx hb hK hP 3 (XS_20 hX) (by decide) rfl hdj (by decide) rfl d_PA_multiplyInside_61 ?_
          have hgi3 : gid 22 := (by unfold gid; decide)
          obtain ⟨ga3, gn3, hga3, hgb3, hgc3⟩ := XS_g hX 22 hgi3
          rw [gv_pt] at hgc3
          have hoi3 : gid ((179 + 2 * (od (hm + j)))) := (by unfold gid; omega)
          obtain ⟨oa3, on3, hoa3, hob3, hoc3⟩ := XS_g hX ((179 + 2 * (od (hm + j)))) hoi3
          rw [gv_I (by omega)] at hoc3
          have hne3 : 22 ≠ ((179 + 2 * (od (hm + j)))) := by omega
          refine xc_V (n := 1) (As := [.ref (b + (179 + 2 * (od (hm + j))))]) (rest := []) (st0 := _) hx hb hml hown hts (c_GR_multiply l D ca b 219 _ 22 ((179 + 2 * (od (hm + j)))) gn3 _ on3 _ ga3 oa3 hga3 hgb3 hoa3 hob3 (by unfold gid at hgi3; omega) (by unfold gid at hoi3; omega) ⟨hne3, by unfold gid at hgi3 hoi3; omega, by unfold gid at hgi3 hoi3; omega⟩ hgc3 hoc3) km_GR_multiply tb_258 tb_259 tb_260 tb_5 (by decide +kernel) rfl rfl ⟨Nat.le_of_ble_eq_true rfl, Nat.le_of_ble_eq_true rfl⟩ hK hP hga3 (by unfold gid at hgi3; omega) rfl rfl rfl hl rfl (Nat.le_of_ble_eq_true rfl) d_PA_multiplyInside_62 ⟨Nat.zero_le _, Nat.zero_le _⟩ hS (fun _ h => h) (fun v C H locs hp hP _ _ hS => ?_)
          obtain ⟨rfl, hG1, hG2⟩ := hp
          have hX := XS_set_gv hX hgi3 hG1 hG2
          have hX := gs_pt hX
          rw [va_up_self] at hX
          have hm1 := mI_t (S := S) (y := y) (I := I) (bt h34)
          have hX : XS ca b C wt ab be nd fr tt le mo nf tr nt nm fy fb od pa rp se im qd hm (gvOf S ((mI od im S y hm I (j + 1)).1) P ((mI od im S y hm I (j + 1)).2) ap fa wh st) := by rw [hm1]; exact hX
          refine lv_iinc (v := nI (hm + j + 1)) (lv' := [(2, .int (nI (hm + j + 1))), (3, .int (nI (od (hm + j)))), (0, .ref (b + 18)), (1, .int (nI y))]) hx hb d_PA_multiplyInside_65 hl (k := 3) rfl (show nI (hm + j) + Int32.ofInt 1 = nI (hm + j + 1) from nI_add _ _) (by decide) rfl (fun ls hl => ?_)
          refine lv_goto (tgt := 13) hx hb d_PA_multiplyInside_68 (by decide) ?_
          exact ih13 (j + 1) _ _ _ _ (by omega) (by omega) hP hS hX (lv_sub hl [2, 3, 0] rfl)
  exact loop13 (qd + 1) 0 _ _ _ _ (by omega) (by omega) hP hS hX (lv_sub hl [1, 2, 0] rfl)

set_option maxHeartbeats 4000000 in
set_option maxRecDepth 100000 in
/-- a pair of bounds is added -/
theorem c_PA_addPair (l : Launch) (D : va_G) (ca : Nat → ClassId) (b : Nat) (C0 : Nat → va_E) {wt : Nat → Nat → Nat} {ab : Nat → Nat} {be : Nat → Nat} {nd : Nat} {fr : Nat → Nat} {tt : Nat → Option Nat} {le : Nat → Nat} {mo : Nat → Nat} {nf : Nat → Bool} {tr : Nat → Nat} {nt : Nat} {nm : Nat} {fy : Nat → Option Nat} {fb : Nat → Option Nat} {od : Nat → Nat} {pa : Nat → Option Nat} {rp : Nat → Option Nat} {se : Nat → Bool} {im : Nat → Bool} {qd : Nat} {hm : Nat} {S : Nat → Nat → Nat} {I : Nat → Nat} {P : Nat → Nat} {pt : Nat} {ap : Nat} {fa : Nat} {wh : Nat} {st : Nat} (f g : Nat) (hX : XS ca b C0 wt ab be nd fr tt le mo nf tr nt nm fy fb od pa rp se im qd hm (gvOf S I P pt ap fa wh st)) (hfg : f ≤ g) (hg : g < 12) : Met l y_PA_addPair (k_PA_addPair :: gw) ({ frames := 2, cells := 0, slots := 0, locals := 54 }) (xPc D ca b 219 C0 [.ref (b + 18), .int (nI f), .int (nI g)]) (xQ D b 219 (fun r C1 => r = none ∧ XS ca b C1 wt ab be nd fr tt le mo nf tr nt nm fy fb od pa rp se im qd hm (gvOf S I (adP P f (g + 1 - f) pt) pt (ap + pt) fa wh st))) 0 0 (xr b 219) := by
  refine Met.ofW (cc := b_PA_addPair) (maxL := 4) (ret := none) (by decide) rfl ?_
  intro p e s m args below meth c s₁ B hml hv
  obtain ⟨hav, hP, hK⟩ := hv
  have hx := B.exec
  have hb := B.bytes
  have hr := B.returns
  have hts := atoms_spec (ws := k_PA_addPair :: gw) B.pre
  have hown : s.vm.findClass R_PA = some m.cls := findClass_of_methodNamed B.named
  have hlocks := B.notSynchronized
  have hA : ∀ k, k < 219 → xr b 219 (b + k) := xr_in
  have hS : va_S (xr b 219) s.heap s.heap [] := va_S.rf
  have hl := lv_entry ([.ref (b + 18), .int (nI f), .int (nI g)]) (n := 4) (Nat.le_of_ble_eq_true rfl)
  rw [hav, lg_entry_eq]
  generalize (lg_sl ([.ref (b + 18), .int (nI f), .int (nI g)]) ++ List.replicate (4 - (lg_sl ([.ref (b + 18), .int (nI f), .int (nI g)])).length) Slot.unset).toArray = ls at hl ⊢
  have hl : lv_has ls 4 [(0, .ref (b + 18)), (1, .int (nI f)), (2, .int (nI g))] := hl
  rw [← hav]
  refine lv_aload_n hx hb d_PA_addPair_0 rfl (lv_at hl 0 rfl) ?_
  refine xw_get (v := .ref (b + 24)) hx hb hts (fun w h => mw (uw_PA w h)) hown hK hP (XS_18 hX) (by decide) rfl 4 (by decide) (hts _ (mw tb_105)) (fun _ h => h) rfl d_PA_addPair_1 ?_
  refine lv_aload_n hx hb d_PA_addPair_4 rfl (lv_at hl 0 rfl) ?_
  refine xw_get (v := .ref (b + 22)) hx hb hts (fun w h => mw (uw_PA w h)) hown hK hP (XS_18 hX) (by decide) rfl 3 (by decide) (hts _ (mw tb_104)) (fun _ h => h) rfl d_PA_addPair_5 ?_
  have hgi1 : gid 24 := (by unfold gid; decide)
  obtain ⟨ga1, gn1, hga1, hgb1, hgc1⟩ := XS_g hX 24 hgi1
  rw [gv_ap] at hgc1
  have hoi1 : gid 22 := (by unfold gid; decide)
  obtain ⟨oa1, on1, hoa1, hob1, hoc1⟩ := XS_g hX 22 hoi1
  rw [gv_pt] at hoc1
  have hne1 : 24 ≠ 22 := by omega
  refine xc_V (n := 1) (As := [.ref (b + 22)]) (rest := []) (st0 := _) hx hb hml hown hts (c_GR_add l D ca b 219 _ 24 22 gn1 _ on1 _ ga1 oa1 hga1 hgb1 hoa1 hob1 (by unfold gid at hgi1; omega) (by unfold gid at hoi1; omega) ⟨hne1, by unfold gid at hgi1 hoi1; omega, by unfold gid at hgi1 hoi1; omega⟩ hgc1 hoc1) km_GR_add tb_253 tb_254 tb_255 tb_5 (by decide +kernel) rfl rfl ⟨Nat.le_of_ble_eq_true rfl, Nat.le_of_ble_eq_true rfl⟩ hK hP hga1 (by unfold gid at hgi1; omega) rfl rfl rfl hl rfl (Nat.le_of_ble_eq_true rfl) d_PA_addPair_8 ⟨Nat.zero_le _, Nat.zero_le _⟩ hS (fun _ h => h) (fun v C H locs hp hP _ _ hS => ?_)
  obtain ⟨rfl, hG1, hG2⟩ := hp
  have hX := XS_set_gv hX hgi1 hG1 hG2
  have hX := gs_ap hX
  refine lv_iload_n hx hb d_PA_addPair_11 rfl (lv_at hl 1 rfl) ?_
  refine lv_istore_n (lv' := [(3, .int (nI f)), (0, .ref (b + 18)), (1, .int (nI f)), (2, .int (nI g))]) hx hb d_PA_addPair_12 rfl hl (by decide) rfl (fun ls hl => ?_)
  have loop13 : ∀ (r : Nat) (t : Nat) (C : Nat → va_E) (H : Heap) (locs : List Loc) (ls : Array Slot), 12 < f + t + r → f + t ≤ g + 1 → va_P D classes (wl b 219 C) H → va_S (xr b 219) s.heap H locs → XS ca b C wt ab be nd fr tt le mo nf tr nt nm fy fb od pa rp se im qd hm (gvOf S I (adP P f t pt) pt (ap + pt) fa wh st) → lv_has ls 4 [(0, .ref (b + 18)), (1, .int (nI f)), (2, .int (nI g)), (3, .int (nI (f + t)))] → W p l e (headSpec (k_PA_addPair :: gw) ({ frames := 2, cells := 0, slots := 0, locals := 54 })).room s m args below meth c H locs 0 0 (MQ below (xQ D b 219 (fun r C1 => r = none ∧ XS ca b C1 wt ab be nd fr tt le mo nf tr nt nm fy fb od pa rp se im qd hm (gvOf S I (adP P f (g + 1 - f) pt) pt (ap + pt) fa wh st))) args s 0 0 (xr b 219)) (F0 m 13 ls []) := by
    intro r
    induction r with
    | zero => intro t C H locs ls hms ht; exact absurd hms (by omega)
    | succ r ih13 =>
      intro t C H locs ls hms ht hP hS hX hl
      refine lv_iload_n hx hb d_PA_addPair_13 rfl (lv_at hl 3 rfl) ?_
      refine lv_iload_n hx hb d_PA_addPair_14 rfl (lv_at hl 2 rfl) ?_
      refine xi_gt (tgt := 37) hx hb d_PA_addPair_15 (by decide) (by omega) (by omega) (fun h15 => ?_) (fun h15 => ?_)
      · skip
        have et : t = g + 1 - f := by omega
        rw [et] at hX
        exact xw_vret hx hb hr hlocks hP hS ⟨rfl, hX⟩ d_PA_addPair_37
      · skip
        refine lv_aload_n hx hb d_PA_addPair_18 rfl (lv_at hl 0 rfl) ?_
        refine xw_get (v := .ref (b + 21)) hx hb hts (fun w h => mw (uw_PA w h)) hown hK hP (XS_18 hX) (by decide) rfl 2 (by decide) (hts _ (mw tb_103)) (fun _ h => h) rfl d_PA_addPair_19 ?_
        refine lv_iload_n hx hb d_PA_addPair_22 rfl (lv_at hl 3 rfl) ?_
        refine xw_aald (q := b + (191 + 2 * (f + t))) hx hb hK hP 3 (XS_21 hX) (by decide) rfl (by omega) (by decide) rfl d_PA_addPair_23 ?_
        refine lv_aload_n hx hb d_PA_addPair_24 rfl (lv_at hl 0 rfl) ?_
        refine xw_get (v := .ref (b + 22)) hx hb hts (fun w h => mw (uw_PA w h)) hown hK hP (XS_18 hX) (by decide) rfl 3 (by decide) (hts _ (mw tb_104)) (fun _ h => h) rfl d_PA_addPair_25 ?_
        have hgi2 : gid ((191 + 2 * (f + t))) := (by unfold gid; omega)
        obtain ⟨ga2, gn2, hga2, hgb2, hgc2⟩ := XS_g hX ((191 + 2 * (f + t))) hgi2
        rw [gv_P (by omega)] at hgc2
        have hoi2 : gid 22 := (by unfold gid; decide)
        obtain ⟨oa2, on2, hoa2, hob2, hoc2⟩ := XS_g hX 22 hoi2
        rw [gv_pt] at hoc2
        have hne2 : ((191 + 2 * (f + t))) ≠ 22 := by omega
        refine xc_V (n := 1) (As := [.ref (b + 22)]) (rest := []) (st0 := _) hx hb hml hown hts (c_GR_add l D ca b 219 _ ((191 + 2 * (f + t))) 22 gn2 _ on2 _ ga2 oa2 hga2 hgb2 hoa2 hob2 (by unfold gid at hgi2; omega) (by unfold gid at hoi2; omega) ⟨hne2, by unfold gid at hgi2 hoi2; omega, by unfold gid at hgi2 hoi2; omega⟩ hgc2 hoc2) km_GR_add tb_253 tb_254 tb_255 tb_5 (by decide +kernel) rfl rfl ⟨Nat.le_of_ble_eq_true rfl, Nat.le_of_ble_eq_true rfl⟩ hK hP hga2 (by unfold gid at hgi2; omega) rfl rfl rfl hl rfl (Nat.le_of_ble_eq_true rfl) d_PA_addPair_28 ⟨Nat.zero_le _, Nat.zero_le _⟩ hS (fun _ h => h) (fun v C H locs hp hP _ _ hS => ?_)
        obtain ⟨rfl, hG1, hG2⟩ := hp
        have hX := XS_set_gv hX hgi2 hG1 hG2
        have hX := gs_P (k := f + t) (by omega) hX
        refine lv_iinc (v := nI (f + t + 1)) (lv' := [(3, .int (nI (f + t + 1))), (0, .ref (b + 18)), (1, .int (nI f)), (2, .int (nI g))]) hx hb d_PA_addPair_31 hl (k := 3) rfl (show nI (f + t) + Int32.ofInt 1 = nI (f + t + 1) from nI_add _ _) (by decide) rfl (fun ls hl => ?_)
        refine lv_goto (tgt := 13) hx hb d_PA_addPair_34 (by decide) ?_
        rw [adP_at, adP_s] at hX
        exact ih13 (t + 1) _ _ _ _ (by omega) (by omega) hP hS hX (lv_sub hl [1, 2, 3, 0] rfl)
  rw [← adP_0 P f pt] at hX
  exact loop13 13 0 _ _ _ _ (by omega) (by omega) hP hS hX (lv_sub hl [1, 2, 3, 0] rfl)

