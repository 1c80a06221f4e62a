/-! Telling: contracts -/
theorem eo_n {x : Option Nat} (hd : ∀ d, x = some d → d < 2 ^ 31) : eo x = -1 ↔ x = none := by
  cases x with
  | none => exact ⟨fun _ => rfl, fun _ => rfl⟩
  | some d =>
    refine ⟨fun h => ?_, fun h => by cases h⟩
    have h1 : (nI d).toInt = (-1 : Int32).toInt := by rw [show nI d = -1 from h]
    rw [nI_toInt (hd d rfl), show (-1 : Int32).toInt = -1 from by decide] at h1
    omega
section XT
variable {p : Program} {l : Launch} {e : Env} {R : Room} {s : State} {m : MethodId} {args : Array Value} {below : List Frame} {meth : Method} {c : Code} {H : Heap} {locs : List Loc} {cells slots : Nat} {Q : State → Prop}
variable {cc : ByteArray} {pc : Nat} {ls : Array Slot} {rest : List Value}
theorem xo_eq (hexec : p.tables.exec = Jvm.exec) (hb : c.code = cc) {x : Option Nat} {off : Int} {tgt : Nat} (hdg : decode cc pc = .ok (.if_icmp .eq off, 3)) (ht : (pc : Int) + off = (tgt : Int)) (hd : ∀ d, x = some d → d < 2 ^ 31)
    (kt : x = none → W p l e R s m args below meth c H locs cells slots Q (F0 m tgt ls rest)) (kf : ∀ d, x = some d → W p l e R s m args below meth c H locs cells slots Q (F0 m (pc + 3) ls rest)) : W p l e R s m args below meth c H locs cells slots Q (F0 m pc ls (.int (-1) :: .int (eo x) :: rest)) :=
  lv_icmp_eq hexec hb hdg ht (fun h => kt ((eo_n hd).mp h)) (fun h => by
    cases x with
    | none => exact absurd rfl h
    | some d => exact kf d rfl)
theorem xo_ne (hexec : p.tables.exec = Jvm.exec) (hb : c.code = cc) {x : Option Nat} {off : Int} {tgt : Nat} (hdg : decode cc pc = .ok (.if_icmp .ne off, 3)) (ht : (pc : Int) + off = (tgt : Int)) (hd : ∀ d, x = some d → d < 2 ^ 31)
    (kt : ∀ d, x = some d → W p l e R s m args below meth c H locs cells slots Q (F0 m tgt ls rest)) (kf : x = none → W p l e R s m args below meth c H locs cells slots Q (F0 m (pc + 3) ls rest)) : W p l e R s m args below meth c H locs cells slots Q (F0 m pc ls (.int (-1) :: .int (eo x) :: rest)) :=
  lv_icmp_ne hexec hb hdg ht (fun h => by
    cases x with
    | none => exact absurd rfl h
    | some d => exact kt d rfl) (fun h => kf ((eo_n hd).mp h))
end XT
/-- what is told names dates -/
def TOK (fr : Nat → Nat) (tt : Nat → Option Nat) (nt : Nat) : Prop := nt ≤ 6 ∧ ∀ i, i < nt → fr i < 6 ∧ ∀ d, tt i = some d → d < 6
theorem TOK.f {fr : Nat → Nat} {tt : Nat → Option Nat} {nt i : Nat} (h : TOK fr tt nt) (hi : i < nt) : fr i < 6 := (h.2 i hi).1
theorem TOK.t {fr : Nat → Nat} {tt : Nat → Option Nat} {nt i : Nat} (h : TOK fr tt nt) (hi : i < nt) : ∀ d, tt i = some d → d < 2 ^ 31 := fun d hd => by
  have := (h.2 i hi).2 d hd
  omega
/-- the first n names of a row set by a function -/
def upto (n : Nat) (f g : Nat → Nat) : Nat → Nat := fun d => if d < n then f d else g d
theorem upto_s (n : Nat) (f g : Nat → Nat) : va_up (upto n f g) n (f n) = upto (n + 1) f g := by
  funext k
  by_cases q : k = n
  · subst q; rw [va_up_self]; simp [upto]
  · rw [va_up_ne _ _ q]
    by_cases q2 : k < n
    · simp [upto, q2, show k < n + 1 by omega]
    · simp [upto, q2, show ¬ k < n + 1 by omega]
theorem upto_0 (f g : Nat → Nat) : upto 0 f g = g := by
  funext k; simp [upto]
theorem upto_at {n k : Nat} (f g : Nat → Nat) (h : ¬ k < n) : upto n f g k = g k := if_neg h
theorem upto_lt {n k : Nat} (f g : Nat → Nat) (h : k < n) : upto n f g k = f k := if_pos h
theorem upto_keep {n : Nat} (f g : Nat → Nat) (h : f n = g n) : upto (n + 1) f g = upto n f g := by
  funext k
  by_cases q : k = n
  · subst q; simp [upto, h]
  · by_cases q2 : k < n
    · simp [upto, q2, show k < n + 1 by omega]
    · simp [upto, q2, show ¬ k < n + 1 by omega]
def renF (t : Nat → Nat) (bf af : Nat) : Nat → Nat := fun d => if t d = bf then af else t d
def renT (t : Nat → Nat) (bf af : Nat) : Nat → Nat := upto 6 (renF t bf af) t
/-- the names of the trees, by what is told below i -/
def nmT (fr : Nat → Nat) (tt : Nat → Option Nat) (t : Nat → Nat) : Nat → (Nat → Nat)
  | 0 => upto 6 (fun d => d) t
  | i + 1 => match tt i with
    | none => nmT fr tt t i
    | some e => renT (nmT fr tt t i) (nmT fr tt t i (fr i)) (nmT fr tt t i e)
theorem nmT_lt {fr : Nat → Nat} {tt : Nat → Option Nat} {t : Nat → Nat} {nt : Nat} (h : TOK fr tt nt) : ∀ i, i ≤ nt → ∀ d, d < 6 → nmT fr tt t i d < 6 := by
  intro i
  induction i with
  | zero => intro _ d hd; show upto 6 (fun d => d) t d < 6; rw [upto_lt _ _ hd]; exact hd
  | succ i ih =>
    intro hi d hd
    have h1 := ih (by omega)
    unfold nmT
    cases ht : tt i with
    | none => exact h1 d hd
    | some e =>
      show renT _ _ _ d < 6
      unfold renT
      rw [upto_lt _ _ hd]
      unfold renF
      by_cases q : nmT fr tt t i d = nmT fr tt t i (fr i)
      · rw [if_pos q]; exact h1 e ((h.2 i (by omega)).2 e ht)
      · rw [if_neg q]; exact h1 d hd
theorem nmT_none {fr : Nat → Nat} {tt : Nat → Option Nat} {t : Nat → Nat} {i : Nat} (h : tt i = none) : nmT fr tt t (i + 1) = nmT fr tt t i := by
  show (match tt i with | none => nmT fr tt t i | some e => renT (nmT fr tt t i) (nmT fr tt t i (fr i)) (nmT fr tt t i e)) = _
  rw [h]
theorem nmT_some {fr : Nat → Nat} {tt : Nat → Option Nat} {t : Nat → Nat} {i e : Nat} (h : tt i = some e) : nmT fr tt t (i + 1) = renT (nmT fr tt t i) (nmT fr tt t i (fr i)) (nmT fr tt t i e) := by
  show (match tt i with | none => nmT fr tt t i | some e => renT (nmT fr tt t i) (nmT fr tt t i (fr i)) (nmT fr tt t i e)) = _
  rw [h]
def allB (n : Nat) (f : Nat → Bool) : Nat → Bool := fun k => if k < n then true else f k
theorem allB_0 (f : Nat → Bool) : allB 0 f = f := by funext k; simp [allB]
theorem allB_s (n : Nat) (f : Nat → Bool) : va_up (allB n f) n true = allB (n + 1) f := by
  funext k
  by_cases q : k = n
  · subst q; rw [va_up_self]; simp [allB]
  · rw [va_up_ne _ _ q]
    by_cases q2 : k < n
    · simp [allB, q2, show k < n + 1 by omega]
    · simp [allB, q2, show ¬ k < n + 1 by omega]
/-- a tree with a member -/
def hasM (fr : Nat → Nat) (tt : Nat → Option Nat) (tr : Nat → Nat) (nt x : Nat) : Prop := ∃ i, i < nt ∧ tt i = none ∧ tr (fr i) = x
/-- the other end of what i joins to a date, and the date that it makes a member -/
def oth (fr : Nat → Nat) (tt : Nat → Option Nat) (nf : Nat → Bool) (i d : Nat) : Option Nat :=
  if nf i = true then (match tt i with | none => none | some e => if fr i = d then some e else if e = d then some (fr i) else none) else none
def memO (fr : Nat → Nat) (tt : Nat → Option Nat) (nf : Nat → Bool) (i : Nat) : Option Nat := if nf i = true then (match tt i with | none => some (fr i) | some _ => none) else none
theorem oth_off {fr : Nat → Nat} {tt : Nat → Option Nat} {nf : Nat → Bool} {i d : Nat} (h : nf i = false) : oth fr tt nf i d = none := by simp [oth, h]
theorem oth_none {fr : Nat → Nat} {tt : Nat → Option Nat} {nf : Nat → Bool} {i d : Nat} (h : tt i = none) : oth fr tt nf i d = none := by simp [oth, h]
theorem oth_some {fr : Nat → Nat} {tt : Nat → Option Nat} {nf : Nat → Bool} {i d e : Nat} (h1 : nf i = true) (h : tt i = some e) : oth fr tt nf i d = if fr i = d then some e else if e = d then some (fr i) else none := by simp [oth, h, h1]
theorem tn31 (x : Bool) : x.toNat < 2 ^ 31 := by cases x <;> decide
theorem bt {x : Bool} (h : x.toNat ≠ 0) : x = true := by cases x <;> simp_all
theorem bf {x : Bool} (h : x.toNat = 0) : x = false := by cases x <;> simp_all
theorem mx0 {a b : Nat} (ha : a < 2 ^ 30) (hb : b < 2 ^ 30) : (if nI 0 < nI a - nI b then nI a - nI b else nI 0) = nI (a - b) := by
  by_cases q : b ≤ a
  · rw [pk_sub q]
    by_cases q2 : 0 < a - b
    · rw [if_pos ((nI_ltI (by omega) (by omega)).mpr q2)]
    · rw [if_neg (fun h => q2 ((nI_ltI (by omega) (by omega)).mp h)), show a - b = 0 by omega]
  · have h1 := pk_sneg (a := a) (b := b) hb (by omega)
    rw [if_neg, show a - b = 0 by omega]
    intro h
    have h2 : nI 0 < nI 0 := Int32.lt_trans h h1
    exact absurd h2 (by decide)
theorem mx1 {a : Nat} (ha : a < 2 ^ 31) : (if nI 0 < nI a then nI a else nI 0) = nI a := by
  by_cases q : 0 < a
  · rw [if_pos ((nI_ltI (by omega) (by omega)).mpr q)]
  · rw [if_neg (fun h => q ((nI_ltI (by omega) (by omega)).mp h)), show a = 0 by omega]
theorem mn1 {a : Nat} (ha : a < 2 ^ 30) {lo : Nat} (hlo : lo < 2 ^ 30) : nI lo ≤ (if nI a < nI 11 then nI a else nI 11) ↔ lo < min 12 (a + 1) := by
  by_cases q : a < 11
  · rw [if_pos ((nI_ltI (by omega) (by omega)).mpr q), nI_leI (by omega) (by omega)]
    omega
  · rw [if_neg (fun h => q ((nI_ltI (by omega) (by omega)).mp h)), nI_leI (by omega) (by omega)]
    omega
theorem mn2 {a b : Nat} (ha : a < 12) (hb : b < 2 ^ 30) {lo : Nat} (hlo : lo < 2 ^ 30) : nI lo ≤ (if nI a - nI b < nI 11 then nI a - nI b else nI 11) ↔ lo < a + 1 - b := by
  by_cases q : b ≤ a
  · rw [pk_sub q]
    by_cases q2 : a - b < 11
    · rw [if_pos ((nI_ltI (by omega) (by omega)).mpr q2), nI_leI (by omega) (by omega)]
      omega
    · rw [if_neg (fun h => q2 ((nI_ltI (by omega) (by omega)).mp h)), nI_leI (by omega) (by omega)]
      omega
  · have h1 := pk_sneg (a := a) (b := b) hb (by omega)
    have h2 : nI a - nI b < nI 11 := Int32.lt_of_lt_of_le h1 (by decide)
    rw [if_pos h2]
    constructor
    · intro h
      exact absurd (Int32.lt_of_le_of_lt h h1) (nI_pos (by omega))
    · intro h; omega

set_option maxHeartbeats 4000000 in
set_option maxRecDepth 100000 in
/-- how much is told -/
theorem c_TE_number (l : Launch) (D : va_G) (ca : Nat → ClassId) (b : Nat) (C0 : Nat → va_E) {wt : Nat → Nat → Nat} {ab : Nat → Nat} {be : Nat → Nat} {nd : Nat} {fr : Nat → Nat} {tt : Nat → Option Nat} {le : Nat → Nat} {mo : Nat → Nat} {nf : Nat → Bool} {tr : Nat → Nat} {nt : Nat} {nm : Nat} {fy : Nat → Option Nat} {fb : Nat → Option Nat} {od : Nat → Nat} {pa : Nat → Option Nat} {rp : Nat → Option Nat} {se : Nat → Bool} {im : Nat → Bool} {qd : Nat} {hm : Nat} {gv : Nat → Nat}  (hX : XS ca b C0 wt ab be nd fr tt le mo nf tr nt nm fy fb od pa rp se im qd hm gv)  : Met l y_TE_number (k_TE_number :: gw) ({ frames := 1, cells := 0, slots := 0, locals := 12 }) (xPc D ca b 219 C0 [.ref (b + 11)]) (xQ D b 219 (fun r C1 => r = some (.int (nI nt)) ∧ XS ca b C1 wt ab be nd fr tt le mo nf tr nt nm fy fb od pa rp se im qd hm gv)) 0 0 (xr b 219) := by
  refine Met.ofW (cc := b_TE_number) (maxL := 1) (ret := (some FieldType.int)) (by decide) rfl ?_
  intro p e s m args below meth c s₁ B hml hv
  obtain ⟨hav, hP, hK⟩ := hv
  have hx := B.exec
  have hb := B.bytes
  have hr := B.returns
  have hts := atoms_spec (ws := k_TE_number :: gw) B.pre
  have hown : s.vm.findClass R_TE = some m.cls := findClass_of_methodNamed B.named
  have hlocks := B.notSynchronized
  have hA : ∀ k, k < 219 → xr b 219 (b + k) := xr_in
  have hS : va_S (xr b 219) s.heap s.heap [] := va_S.rf
  have hl := lv_entry ([.ref (b + 11)]) (n := 1) (Nat.le_of_ble_eq_true rfl)
  rw [hav, lg_entry_eq]
  generalize (lg_sl ([.ref (b + 11)]) ++ List.replicate (1 - (lg_sl ([.ref (b + 11)])).length) Slot.unset).toArray = ls at hl ⊢
  have hl : lv_has ls 1 [(0, .ref (b + 11))] := hl
  rw [← hav]
  refine lv_aload_n hx hb d_TE_number_0 rfl (lv_at hl 0 rfl) ?_
  refine xw_get (v := .int (nI nt)) hx hb hts (fun w h => mw (uw_TE w h)) hown hK hP (XS_11 hX) (by decide) rfl 6 (by decide) (hts _ (mw tb_57)) (fun _ h => h) rfl d_TE_number_1 ?_
  exact xw_iret hx hb hr hlocks hP hS ⟨rfl, hX⟩ d_TE_number_4

set_option maxHeartbeats 4000000 in
set_option maxRecDepth 100000 in
/-- how many members are told -/
theorem c_TE_members (l : Launch) (D : va_G) (ca : Nat → ClassId) (b : Nat) (C0 : Nat → va_E) {wt : Nat → Nat → Nat} {ab : Nat → Nat} {be : Nat → Nat} {nd : Nat} {fr : Nat → Nat} {tt : Nat → Option Nat} {le : Nat → Nat} {mo : Nat → Nat} {nf : Nat → Bool} {tr : Nat → Nat} {nt : Nat} {nm : Nat} {fy : Nat → Option Nat} {fb : Nat → Option Nat} {od : Nat → Nat} {pa : Nat → Option Nat} {rp : Nat → Option Nat} {se : Nat → Bool} {im : Nat → Bool} {qd : Nat} {hm : Nat} {gv : Nat → Nat}  (hX : XS ca b C0 wt ab be nd fr tt le mo nf tr nt nm fy fb od pa rp se im qd hm gv)  : Met l y_TE_members (k_TE_members :: gw) ({ frames := 1, cells := 0, slots := 0, locals := 12 }) (xPc D ca b 219 C0 [.ref (b + 11)]) (xQ D b 219 (fun r C1 => r = some (.int (nI nm)) ∧ XS ca b C1 wt ab be nd fr tt le mo nf tr nt nm fy fb od pa rp se im qd hm gv)) 0 0 (xr b 219) := by
  refine Met.ofW (cc := b_TE_members) (maxL := 1) (ret := (some FieldType.int)) (by decide) rfl ?_
  intro p e s m args below meth c s₁ B hml hv
  obtain ⟨hav, hP, hK⟩ := hv
  have hx := B.exec
  have hb := B.bytes
  have hr := B.returns
  have hts := atoms_spec (ws := k_TE_members :: gw) B.pre
  have hown : s.vm.findClass R_TE = some m.cls := findClass_of_methodNamed B.named
  have hlocks := B.notSynchronized
  have hA : ∀ k, k < 219 → xr b 219 (b + k) := xr_in
  have hS : va_S (xr b 219) s.heap s.heap [] := va_S.rf
  have hl := lv_entry ([.ref (b + 11)]) (n := 1) (Nat.le_of_ble_eq_true rfl)
  rw [hav, lg_entry_eq]
  generalize (lg_sl ([.ref (b + 11)]) ++ List.replicate (1 - (lg_sl ([.ref (b + 11)])).length) Slot.unset).toArray = ls at hl ⊢
  have hl : lv_has ls 1 [(0, .ref (b + 11))] := hl
  rw [← hav]
  refine lv_aload_n hx hb d_TE_members_0 rfl (lv_at hl 0 rfl) ?_
  refine xw_get (v := .int (nI nm)) hx hb hts (fun w h => mw (uw_TE w h)) hown hK hP (XS_11 hX) (by decide) rfl 7 (by decide) (hts _ (mw tb_58)) (fun _ h => h) rfl d_TE_members_1 ?_
  exact xw_iret hx hb hr hlocks hP hS ⟨rfl, hX⟩ d_TE_members_4

set_option maxHeartbeats 4000000 in
set_option maxRecDepth 100000 in
/-- something is told -/
theorem c_TE_tell (l : Launch) (D : va_G) (ca : Nat → ClassId) (b : Nat) (C0 : Nat → va_E) {wt : Nat → Nat → Nat} {ab : Nat → Nat} {be : Nat → Nat} {nd : Nat} {fr : Nat → Nat} {tt : Nat → Option Nat} {le : Nat → Nat} {mo : Nat → Nat} {nf : Nat → Bool} {tr : Nat → Nat} {nt : Nat} {nm : Nat} {fy : Nat → Option Nat} {fb : Nat → Option Nat} {od : Nat → Nat} {pa : Nat → Option Nat} {rp : Nat → Option Nat} {se : Nat → Bool} {im : Nat → Bool} {qd : Nat} {hm : Nat} {gv : Nat → Nat} (a : Nat) (t : Option Nat) (lo hi : Nat) (hX : XS ca b C0 wt ab be nd fr tt le mo nf tr nt nm fy fb od pa rp se im qd hm gv) (hnt : nt < 6) (htb : ∀ d, t = some d → d < 2 ^ 31) : Met l y_TE_tell (k_TE_tell :: gw) ({ frames := 1, cells := 0, slots := 0, locals := 12 }) (xPc D ca b 219 C0 [.ref (b + 11), .int (nI a), .int (eo t), .int (nI lo), .int (nI hi)]) (xQ D b 219 (fun r C1 => r = some (.int (nI nt)) ∧ XS ca b C1 wt ab be nd (va_up fr nt a) (va_up tt nt t) (va_up le nt lo) (va_up mo nt hi) (va_up nf nt true) tr (nt + 1) (if t = none then nm + 1 else nm) fy fb od pa rp se im qd hm gv)) 0 0 (xr b 219) := by
  refine Met.ofW (cc := b_TE_tell) (maxL := 5) (ret := (some FieldType.int)) (by decide) rfl ?_
  intro p e s m args below meth c s₁ B hml hv
  obtain ⟨hav, hP, hK⟩ := hv
  have hx := B.exec
  have hb := B.bytes
  have hr := B.returns
  have hts := atoms_spec (ws := k_TE_tell :: gw) B.pre
  have hown : s.vm.findClass R_TE = some m.cls := findClass_of_methodNamed B.named
  have hlocks := B.notSynchronized
  have hA : ∀ k, k < 219 → xr b 219 (b + k) := xr_in
  have hS : va_S (xr b 219) s.heap s.heap [] := va_S.rf
  have hl := lv_entry ([.ref (b + 11), .int (nI a), .int (eo t), .int (nI lo), .int (nI hi)]) (n := 5) (Nat.le_of_ble_eq_true rfl)
  rw [hav, lg_entry_eq]
  generalize (lg_sl ([.ref (b + 11), .int (nI a), .int (eo t), .int (nI lo), .int (nI hi)]) ++ List.replicate (5 - (lg_sl ([.ref (b + 11), .int (nI a), .int (eo t), .int (nI lo), .int (nI hi)])).length) Slot.unset).toArray = ls at hl ⊢
  have hl : lv_has ls 5 [(0, .ref (b + 11)), (1, .int (nI a)), (2, .int (eo t)), (3, .int (nI lo)), (4, .int (nI hi))] := hl
  rw [← hav]
  refine lv_aload_n hx hb d_TE_tell_0 rfl (lv_at hl 0 rfl) ?_
  refine xw_get (v := .int (nI nt)) hx hb hts (fun w h => mw (uw_TE w h)) hown hK hP (XS_11 hX) (by decide) rfl 6 (by decide) (hts _ (mw tb_57)) (fun _ h => h) rfl d_TE_tell_1 ?_
  refine lv_bipush (v := nI 6) hx hb d_TE_tell_4 (by decide) ?_
  refine xi_lt (tgt := 11) hx hb d_TE_tell_6 (by decide) (by omega) (by omega) (fun h6 => ?_) (fun h6 => ?_)
  · skip
    refine lv_aload_n hx hb d_TE_tell_11 rfl (lv_at hl 0 rfl) ?_
    refine xw_get (v := .ref (b + 12)) hx hb hts (fun w h => mw (uw_TE w h)) hown hK hP (XS_11 hX) (by decide) rfl 0 (by decide) (hts _ (mw tb_51)) (fun _ h => h) rfl d_TE_tell_12 ?_
    refine lv_aload_n hx hb d_TE_tell_15 rfl (lv_at hl 0 rfl) ?_
    refine xw_get (v := .int (nI nt)) hx hb hts (fun w h => mw (uw_TE w h)) hown hK hP (XS_11 hX) (by decide) rfl 6 (by decide) (hts _ (mw tb_57)) (fun _ h => h) rfl d_TE_tell_16 ?_
    refine lv_iload_n hx hb d_TE_tell_19 rfl (lv_at hl 1 rfl) ?_
    refine xw_iast hx hb hK hP hA hS 0 (XS_12 hX) (by decide) rfl (by omega) (by decide) d_TE_tell_20 (fun H locs hP hS => ?_)
    have hX := XS_set_fr (j := nt) (x := a) hX
    generalize va_up _ 12 _ = C at hP hX
    refine lv_aload_n hx hb d_TE_tell_21 rfl (lv_at hl 0 rfl) ?_
    refine xw_get (v := .ref (b + 13)) hx hb hts (fun w h => mw (uw_TE w h)) hown hK hP (XS_11 hX) (by decide) rfl 1 (by decide) (hts _ (mw tb_52)) (fun _ h => h) rfl d_TE_tell_22 ?_
    refine lv_aload_n hx hb d_TE_tell_25 rfl (lv_at hl 0 rfl) ?_
    refine xw_get (v := .int (nI nt)) hx hb hts (fun w h => mw (uw_TE w h)) hown hK hP (XS_11 hX) (by decide) rfl 6 (by decide) (hts _ (mw tb_57)) (fun _ h => h) rfl d_TE_tell_26 ?_
    refine lv_iload_n hx hb d_TE_tell_29 rfl (lv_at hl 2 rfl) ?_
    refine xw_iast hx hb hK hP hA hS 0 (XS_13 hX) (by decide) rfl (by omega) (by decide) d_TE_tell_30 (fun H locs hP hS => ?_)
    have hX := XS_set_tt (j := nt) (x := t) hX
    generalize va_up _ 13 _ = C at hP hX
    refine lv_aload_n hx hb d_TE_tell_31 rfl (lv_at hl 0 rfl) ?_
    refine xw_get (v := .ref (b + 14)) hx hb hts (fun w h => mw (uw_TE w h)) hown hK hP (XS_11 hX) (by decide) rfl 2 (by decide) (hts _ (mw tb_53)) (fun _ h => h) rfl d_TE_tell_32 ?_
    refine lv_aload_n hx hb d_TE_tell_35 rfl (lv_at hl 0 rfl) ?_
    refine xw_get (v := .int (nI nt)) hx hb hts (fun w h => mw (uw_TE w h)) hown hK hP (XS_11 hX) (by decide) rfl 6 (by decide) (hts _ (mw tb_57)) (fun _ h => h) rfl d_TE_tell_36 ?_
    refine lv_iload_n hx hb d_TE_tell_39 rfl (lv_at hl 3 rfl) ?_
    refine xw_iast hx hb hK hP hA hS 0 (XS_14 hX) (by decide) rfl (by omega) (by decide) d_TE_tell_40 (fun H locs hP hS => ?_)
    have hX := XS_set_le (j := nt) (x := lo) hX
    generalize va_up _ 14 _ = C at hP hX
    refine lv_aload_n hx hb d_TE_tell_41 rfl (lv_at hl 0 rfl) ?_
    refine xw_get (v := .ref (b + 15)) hx hb hts (fun w h => mw (uw_TE w h)) hown hK hP (XS_11 hX) (by decide) rfl 3 (by decide) (hts _ (mw tb_54)) (fun _ h => h) rfl d_TE_tell_42 ?_
    refine lv_aload_n hx hb d_TE_tell_45 rfl (lv_at hl 0 rfl) ?_
    refine xw_get (v := .int (nI nt)) hx hb hts (fun w h => mw (uw_TE w h)) hown hK hP (XS_11 hX) (by decide) rfl 6 (by decide) (hts _ (mw tb_57)) (fun _ h => h) rfl d_TE_tell_46 ?_
    refine lv_iload hx hb d_TE_tell_49 (lv_at hl 4 rfl) ?_
    refine xw_iast hx hb hK hP hA hS 0 (XS_15 hX) (by decide) rfl (by omega) (by decide) d_TE_tell_51 (fun H locs hP hS => ?_)
    have hX := XS_set_mo (j := nt) (x := hi) hX
    generalize va_up _ 15 _ = C at hP hX
    refine lv_aload_n hx hb d_TE_tell_52 rfl (lv_at hl 0 rfl) ?_
    refine xw_get (v := .ref (b + 16)) hx hb hts (fun w h => mw (uw_TE w h)) hown hK hP (XS_11 hX) (by decide) rfl 4 (by decide) (hts _ (mw tb_55)) (fun _ h => h) rfl d_TE_tell_53 ?_
    refine lv_aload_n hx hb d_TE_tell_56 rfl (lv_at hl 0 rfl) ?_
    refine xw_get (v := .int (nI nt)) hx hb hts (fun w h => mw (uw_TE w h)) hown hK hP (XS_11 hX) (by decide) rfl 6 (by decide) (hts _ (mw tb_57)) (fun _ h => h) rfl d_TE_tell_57 ?_
    refine lv_iconst (v := nI 1) hx hb d_TE_tell_60 (by decide) ?_
    refine xw_zast hx hb hK hP hA hS 2 (XS_16 hX) (by decide) rfl (by omega) (by decide) d_TE_tell_61 (fun H locs hP hS => ?_)
    have hX := XS_set_nf (j := nt) (x := true) hX
    rw [show nI true.toNat = nI 1 from rfl] at hX
    generalize va_up _ 16 _ = C at hP hX
    refine lv_iload_n hx hb d_TE_tell_62 rfl (lv_at hl 2 rfl) ?_
    refine lv_iconst (v := (-1)) hx hb d_TE_tell_63 (by decide) ?_
    refine xo_ne (tgt := 77) hx hb d_TE_tell_64 (by decide) htb (fun d64 h64 => ?_) (fun h64 => ?_)
    · skip
      refine lv_aload_n hx hb d_TE_tell_77 rfl (lv_at hl 0 rfl) ?_
      refine lv_dup hx hb d_TE_tell_78 rfl ?_
      refine xw_get (v := .int (nI nt)) hx hb hts (fun w h => mw (uw_TE w h)) hown hK hP (XS_11 hX) (by decide) rfl 6 (by decide) (hts _ (mw tb_57)) (fun _ h => h) rfl d_TE_tell_79 ?_
      refine lv_iconst (v := nI 1) hx hb d_TE_tell_82 (by decide) ?_
      refine lv_iadd hx hb d_TE_tell_83 ?_
      refine ti (nI (nt + 1)) (nI_add _ _) ?_
      refine xw_put (v := .int (nI (nt + 1))) (ty := t_TE 6) hx hb hts (fun w h => mw (uw_TE w h)) t_TE t_TE_ok n_TE hown hK hP hA hS (XS_11 hX) (by decide) rfl 6 (by decide) (hts _ (mw tb_57)) (fun _ h => h) rfl (by decide +kernel) rfl rfl (Nat.le_of_ble_eq_true rfl) d_TE_tell_84 (fun H locs hP hS => ?_)
      have hX := XS_set_nt (x1 := nt + 1) hX
      generalize va_up _ 11 _ = C at hP hX
      refine lv_aload_n hx hb d_TE_tell_87 rfl (lv_at hl 0 rfl) ?_
      refine xw_get (v := .int (nI (nt + 1))) hx hb hts (fun w h => mw (uw_TE w h)) hown hK hP (XS_11 hX) (by decide) rfl 6 (by decide) (hts _ (mw tb_57)) (fun _ h => h) rfl d_TE_tell_88 ?_
      refine lv_iconst (v := nI 1) hx hb d_TE_tell_91 (by decide) ?_
      refine lv_isub hx hb d_TE_tell_92 ?_
      refine ti (nI ((nt + 1) - 1)) (pk_sub (by omega)) ?_
      exact xw_iret hx hb hr hlocks hP hS ⟨rfl, by rw [if_neg (by rw [h64]; simp)]; exact hX⟩ d_TE_tell_93
    · skip
      refine lv_aload_n hx hb d_TE_tell_67 rfl (lv_at hl 0 rfl) ?_
      refine lv_dup hx hb d_TE_tell_68 rfl ?_
      refine xw_get (v := .int (nI nm)) hx hb hts (fun w h => mw (uw_TE w h)) hown hK hP (XS_11 hX) (by decide) rfl 7 (by decide) (hts _ (mw tb_58)) (fun _ h => h) rfl d_TE_tell_69 ?_
      refine lv_iconst (v := nI 1) hx hb d_TE_tell_72 (by decide) ?_
      refine lv_iadd hx hb d_TE_tell_73 ?_
      refine ti (nI (nm + 1)) (nI_add _ _) ?_
      refine xw_put (v := .int (nI (nm + 1))) (ty := t_TE 7) hx hb hts (fun w h => mw (uw_TE w h)) t_TE t_TE_ok n_TE hown hK hP hA hS (XS_11 hX) (by decide) rfl 7 (by decide) (hts _ (mw tb_58)) (fun _ h => h) rfl (by decide +kernel) rfl rfl (Nat.le_of_ble_eq_true rfl) d_TE_tell_74 (fun H locs hP hS => ?_)
      have hX := XS_set_nm (x1 := nm + 1) hX
      generalize va_up _ 11 _ = C at hP hX
      refine lv_aload_n hx hb d_TE_tell_77 rfl (lv_at hl 0 rfl) ?_
      refine lv_dup hx hb d_TE_tell_78 rfl ?_
      refine xw_get (v := .int (nI nt)) hx hb hts (fun w h => mw (uw_TE w h)) hown hK hP (XS_11 hX) (by decide) rfl 6 (by decide) (hts _ (mw tb_57)) (fun _ h => h) rfl d_TE_tell_79 ?_
      refine lv_iconst (v := nI 1) hx hb d_TE_tell_82 (by decide) ?_
      refine lv_iadd hx hb d_TE_tell_83 ?_
      refine ti (nI (nt + 1)) (nI_add _ _) ?_
      refine xw_put (v := .int (nI (nt + 1))) (ty := t_TE 6) hx hb hts (fun w h => mw (uw_TE w h)) t_TE t_TE_ok n_TE hown hK hP hA hS (XS_11 hX) (by decide) rfl 6 (by decide) (hts _ (mw tb_57)) (fun _ h => h) rfl (by decide +kernel) rfl rfl (Nat.le_of_ble_eq_true rfl) d_TE_tell_84 (fun H locs hP hS => ?_)
      have hX := XS_set_nt (x1 := nt + 1) hX
      generalize va_up _ 11 _ = C at hP hX
      refine lv_aload_n hx hb d_TE_tell_87 rfl (lv_at hl 0 rfl) ?_
      refine xw_get (v := .int (nI (nt + 1))) hx hb hts (fun w h => mw (uw_TE w h)) hown hK hP (XS_11 hX) (by decide) rfl 6 (by decide) (hts _ (mw tb_57)) (fun _ h => h) rfl d_TE_tell_88 ?_
      refine lv_iconst (v := nI 1) hx hb d_TE_tell_91 (by decide) ?_
      refine lv_isub hx hb d_TE_tell_92 ?_
      refine ti (nI ((nt + 1) - 1)) (pk_sub (by omega)) ?_
      exact xw_iret hx hb hr hlocks hP hS ⟨rfl, by rw [if_pos h64]; exact hX⟩ d_TE_tell_93
  · skip
    exact absurd h6 (by omega)

set_option maxHeartbeats 4000000 in
set_option maxRecDepth 100000 in
/-- a tree gets another name -/
theorem c_TE_renameTree (l : Launch) (D : va_G) (ca : Nat → ClassId) (b : Nat) (C0 : Nat → va_E) {wt : Nat → Nat → Nat} {ab : Nat → Nat} {be : Nat → Nat} {nd : Nat} {fr : Nat → Nat} {tt : Nat → Option Nat} {le : Nat → Nat} {mo : Nat → Nat} {nf : Nat → Bool} {tr : Nat → Nat} {nt : Nat} {nm : Nat} {fy : Nat → Option Nat} {fb : Nat → Option Nat} {od : Nat → Nat} {pa : Nat → Option Nat} {rp : Nat → Option Nat} {se : Nat → Bool} {im : Nat → Bool} {qd : Nat} {hm : Nat} {gv : Nat → Nat} (bf af : Nat) (hX : XS ca b C0 wt ab be nd fr tt le mo nf tr nt nm fy fb od pa rp se im qd hm gv) (hbf : bf < 6) (hT : ∀ d, d < 6 → tr d < 6) : Met l y_TE_renameTree (k_TE_renameTree :: gw) ({ frames := 1, cells := 0, slots := 0, locals := 12 }) (xPc D ca b 219 C0 [.ref (b + 11), .int (nI bf), .int (nI af)]) (xQ D b 219 (fun r C1 => r = none ∧ XS ca b C1 wt ab be nd fr tt le mo nf (renT tr bf af) nt nm fy fb od pa rp se im qd hm gv)) 0 0 (xr b 219) := by
  refine Met.ofW (cc := b_TE_renameTree) (maxL := 4) (ret := none) (by decide) rfl ?_
  intro p e s m args below meth c s₁ B hml hv
  obtain ⟨hav, hP, hK⟩ := hv
  have hx := B.exec
  have hb := B.bytes
  have hr := B.returns
  have hts := atoms_spec (ws := k_TE_renameTree :: gw) B.pre
  have hown : s.vm.findClass R_TE = some m.cls := findClass_of_methodNamed B.named
  have hlocks := B.notSynchronized
  have hA : ∀ k, k < 219 → xr b 219 (b + k) := xr_in
  have hS : va_S (xr b 219) s.heap s.heap [] := va_S.rf
  have hl := lv_entry ([.ref (b + 11), .int (nI bf), .int (nI af)]) (n := 4) (Nat.le_of_ble_eq_true rfl)
  rw [hav, lg_entry_eq]
  generalize (lg_sl ([.ref (b + 11), .int (nI bf), .int (nI af)]) ++ List.replicate (4 - (lg_sl ([.ref (b + 11), .int (nI bf), .int (nI af)])).length) Slot.unset).toArray = ls at hl ⊢
  have hl : lv_has ls 4 [(0, .ref (b + 11)), (1, .int (nI bf)), (2, .int (nI af))] := hl
  rw [← hav]
  refine lv_iconst (v := nI 0) hx hb d_TE_renameTree_0 (by decide) ?_
  refine lv_istore_n (lv' := [(3, .int (nI 0)), (0, .ref (b + 11)), (1, .int (nI bf)), (2, .int (nI af))]) hx hb d_TE_renameTree_1 rfl hl (by decide) rfl (fun ls hl => ?_)
  have loop2 : ∀ (r : Nat) (i : Nat) (C : Nat → va_E) (H : Heap) (locs : List Loc) (ls : Array Slot), 6 < i + r → i ≤ 6 → va_P D classes (wl b 219 C) H → va_S (xr b 219) s.heap H locs → XS ca b C wt ab be nd fr tt le mo nf (upto i (renF tr bf af) tr) nt nm fy fb od pa rp se im qd hm gv → lv_has ls 4 [(0, .ref (b + 11)), (1, .int (nI bf)), (2, .int (nI af)), (3, .int (nI i))] → W p l e (headSpec (k_TE_renameTree :: gw) ({ frames := 1, cells := 0, slots := 0, locals := 12 })).room s m args below meth c H locs 0 0 (MQ below (xQ D b 219 (fun r C1 => r = none ∧ XS ca b C1 wt ab be nd fr tt le mo nf (renT tr bf af) nt nm fy fb od pa rp se im qd hm gv)) args s 0 0 (xr b 219)) (F0 m 2 ls []) := by
    intro r
    induction r with
    | zero => intro i C H locs ls hms hi; exact absurd hms (by omega)
    | succ r ih2 =>
      intro i C H locs ls hms hi hP hS hX hl
      refine lv_iload_n hx hb d_TE_renameTree_2 rfl (lv_at hl 3 rfl) ?_
      refine lv_bipush (v := nI 6) hx hb d_TE_renameTree_3 (by decide) ?_
      refine xi_ge (tgt := 31) hx hb d_TE_renameTree_5 (by decide) (by omega) (by omega) (fun h5 => ?_) (fun h5 => ?_)
      · skip
        have e6 : i = 6 := by omega
        rw [e6] at hX
        exact xw_vret hx hb hr hlocks hP hS ⟨rfl, hX⟩ d_TE_renameTree_31
      · skip
        have hti : tr i < 6 := hT i h5
        have hui : upto i (renF tr bf af) tr i = tr i := upto_at _ _ (by omega)
        rw [← hui] at hti
        refine lv_aload_n hx hb d_TE_renameTree_8 rfl (lv_at hl 0 rfl) ?_
        refine xw_get (v := .ref (b + 17)) hx hb hts (fun w h => mw (uw_TE w h)) hown hK hP (XS_11 hX) (by decide) rfl 5 (by decide) (hts _ (mw tb_56)) (fun _ h => h) rfl d_TE_renameTree_9 ?_
        refine lv_iload_n hx hb d_TE_renameTree_12 rfl (lv_at hl 3 rfl) ?_
        refine xw_iald hx hb hK hP 0 (XS_17 hX) (by decide) rfl (by omega) (by decide) d_TE_renameTree_13 ?_
        refine lv_iload_n hx hb d_TE_renameTree_14 rfl (lv_at hl 1 rfl) ?_
        refine xi_ne (tgt := 25) hx hb d_TE_renameTree_15 (by decide) (by omega) (by omega) (fun h15 => ?_) (fun h15 => ?_)
        · skip
          have hrn : renF tr bf af i = tr i := if_neg (by rw [← hui]; exact h15)
          rw [← upto_keep _ _ hrn] at hX
          refine lv_iinc (v := nI (i + 1)) (lv' := [(3, .int (nI (i + 1))), (0, .ref (b + 11)), (1, .int (nI bf)), (2, .int (nI af))]) hx hb d_TE_renameTree_25 hl (k := 3) rfl (show nI i + Int32.ofInt 1 = nI (i + 1) from nI_add _ _) (by decide) rfl (fun ls hl => ?_)
          refine lv_goto (tgt := 2) hx hb d_TE_renameTree_28 (by decide) ?_
          exact ih2 (i + 1) _ _ _ _ (by omega) (by omega) hP hS hX (lv_sub hl [1, 2, 3, 0] rfl)
        · skip
          have hrn : renF tr bf af i = af := if_pos (by rw [← hui]; exact h15)
          refine lv_aload_n hx hb d_TE_renameTree_18 rfl (lv_at hl 0 rfl) ?_
          refine xw_get (v := .ref (b + 17)) hx hb hts (fun w h => mw (uw_TE w h)) hown hK hP (XS_11 hX) (by decide) rfl 5 (by decide) (hts _ (mw tb_56)) (fun _ h => h) rfl d_TE_renameTree_19 ?_
          refine lv_iload_n hx hb d_TE_renameTree_22 rfl (lv_at hl 3 rfl) ?_
          refine lv_iload_n hx hb d_TE_renameTree_23 rfl (lv_at hl 2 rfl) ?_
          refine xw_iast hx hb hK hP hA hS 0 (XS_17 hX) (by decide) rfl (by omega) (by decide) d_TE_renameTree_24 (fun H locs hP hS => ?_)
          have hX := XS_set_tr (j := i) (x := af) hX
          generalize va_up _ 17 _ = C at hP hX
          have hus := upto_s i (renF tr bf af) tr
          rw [hrn] at hus
          rw [hus] at hX
          refine lv_iinc (v := nI (i + 1)) (lv' := [(3, .int (nI (i + 1))), (0, .ref (b + 11)), (1, .int (nI bf)), (2, .int (nI af))]) hx hb d_TE_renameTree_25 hl (k := 3) rfl (show nI i + Int32.ofInt 1 = nI (i + 1) from nI_add _ _) (by decide) rfl (fun ls hl => ?_)
          refine lv_goto (tgt := 2) hx hb d_TE_renameTree_28 (by decide) ?_
          exact ih2 (i + 1) _ _ _ _ (by omega) (by omega) hP hS hX (lv_sub hl [1, 2, 3, 0] rfl)
  rw [← upto_0 (renF tr bf af) tr] at hX
  exact loop2 7 0 _ _ _ _ (by omega) (by omega) hP hS hX (lv_sub hl [1, 2, 3, 0] rfl)

set_option maxHeartbeats 4000000 in
set_option maxRecDepth 100000 in
/-- the trees get names -/
theorem c_TE_nameTrees (l : Launch) (D : va_G) (ca : Nat → ClassId) (b : Nat) (C0 : Nat → va_E) {wt : Nat → Nat → Nat} {ab : Nat → Nat} {be : Nat → Nat} {nd : Nat} {fr : Nat → Nat} {tt : Nat → Option Nat} {le : Nat → Nat} {mo : Nat → Nat} {nf : Nat → Bool} {tr : Nat → Nat} {nt : Nat} {nm : Nat} {fy : Nat → Option Nat} {fb : Nat → Option Nat} {od : Nat → Nat} {pa : Nat → Option Nat} {rp : Nat → Option Nat} {se : Nat → Bool} {im : Nat → Bool} {qd : Nat} {hm : Nat} {gv : Nat → Nat}  (hX : XS ca b C0 wt ab be nd fr tt le mo nf tr nt nm fy fb od pa rp se im qd hm gv) (hT : TOK fr tt nt) : Met l y_TE_nameTrees (k_TE_nameTrees :: gw) ({ frames := 2, cells := 0, slots := 0, locals := 35 }) (xPc D ca b 219 C0 [.ref (b + 11)]) (xQ D b 219 (fun r C1 => r = none ∧ XS ca b C1 wt ab be nd fr tt le mo nf (nmT fr tt tr nt) nt nm fy fb od pa rp se im qd hm gv)) 0 0 (xr b 219) := by
  refine Met.ofW (cc := b_TE_nameTrees) (maxL := 2) (ret := none) (by decide) rfl ?_
  intro p e s m args below meth c s₁ B hml hv
  obtain ⟨hav, hP, hK⟩ := hv
  have hx := B.exec
  have hb := B.bytes
  have hr := B.returns
  have hts := atoms_spec (ws := k_TE_nameTrees :: gw) B.pre
  have hown : s.vm.findClass R_TE = some m.cls := findClass_of_methodNamed B.named
  have hlocks := B.notSynchronized
  have hA : ∀ k, k < 219 → xr b 219 (b + k) := xr_in
  have hS : va_S (xr b 219) s.heap s.heap [] := va_S.rf
  have hl := lv_entry ([.ref (b + 11)]) (n := 2) (Nat.le_of_ble_eq_true rfl)
  rw [hav, lg_entry_eq]
  generalize (lg_sl ([.ref (b + 11)]) ++ List.replicate (2 - (lg_sl ([.ref (b + 11)])).length) Slot.unset).toArray = ls at hl ⊢
  have hl : lv_has ls 2 [(0, .ref (b + 11))] := hl
  rw [← hav]
  have hT6 := hT.1
  refine lv_iconst (v := nI 0) hx hb d_TE_nameTrees_0 (by decide) ?_
  refine lv_istore_n (lv' := [(1, .int (nI 0)), (0, .ref (b + 11))]) hx hb d_TE_nameTrees_1 rfl hl (by decide) rfl (fun ls hl => ?_)
  have loop2 : ∀ (r : Nat) (i : Nat) (C : Nat → va_E) (H : Heap) (locs : List Loc) (ls : Array Slot), 6 < i + r → i ≤ 6 → va_P D classes (wl b 219 C) H → va_S (xr b 219) s.heap H locs → XS ca b C wt ab be nd fr tt le mo nf (upto i (fun d => d) tr) nt nm fy fb od pa rp se im qd hm gv → lv_has ls 2 [(0, .ref (b + 11)), (1, .int (nI i))] → W p l e (headSpec (k_TE_nameTrees :: gw) ({ frames := 2, cells := 0, slots := 0, locals := 35 })).room s m args below meth c H locs 0 0 (MQ below (xQ D b 219 (fun r C1 => r = none ∧ XS ca b C1 wt ab be nd fr tt le mo nf (nmT fr tt tr nt) nt nm fy fb od pa rp se im qd hm gv)) args s 0 0 (xr b 219)) (F0 m 2 ls []) := by
    intro r
    induction r with
    | zero => intro i C H locs ls hms hi; exact absurd hms (by omega)
    | succ r ih2 =>
      intro i C H locs ls hms hi hP hS hX hl
      refine lv_iload_n hx hb d_TE_nameTrees_2 rfl (lv_at hl 1 rfl) ?_
      refine lv_bipush (v := nI 6) hx hb d_TE_nameTrees_3 (by decide) ?_
      refine xi_ge (tgt := 21) hx hb d_TE_nameTrees_5 (by decide) (by omega) (by omega) (fun h5 => ?_) (fun h5 => ?_)
      · skip
        have e6 : i = 6 := by omega
        rw [e6] at hX
        refine lv_iconst (v := nI 0) hx hb d_TE_nameTrees_21 (by decide) ?_
        refine lv_istore_n (lv' := [(1, .int (nI 0)), (0, .ref (b + 11))]) hx hb d_TE_nameTrees_22 rfl hl (by decide) rfl (fun ls hl => ?_)
        have loop23 : ∀ (r : Nat) (j : Nat) (C : Nat → va_E) (H : Heap) (locs : List Loc) (ls : Array Slot), nt < j + r → j ≤ nt → va_P D classes (wl b 219 C) H → va_S (xr b 219) s.heap H locs → XS ca b C wt ab be nd fr tt le mo nf (nmT fr tt tr j) nt nm fy fb od pa rp se im qd hm gv → lv_has ls 2 [(0, .ref (b + 11)), (1, .int (nI j))] → W p l e (headSpec (k_TE_nameTrees :: gw) ({ frames := 2, cells := 0, slots := 0, locals := 35 })).room s m args below meth c H locs 0 0 (MQ below (xQ D b 219 (fun r C1 => r = none ∧ XS ca b C1 wt ab be nd fr tt le mo nf (nmT fr tt tr nt) nt nm fy fb od pa rp se im qd hm gv)) args s 0 0 (xr b 219)) (F0 m 23 ls []) := by
          intro r
          induction r with
          | zero => intro j C H locs ls hms hj; exact absurd hms (by omega)
          | succ r ih23 =>
            intro j C H locs ls hms hj hP hS hX hl
            refine lv_iload_n hx hb d_TE_nameTrees_23 rfl (lv_at hl 1 rfl) ?_
            refine lv_aload_n hx hb d_TE_nameTrees_24 rfl (lv_at hl 0 rfl) ?_
            refine xw_get (v := .int (nI nt)) hx hb hts (fun w h => mw (uw_TE w h)) hown hK hP (XS_11 hX) (by decide) rfl 6 (by decide) (hts _ (mw tb_57)) (fun _ h => h) rfl d_TE_nameTrees_25 ?_
            refine xi_ge (tgt := 73) hx hb d_TE_nameTrees_28 (by decide) (by omega) (by omega) (fun h28 => ?_) (fun h28 => ?_)
            · skip
              have ej : j = nt := by omega
              rw [ej] at hX
              exact xw_vret hx hb hr hlocks hP hS ⟨rfl, hX⟩ d_TE_nameTrees_73
            · skip
              refine lv_aload_n hx hb d_TE_nameTrees_31 rfl (lv_at hl 0 rfl) ?_
              refine xw_get (v := .ref (b + 13)) hx hb hts (fun w h => mw (uw_TE w h)) hown hK hP (XS_11 hX) (by decide) rfl 1 (by decide) (hts _ (mw tb_52)) (fun _ h => h) rfl d_TE_nameTrees_32 ?_
              refine lv_iload_n hx hb d_TE_nameTrees_35 rfl (lv_at hl 1 rfl) ?_
              refine xw_iald hx hb hK hP 0 (XS_13 hX) (by decide) rfl (by omega) (by decide) d_TE_nameTrees_36 ?_
              refine lv_iconst (v := (-1)) hx hb d_TE_nameTrees_37 (by decide) ?_
              refine xo_eq (tgt := 67) hx hb d_TE_nameTrees_38 (by decide) (hT.t h28) (fun h38 => ?_) (fun d38 h38 => ?_)
              · skip
                rw [← nmT_none (fr := fr) (t := tr) h38] at hX
                refine lv_iinc (v := nI (j + 1)) (lv' := [(1, .int (nI (j + 1))), (0, .ref (b + 11))]) hx hb d_TE_nameTrees_67 hl (k := 1) rfl (show nI j + Int32.ofInt 1 = nI (j + 1) from nI_add _ _) (by decide) rfl (fun ls hl => ?_)
                refine lv_goto (tgt := 23) hx hb d_TE_nameTrees_70 (by decide) ?_
                exact ih23 (j + 1) _ _ _ _ (by omega) (by omega) hP hS hX (lv_sub hl [1, 0] rfl)
              · skip
                refine lv_aload_n hx hb d_TE_nameTrees_41 rfl (lv_at hl 0 rfl) ?_
                refine lv_aload_n hx hb d_TE_nameTrees_42 rfl (lv_at hl 0 rfl) ?_
                refine xw_get (v := .ref (b + 17)) hx hb hts (fun w h => mw (uw_TE w h)) hown hK hP (XS_11 hX) (by decide) rfl 5 (by decide) (hts _ (mw tb_56)) (fun _ h => h) rfl d_TE_nameTrees_43 ?_
                refine lv_aload_n hx hb d_TE_nameTrees_46 rfl (lv_at hl 0 rfl) ?_
                refine xw_get (v := .ref (b + 12)) hx hb hts (fun w h => mw (uw_TE w h)) hown hK hP (XS_11 hX) (by decide) rfl 0 (by decide) (hts _ (mw tb_51)) (fun _ h => h) rfl d_TE_nameTrees_47 ?_
                refine lv_iload_n hx hb d_TE_nameTrees_50 rfl (lv_at hl 1 rfl) ?_
                refine xw_iald hx hb hK hP 0 (XS_12 hX) (by decide) rfl (by omega) (by decide) d_TE_nameTrees_51 ?_
                refine xw_iald hx hb hK hP 0 (XS_17 hX) (by decide) rfl (hT.f h28) (by decide) d_TE_nameTrees_52 ?_
                refine lv_aload_n hx hb d_TE_nameTrees_53 rfl (lv_at hl 0 rfl) ?_
                refine xw_get (v := .ref (b + 17)) hx hb hts (fun w h => mw (uw_TE w h)) hown hK hP (XS_11 hX) (by decide) rfl 5 (by decide) (hts _ (mw tb_56)) (fun _ h => h) rfl d_TE_nameTrees_54 ?_
                refine lv_aload_n hx hb d_TE_nameTrees_57 rfl (lv_at hl 0 rfl) ?_
                refine xw_get (v := .ref (b + 13)) hx hb hts (fun w h => mw (uw_TE w h)) hown hK hP (XS_11 hX) (by decide) rfl 1 (by decide) (hts _ (mw tb_52)) (fun _ h => h) rfl d_TE_nameTrees_58 ?_
                refine lv_iload_n hx hb d_TE_nameTrees_61 rfl (lv_at hl 1 rfl) ?_
                refine xw_iald hx hb hK hP 0 (XS_13 hX) (by decide) rfl (by omega) (by decide) d_TE_nameTrees_62 ?_
                refine ti (nI d38) (by rw [h38]; rfl) ?_
                refine xw_iald hx hb hK hP 0 (XS_17 hX) (by decide) rfl (by have := (hT.2 j h28).2 _ h38; omega) (by decide) d_TE_nameTrees_63 ?_
                refine xc_V (n := 2) (As := [.int (nI ((nmT fr tt tr j) (fr j))), .int (nI ((nmT fr tt tr j) d38))]) (rest := []) (st0 := _) hx hb hml hown hts (c_TE_renameTree l D ca b _ ((nmT fr tt tr j) (fr j)) ((nmT fr tt tr j) d38) hX (nmT_lt hT j (by omega) _ (hT.f h28)) (nmT_lt hT j (by omega))) km_TE_renameTree tb_452 tb_454 tps_15 tb_3 (by decide +kernel) rfl rfl ⟨Nat.le_of_ble_eq_true rfl, Nat.le_of_ble_eq_true rfl⟩ hK hP (XS_11 hX) (by decide) rfl rfl rfl hl rfl (Nat.le_of_ble_eq_true rfl) d_TE_nameTrees_64 ⟨Nat.zero_le _, Nat.zero_le _⟩ hS (fun _ h => h) (fun v C H locs hp hP _ _ hS => ?_)
                obtain ⟨rfl, hX⟩ := hp
                rw [← nmT_some (fr := fr) (t := tr) h38] at hX
                refine lv_iinc (v := nI (j + 1)) (lv' := [(1, .int (nI (j + 1))), (0, .ref (b + 11))]) hx hb d_TE_nameTrees_67 hl (k := 1) rfl (show nI j + Int32.ofInt 1 = nI (j + 1) from nI_add _ _) (by decide) rfl (fun ls hl => ?_)
                refine lv_goto (tgt := 23) hx hb d_TE_nameTrees_70 (by decide) ?_
                exact ih23 (j + 1) _ _ _ _ (by omega) (by omega) hP hS hX (lv_sub hl [1, 0] rfl)
        exact loop23 (nt + 1) 0 _ _ _ _ (by omega) (by omega) hP hS hX (lv_sub hl [1, 0] rfl)
      · skip
        refine lv_aload_n hx hb d_TE_nameTrees_8 rfl (lv_at hl 0 rfl) ?_
        refine xw_get (v := .ref (b + 17)) hx hb hts (fun w h => mw (uw_TE w h)) hown hK hP (XS_11 hX) (by decide) rfl 5 (by decide) (hts _ (mw tb_56)) (fun _ h => h) rfl d_TE_nameTrees_9 ?_
        refine lv_iload_n hx hb d_TE_nameTrees_12 rfl (lv_at hl 1 rfl) ?_
        refine lv_iload_n hx hb d_TE_nameTrees_13 rfl (lv_at hl 1 rfl) ?_
        refine xw_iast hx hb hK hP hA hS 0 (XS_17 hX) (by decide) rfl (by omega) (by decide) d_TE_nameTrees_14 (fun H locs hP hS => ?_)
        have hX := XS_set_tr (j := i) (x := i) hX
        generalize va_up _ 17 _ = C at hP hX
        refine lv_iinc (v := nI (i + 1)) (lv' := [(1, .int (nI (i + 1))), (0, .ref (b + 11))]) hx hb d_TE_nameTrees_15 hl (k := 1) rfl (show nI i + Int32.ofInt 1 = nI (i + 1) from nI_add _ _) (by decide) rfl (fun ls hl => ?_)
        refine lv_goto (tgt := 2) hx hb d_TE_nameTrees_18 (by decide) ?_
        rw [upto_s i (fun d => d) tr] at hX
        exact ih2 (i + 1) _ _ _ _ (by omega) (by omega) hP hS hX (lv_sub hl [1, 0] rfl)
  rw [← upto_0 (fun d => d) tr] at hX
  exact loop2 7 0 _ _ _ _ (by omega) (by omega) hP hS hX (lv_sub hl [1, 0] rfl)

set_option maxHeartbeats 4000000 in
set_option maxRecDepth 100000 in
/-- whether a tree has a member -/
theorem c_TE_hasMember (l : Launch) (D : va_G) (ca : Nat → ClassId) (b : Nat) (C0 : Nat → va_E) {wt : Nat → Nat → Nat} {ab : Nat → Nat} {be : Nat → Nat} {nd : Nat} {fr : Nat → Nat} {tt : Nat → Option Nat} {le : Nat → Nat} {mo : Nat → Nat} {nf : Nat → Bool} {tr : Nat → Nat} {nt : Nat} {nm : Nat} {fy : Nat → Option Nat} {fb : Nat → Option Nat} {od : Nat → Nat} {pa : Nat → Option Nat} {rp : Nat → Option Nat} {se : Nat → Bool} {im : Nat → Bool} {qd : Nat} {hm : Nat} {gv : Nat → Nat} (x : Nat) (hX : XS ca b C0 wt ab be nd fr tt le mo nf tr nt nm fy fb od pa rp se im qd hm gv) (hT : TOK fr tt nt) (hxl : x < 6) (htr : ∀ d, d < 6 → tr d < 6) : Met l y_TE_hasMember (k_TE_hasMember :: gw) ({ frames := 1, cells := 0, slots := 0, locals := 12 }) (xPc D ca b 219 C0 [.ref (b + 11), .int (nI x)]) (xQ D b 219 (fun r C1 => ∃ z : Bool, r = some (.int (nI z.toNat)) ∧ (z = true ↔ hasM fr tt tr nt x) ∧ XS ca b C1 wt ab be nd fr tt le mo nf tr nt nm fy fb od pa rp se im qd hm gv)) 0 0 (xr b 219) := by
  refine Met.ofW (cc := b_TE_hasMember) (maxL := 3) (ret := (some FieldType.boolean)) (by decide) rfl ?_
  intro p e s m args below meth c s₁ B hml hv
  obtain ⟨hav, hP, hK⟩ := hv
  have hx := B.exec
  have hb := B.bytes
  have hr := B.returns
  have hts := atoms_spec (ws := k_TE_hasMember :: gw) B.pre
  have hown : s.vm.findClass R_TE = some m.cls := findClass_of_methodNamed B.named
  have hlocks := B.notSynchronized
  have hA : ∀ k, k < 219 → xr b 219 (b + k) := xr_in
  have hS : va_S (xr b 219) s.heap s.heap [] := va_S.rf
  have hl := lv_entry ([.ref (b + 11), .int (nI x)]) (n := 3) (Nat.le_of_ble_eq_true rfl)
  rw [hav, lg_entry_eq]
  generalize (lg_sl ([.ref (b + 11), .int (nI x)]) ++ List.replicate (3 - (lg_sl ([.ref (b + 11), .int (nI x)])).length) Slot.unset).toArray = ls at hl ⊢
  have hl : lv_has ls 3 [(0, .ref (b + 11)), (1, .int (nI x))] := hl
  rw [← hav]
  have hT6 := hT.1
  refine lv_iconst (v := nI 0) hx hb d_TE_hasMember_0 (by decide) ?_
  refine lv_istore_n (lv' := [(2, .int (nI 0)), (0, .ref (b + 11)), (1, .int (nI x))]) hx hb d_TE_hasMember_1 rfl hl (by decide) rfl (fun ls hl => ?_)
  have loop2 : ∀ (r : Nat) (i : Nat) (C : Nat → va_E) (H : Heap) (locs : List Loc) (ls : Array Slot), nt < i + r → i ≤ nt → (∀ k, k < i → ¬ (tt k = none ∧ tr (fr k) = x)) → va_P D classes (wl b 219 C) H → va_S (xr b 219) s.heap H locs → XS ca b C wt ab be nd fr tt le mo nf tr nt nm fy fb od pa rp se im qd hm gv → lv_has ls 3 [(0, .ref (b + 11)), (1, .int (nI x)), (2, .int (nI i))] → W p l e (headSpec (k_TE_hasMember :: gw) ({ frames := 1, cells := 0, slots := 0, locals := 12 })).room s m args below meth c H locs 0 0 (MQ below (xQ D b 219 (fun r C1 => ∃ z : Bool, r = some (.int (nI z.toNat)) ∧ (z = true ↔ hasM fr tt tr nt x) ∧ XS ca b C1 wt ab be nd fr tt le mo nf tr nt nm fy fb od pa rp se im qd hm gv)) args s 0 0 (xr b 219)) (F0 m 2 ls []) := by
    intro r
    induction r with
    | zero => intro i C H locs ls hms hi hno; exact absurd hms (by omega)
    | succ r ih2 =>
      intro i C H locs ls hms hi hno hP hS hX hl
      refine lv_iload_n hx hb d_TE_hasMember_2 rfl (lv_at hl 2 rfl) ?_
      refine lv_aload_n hx hb d_TE_hasMember_3 rfl (lv_at hl 0 rfl) ?_
      refine xw_get (v := .int (nI nt)) hx hb hts (fun w h => mw (uw_TE w h)) hown hK hP (XS_11 hX) (by decide) rfl 6 (by decide) (hts _ (mw tb_57)) (fun _ h => h) rfl d_TE_hasMember_4 ?_
      refine xi_ge (tgt := 43) hx hb d_TE_hasMember_7 (by decide) (by omega) (by omega) (fun h7 => ?_) (fun h7 => ?_)
      · skip
        refine lv_iconst (v := nI 0) hx hb d_TE_hasMember_43 (by decide) ?_
        exact xw_zret hx hb hr hlocks nz0 hP hS ⟨false, rfl, ⟨fun q => (by cases q), fun ⟨k, q1, q2, q3⟩ => absurd ⟨q2, q3⟩ (hno k (by omega))⟩, hX⟩ d_TE_hasMember_44
      · skip
        refine lv_aload_n hx hb d_TE_hasMember_10 rfl (lv_at hl 0 rfl) ?_
        refine xw_get (v := .ref (b + 13)) hx hb hts (fun w h => mw (uw_TE w h)) hown hK hP (XS_11 hX) (by decide) rfl 1 (by decide) (hts _ (mw tb_52)) (fun _ h => h) rfl d_TE_hasMember_11 ?_
        refine lv_iload_n hx hb d_TE_hasMember_14 rfl (lv_at hl 2 rfl) ?_
        refine xw_iald hx hb hK hP 0 (XS_13 hX) (by decide) rfl (by omega) (by decide) d_TE_hasMember_15 ?_
        refine lv_iconst (v := (-1)) hx hb d_TE_hasMember_16 (by decide) ?_
        refine xo_ne (tgt := 37) hx hb d_TE_hasMember_17 (by decide) (hT.t h7) (fun d17 h17 => ?_) (fun h17 => ?_)
        · skip
          refine lv_iinc (v := nI (i + 1)) (lv' := [(2, .int (nI (i + 1))), (0, .ref (b + 11)), (1, .int (nI x))]) hx hb d_TE_hasMember_37 hl (k := 2) rfl (show nI i + Int32.ofInt 1 = nI (i + 1) from nI_add _ _) (by decide) rfl (fun ls hl => ?_)
          refine lv_goto (tgt := 2) hx hb d_TE_hasMember_40 (by decide) ?_
          exact ih2 (i + 1) _ _ _ _ (by omega) (by omega) (fun k hk => by
              by_cases q : k = i
              · subst q; exact (fun q => by rw [h17] at q; cases q.1)
              · exact hno k (by omega)) hP hS hX (lv_sub hl [1, 2, 0] rfl)
        · skip
          have htf : tr (fr i) < 6 := htr _ (hT.f h7)
          refine lv_aload_n hx hb d_TE_hasMember_20 rfl (lv_at hl 0 rfl) ?_
          refine xw_get (v := .ref (b + 17)) hx hb hts (fun w h => mw (uw_TE w h)) hown hK hP (XS_11 hX) (by decide) rfl 5 (by decide) (hts _ (mw tb_56)) (fun _ h => h) rfl d_TE_hasMember_21 ?_
          refine lv_aload_n hx hb d_TE_hasMember_24 rfl (lv_at hl 0 rfl) ?_
          refine xw_get (v := .ref (b + 12)) hx hb hts (fun w h => mw (uw_TE w h)) hown hK hP (XS_11 hX) (by decide) rfl 0 (by decide) (hts _ (mw tb_51)) (fun _ h => h) rfl d_TE_hasMember_25 ?_
          refine lv_iload_n hx hb d_TE_hasMember_28 rfl (lv_at hl 2 rfl) ?_
          refine xw_iald hx hb hK hP 0 (XS_12 hX) (by decide) rfl (by omega) (by decide) d_TE_hasMember_29 ?_
          refine xw_iald hx hb hK hP 0 (XS_17 hX) (by decide) rfl (hT.f h7) (by decide) d_TE_hasMember_30 ?_
          refine lv_iload_n hx hb d_TE_hasMember_31 rfl (lv_at hl 1 rfl) ?_
          refine xi_ne (tgt := 37) hx hb d_TE_hasMember_32 (by decide) (by omega) (by omega) (fun h32 => ?_) (fun h32 => ?_)
          · skip
            refine lv_iinc (v := nI (i + 1)) (lv' := [(2, .int (nI (i + 1))), (0, .ref (b + 11)), (1, .int (nI x))]) hx hb d_TE_hasMember_37 hl (k := 2) rfl (show nI i + Int32.ofInt 1 = nI (i + 1) from nI_add _ _) (by decide) rfl (fun ls hl => ?_)
            refine lv_goto (tgt := 2) hx hb d_TE_hasMember_40 (by decide) ?_
            exact ih2 (i + 1) _ _ _ _ (by omega) (by omega) (fun k hk => by
                by_cases q : k = i
                · subst q; exact (fun q => h32 q.2)
                · exact hno k (by omega)) hP hS hX (lv_sub hl [1, 2, 0] rfl)
          · skip
            refine lv_iconst (v := nI 1) hx hb d_TE_hasMember_35 (by decide) ?_
            exact xw_zret hx hb hr hlocks nz1 hP hS ⟨true, rfl, ⟨fun _ => ⟨i, h7, h17, h32⟩, fun _ => rfl⟩, hX⟩ d_TE_hasMember_36
  exact loop2 (nt + 1) 0 _ _ _ _ (by omega) (by omega) (fun k hk => absurd hk (by omega)) hP hS hX (lv_sub hl [1, 2, 0] rfl)

set_option maxHeartbeats 4000000 in
set_option maxRecDepth 100000 in
/-- whether the tree of a date has a member -/
theorem c_TE_treeHasMember (l : Launch) (D : va_G) (ca : Nat → ClassId) (b : Nat) (C0 : Nat → va_E) {wt : Nat → Nat → Nat} {ab : Nat → Nat} {be : Nat → Nat} {nd : Nat} {fr : Nat → Nat} {tt : Nat → Option Nat} {le : Nat → Nat} {mo : Nat → Nat} {nf : Nat → Bool} {tr : Nat → Nat} {nt : Nat} {nm : Nat} {fy : Nat → Option Nat} {fb : Nat → Option Nat} {od : Nat → Nat} {pa : Nat → Option Nat} {rp : Nat → Option Nat} {se : Nat → Bool} {im : Nat → Bool} {qd : Nat} {hm : Nat} {gv : Nat → Nat} (d : Nat) (hX : XS ca b C0 wt ab be nd fr tt le mo nf tr nt nm fy fb od pa rp se im qd hm gv) (hT : TOK fr tt nt) (hd : d < 6) : Met l y_TE_treeHasMember (k_TE_treeHasMember :: gw) ({ frames := 3, cells := 0, slots := 0, locals := 56 }) (xPc D ca b 219 C0 [.ref (b + 11), .int (nI d)]) (xQ D b 219 (fun r C1 => ∃ z : Bool, r = some (.int (nI z.toNat)) ∧ (z = true ↔ hasM fr tt (nmT fr tt tr nt) nt (nmT fr tt tr nt d)) ∧ XS ca b C1 wt ab be nd fr tt le mo nf (nmT fr tt tr nt) nt nm fy fb od pa rp se im qd hm gv)) 0 0 (xr b 219) := by
  refine Met.ofW (cc := b_TE_treeHasMember) (maxL := 2) (ret := (some FieldType.boolean)) (by decide) rfl ?_
  intro p e s m args below meth c s₁ B hml hv
  obtain ⟨hav, hP, hK⟩ := hv
  have hx := B.exec
  have hb := B.bytes
  have hr := B.returns
  have hts := atoms_spec (ws := k_TE_treeHasMember :: gw) B.pre
  have hown : s.vm.findClass R_TE = some m.cls := findClass_of_methodNamed B.named
  have hlocks := B.notSynchronized
  have hA : ∀ k, k < 219 → xr b 219 (b + k) := xr_in
  have hS : va_S (xr b 219) s.heap s.heap [] := va_S.rf
  have hl := lv_entry ([.ref (b + 11), .int (nI d)]) (n := 2) (Nat.le_of_ble_eq_true rfl)
  rw [hav, lg_entry_eq]
  generalize (lg_sl ([.ref (b + 11), .int (nI d)]) ++ List.replicate (2 - (lg_sl ([.ref (b + 11), .int (nI d)])).length) Slot.unset).toArray = ls at hl ⊢
  have hl : lv_has ls 2 [(0, .ref (b + 11)), (1, .int (nI d))] := hl
  rw [← hav]
  refine lv_aload_n hx hb d_TE_treeHasMember_0 rfl (lv_at hl 0 rfl) ?_
  refine xc_V (n := 0) (As := []) (rest := []) (st0 := _) hx hb hml hown hts (c_TE_nameTrees l D ca b _  hX hT) km_TE_nameTrees tb_448 tb_450 tps_14 tb_3 (by decide +kernel) rfl rfl ⟨Nat.le_of_ble_eq_true rfl, Nat.le_of_ble_eq_true rfl⟩ hK hP (XS_11 hX) (by decide) rfl rfl rfl hl rfl (Nat.le_of_ble_eq_true rfl) d_TE_treeHasMember_1 ⟨Nat.zero_le _, Nat.zero_le _⟩ hS (fun _ h => h) (fun v C H locs hp hP _ _ hS => ?_)
  obtain ⟨rfl, hX⟩ := hp
  refine lv_aload_n hx hb d_TE_treeHasMember_4 rfl (lv_at hl 0 rfl) ?_
  refine lv_aload_n hx hb d_TE_treeHasMember_5 rfl (lv_at hl 0 rfl) ?_
  refine xw_get (v := .ref (b + 17)) hx hb hts (fun w h => mw (uw_TE w h)) hown hK hP (XS_11 hX) (by decide) rfl 5 (by decide) (hts _ (mw tb_56)) (fun _ h => h) rfl d_TE_treeHasMember_6 ?_
  refine lv_iload_n hx hb d_TE_treeHasMember_9 rfl (lv_at hl 1 rfl) ?_
  refine xw_iald hx hb hK hP 0 (XS_17 hX) (by decide) rfl (by omega) (by decide) d_TE_treeHasMember_10 ?_
  refine xc_V (n := 1) (As := [.int (nI ((nmT fr tt tr nt) d))]) (rest := []) (st0 := _) hx hb hml hown hts (c_TE_hasMember l D ca b _ ((nmT fr tt tr nt) d) hX hT (nmT_lt hT nt (Nat.le_refl _) d hd) (nmT_lt hT nt (Nat.le_refl _))) km_TE_hasMember tb_456 tb_458 tps_16 tb_3 (by decide +kernel) rfl rfl ⟨Nat.le_of_ble_eq_true rfl, Nat.le_of_ble_eq_true rfl⟩ hK hP (XS_11 hX) (by decide) rfl rfl rfl hl rfl (Nat.le_of_ble_eq_true rfl) d_TE_treeHasMember_11 ⟨Nat.zero_le _, Nat.zero_le _⟩ hS (fun _ h => h) (fun v C H locs hp hP _ _ hS => ?_)
  obtain ⟨z1, rfl, hz1, hX⟩ := hp
  exact xw_zret hx hb hr hlocks (nzB _) hP hS ⟨z1, rfl, hz1, hX⟩ d_TE_treeHasMember_14

set_option maxHeartbeats 4000000 in
set_option maxRecDepth 100000 in
/-- whether a row may join two dates -/
theorem c_TE_mayJoin (l : Launch) (D : va_G) (ca : Nat → ClassId) (b : Nat) (C0 : Nat → va_E) {wt : Nat → Nat → Nat} {ab : Nat → Nat} {be : Nat → Nat} {nd : Nat} {fr : Nat → Nat} {tt : Nat → Option Nat} {le : Nat → Nat} {mo : Nat → Nat} {nf : Nat → Bool} {tr : Nat → Nat} {nt : Nat} {nm : Nat} {fy : Nat → Option Nat} {fb : Nat → Option Nat} {od : Nat → Nat} {pa : Nat → Option Nat} {rp : Nat → Option Nat} {se : Nat → Bool} {im : Nat → Bool} {qd : Nat} {hm : Nat} {gv : Nat → Nat} (d f : Nat) (hX : XS ca b C0 wt ab be nd fr tt le mo nf tr nt nm fy fb od pa rp se im qd hm gv) (hT : TOK fr tt nt) (hd : d < 6) (hf : f < 6) : Met l y_TE_mayJoin (k_TE_mayJoin :: gw) ({ frames := 3, cells := 0, slots := 0, locals := 56 }) (xPc D ca b 219 C0 [.ref (b + 11), .int (nI d), .int (nI f)]) (xQ D b 219 (fun r C1 => ∃ z : Bool, r = some (.int (nI z.toNat)) ∧ (z = true ↔ nmT fr tt tr nt d ≠ nmT fr tt tr nt f ∧ ¬ (hasM fr tt (nmT fr tt tr nt) nt (nmT fr tt tr nt d) ∧ hasM fr tt (nmT fr tt tr nt) nt (nmT fr tt tr nt f))) ∧ XS ca b C1 wt ab be nd fr tt le mo nf (nmT fr tt tr nt) nt nm fy fb od pa rp se im qd hm gv)) 0 0 (xr b 219) := by
  refine Met.ofW (cc := b_TE_mayJoin) (maxL := 3) (ret := (some FieldType.boolean)) (by decide) rfl ?_
  intro p e s m args below meth c s₁ B hml hv
  obtain ⟨hav, hP, hK⟩ := hv
  have hx := B.exec
  have hb := B.bytes
  have hr := B.returns
  have hts := atoms_spec (ws := k_TE_mayJoin :: gw) B.pre
  have hown : s.vm.findClass R_TE = some m.cls := findClass_of_methodNamed B.named
  have hlocks := B.notSynchronized
  have hA : ∀ k, k < 219 → xr b 219 (b + k) := xr_in
  have hS : va_S (xr b 219) s.heap s.heap [] := va_S.rf
  have hl := lv_entry ([.ref (b + 11), .int (nI d), .int (nI f)]) (n := 3) (Nat.le_of_ble_eq_true rfl)
  rw [hav, lg_entry_eq]
  generalize (lg_sl ([.ref (b + 11), .int (nI d), .int (nI f)]) ++ List.replicate (3 - (lg_sl ([.ref (b + 11), .int (nI d), .int (nI f)])).length) Slot.unset).toArray = ls at hl ⊢
  have hl : lv_has ls 3 [(0, .ref (b + 11)), (1, .int (nI d)), (2, .int (nI f))] := hl
  rw [← hav]
  have hnd := nmT_lt (t := tr) hT nt (Nat.le_refl _) d hd
  have hnf := nmT_lt (t := tr) hT nt (Nat.le_refl _) f hf
  refine lv_aload_n hx hb d_TE_mayJoin_0 rfl (lv_at hl 0 rfl) ?_
  refine xc_V (n := 0) (As := []) (rest := []) (st0 := _) hx hb hml hown hts (c_TE_nameTrees l D ca b _  hX hT) km_TE_nameTrees tb_448 tb_450 tps_14 tb_3 (by decide +kernel) rfl rfl ⟨Nat.le_of_ble_eq_true rfl, Nat.le_of_ble_eq_true rfl⟩ hK hP (XS_11 hX) (by decide) rfl rfl rfl hl rfl (Nat.le_of_ble_eq_true rfl) d_TE_mayJoin_1 ⟨Nat.zero_le _, Nat.zero_le _⟩ hS (fun _ h => h) (fun v C H locs hp hP _ _ hS => ?_)
  obtain ⟨rfl, hX⟩ := hp
  refine lv_aload_n hx hb d_TE_mayJoin_4 rfl (lv_at hl 0 rfl) ?_
  refine xw_get (v := .ref (b + 17)) hx hb hts (fun w h => mw (uw_TE w h)) hown hK hP (XS_11 hX) (by decide) rfl 5 (by decide) (hts _ (mw tb_56)) (fun _ h => h) rfl d_TE_mayJoin_5 ?_
  refine lv_iload_n hx hb d_TE_mayJoin_8 rfl (lv_at hl 1 rfl) ?_
  refine xw_iald hx hb hK hP 0 (XS_17 hX) (by decide) rfl (by omega) (by decide) d_TE_mayJoin_9 ?_
  refine lv_aload_n hx hb d_TE_mayJoin_10 rfl (lv_at hl 0 rfl) ?_
  refine xw_get (v := .ref (b + 17)) hx hb hts (fun w h => mw (uw_TE w h)) hown hK hP (XS_11 hX) (by decide) rfl 5 (by decide) (hts _ (mw tb_56)) (fun _ h => h) rfl d_TE_mayJoin_11 ?_
  refine lv_iload_n hx hb d_TE_mayJoin_14 rfl (lv_at hl 2 rfl) ?_
  refine xw_iald hx hb hK hP 0 (XS_17 hX) (by decide) rfl (by omega) (by decide) d_TE_mayJoin_15 ?_
  refine xi_eq (tgt := 49) hx hb d_TE_mayJoin_16 (by decide) (by omega) (by omega) (fun h16 => ?_) (fun h16 => ?_)
  · skip
    refine lv_iconst (v := nI 0) hx hb d_TE_mayJoin_49 (by decide) ?_
    exact xw_zret hx hb hr hlocks nz0 hP hS ⟨false, rfl, ⟨fun q => (by cases q), fun q => absurd h16 q.1⟩, hX⟩ d_TE_mayJoin_50
  · skip
    refine lv_aload_n hx hb d_TE_mayJoin_19 rfl (lv_at hl 0 rfl) ?_
    refine lv_aload_n hx hb d_TE_mayJoin_20 rfl (lv_at hl 0 rfl) ?_
    refine xw_get (v := .ref (b + 17)) hx hb hts (fun w h => mw (uw_TE w h)) hown hK hP (XS_11 hX) (by decide) rfl 5 (by decide) (hts _ (mw tb_56)) (fun _ h => h) rfl d_TE_mayJoin_21 ?_
    refine lv_iload_n hx hb d_TE_mayJoin_24 rfl (lv_at hl 1 rfl) ?_
    refine xw_iald hx hb hK hP 0 (XS_17 hX) (by decide) rfl (by omega) (by decide) d_TE_mayJoin_25 ?_
    refine xc_V (n := 1) (As := [.int (nI ((nmT fr tt tr nt) d))]) (rest := []) (st0 := _) hx hb hml hown hts (c_TE_hasMember l D ca b _ ((nmT fr tt tr nt) d) hX hT hnd (nmT_lt hT nt (Nat.le_refl _))) km_TE_hasMember tb_456 tb_458 tps_16 tb_3 (by decide +kernel) rfl rfl ⟨Nat.le_of_ble_eq_true rfl, Nat.le_of_ble_eq_true rfl⟩ hK hP (XS_11 hX) (by decide) rfl rfl rfl hl rfl (Nat.le_of_ble_eq_true rfl) d_TE_mayJoin_26 ⟨Nat.zero_le _, Nat.zero_le _⟩ hS (fun _ h => h) (fun v C H locs hp hP _ _ hS => ?_)
    obtain ⟨z1, rfl, hz1, hX⟩ := hp
    refine xz_eq (tgt := 45) hx hb d_TE_mayJoin_29 (by decide) (tn31 _) (fun h29 => ?_) (fun h29 => ?_)
    · skip
      have hz1f := bf h29
      refine lv_iconst (v := nI 1) hx hb d_TE_mayJoin_45 (by decide) ?_
      refine lv_goto (tgt := 50) hx hb d_TE_mayJoin_46 (by decide) ?_
      exact xw_zret hx hb hr hlocks nz1 hP hS ⟨true, rfl, ⟨fun _ => ⟨h16, fun q => by have := hz1.mpr q.1; rw [hz1f] at this; cases this⟩, fun _ => rfl⟩, hX⟩ d_TE_mayJoin_50
    · skip
      have hz1t := bt h29
      refine lv_aload_n hx hb d_TE_mayJoin_32 rfl (lv_at hl 0 rfl) ?_
      refine lv_aload_n hx hb d_TE_mayJoin_33 rfl (lv_at hl 0 rfl) ?_
      refine xw_get (v := .ref (b + 17)) hx hb hts (fun w h => mw (uw_TE w h)) hown hK hP (XS_11 hX) (by decide) rfl 5 (by decide) (hts _ (mw tb_56)) (fun _ h => h) rfl d_TE_mayJoin_34 ?_
      refine lv_iload_n hx hb d_TE_mayJoin_37 rfl (lv_at hl 2 rfl) ?_
      refine xw_iald hx hb hK hP 0 (XS_17 hX) (by decide) rfl (by omega) (by decide) d_TE_mayJoin_38 ?_
      refine xc_V (n := 1) (As := [.int (nI ((nmT fr tt tr nt) f))]) (rest := []) (st0 := _) hx hb hml hown hts (c_TE_hasMember l D ca b _ ((nmT fr tt tr nt) f) hX hT hnf (nmT_lt hT nt (Nat.le_refl _))) km_TE_hasMember tb_456 tb_458 tps_16 tb_3 (by decide +kernel) rfl rfl ⟨Nat.le_of_ble_eq_true rfl, Nat.le_of_ble_eq_true rfl⟩ hK hP (XS_11 hX) (by decide) rfl rfl rfl hl rfl (Nat.le_of_ble_eq_true rfl) d_TE_mayJoin_39 ⟨Nat.zero_le _, Nat.zero_le _⟩ hS (fun _ h => h) (fun v C H locs hp hP _ _ hS => ?_)
      obtain ⟨z2, rfl, hz2, hX⟩ := hp
      refine xz_ne (tgt := 49) hx hb d_TE_mayJoin_42 (by decide) (tn31 _) (fun h42 => ?_) (fun h42 => ?_)
      · skip
        have hz2t := bt h42
        refine lv_iconst (v := nI 0) hx hb d_TE_mayJoin_49 (by decide) ?_
        exact xw_zret hx hb hr hlocks nz0 hP hS ⟨false, rfl, ⟨fun q => (by cases q), fun q => absurd ⟨hz1.mp hz1t, hz2.mp hz2t⟩ q.2⟩, hX⟩ d_TE_mayJoin_50
      · skip
        have hz2f := bf h42
        refine lv_iconst (v := nI 1) hx hb d_TE_mayJoin_45 (by decide) ?_
        refine lv_goto (tgt := 50) hx hb d_TE_mayJoin_46 (by decide) ?_
        exact xw_zret hx hb hr hlocks nz1 hP hS ⟨true, rfl, ⟨fun _ => ⟨h16, fun q => by have := hz2.mpr q.2; rw [hz2f] at this; cases this⟩, fun _ => rfl⟩, hX⟩ d_TE_mayJoin_50

set_option maxHeartbeats 4000000 in
set_option maxRecDepth 100000 in
/-- something is put in force or out of it -/
theorem c_TE_setInForce (l : Launch) (D : va_G) (ca : Nat → ClassId) (b : Nat) (C0 : Nat → va_E) {wt : Nat → Nat → Nat} {ab : Nat → Nat} {be : Nat → Nat} {nd : Nat} {fr : Nat → Nat} {tt : Nat → Option Nat} {le : Nat → Nat} {mo : Nat → Nat} {nf : Nat → Bool} {tr : Nat → Nat} {nt : Nat} {nm : Nat} {fy : Nat → Option Nat} {fb : Nat → Option Nat} {od : Nat → Nat} {pa : Nat → Option Nat} {rp : Nat → Option Nat} {se : Nat → Bool} {im : Nat → Bool} {qd : Nat} {hm : Nat} {gv : Nat → Nat} (i : Nat) (z : Bool) (hX : XS ca b C0 wt ab be nd fr tt le mo nf tr nt nm fy fb od pa rp se im qd hm gv) (hi : i < 6) : Met l y_TE_setInForce (k_TE_setInForce :: gw) ({ frames := 1, cells := 0, slots := 0, locals := 12 }) (xPc D ca b 219 C0 [.ref (b + 11), .int (nI i), .int (nI z.toNat)]) (xQ D b 219 (fun r C1 => r = none ∧ XS ca b C1 wt ab be nd fr tt le mo (va_up nf i z) tr nt nm fy fb od pa rp se im qd hm gv)) 0 0 (xr b 219) := by
  refine Met.ofW (cc := b_TE_setInForce) (maxL := 3) (ret := none) (by decide) rfl ?_
  intro p e s m args below meth c s₁ B hml hv
  obtain ⟨hav, hP, hK⟩ := hv
  have hx := B.exec
  have hb := B.bytes
  have hr := B.returns
  have hts := atoms_spec (ws := k_TE_setInForce :: gw) B.pre
  have hown : s.vm.findClass R_TE = some m.cls := findClass_of_methodNamed B.named
  have hlocks := B.notSynchronized
  have hA : ∀ k, k < 219 → xr b 219 (b + k) := xr_in
  have hS : va_S (xr b 219) s.heap s.heap [] := va_S.rf
  have hl := lv_entry ([.ref (b + 11), .int (nI i), .int (nI z.toNat)]) (n := 3) (Nat.le_of_ble_eq_true rfl)
  rw [hav, lg_entry_eq]
  generalize (lg_sl ([.ref (b + 11), .int (nI i), .int (nI z.toNat)]) ++ List.replicate (3 - (lg_sl ([.ref (b + 11), .int (nI i), .int (nI z.toNat)])).length) Slot.unset).toArray = ls at hl ⊢
  have hl : lv_has ls 3 [(0, .ref (b + 11)), (1, .int (nI i)), (2, .int (nI z.toNat))] := hl
  rw [← hav]
  refine lv_aload_n hx hb d_TE_setInForce_0 rfl (lv_at hl 0 rfl) ?_
  refine xw_get (v := .ref (b + 16)) hx hb hts (fun w h => mw (uw_TE w h)) hown hK hP (XS_11 hX) (by decide) rfl 4 (by decide) (hts _ (mw tb_55)) (fun _ h => h) rfl d_TE_setInForce_1 ?_
  refine lv_iload_n hx hb d_TE_setInForce_4 rfl (lv_at hl 1 rfl) ?_
  refine lv_iload_n hx hb d_TE_setInForce_5 rfl (lv_at hl 2 rfl) ?_
  refine xw_zast hx hb hK hP hA hS 2 (XS_16 hX) (by decide) rfl (by omega) (by decide) d_TE_setInForce_6 (fun H locs hP hS => ?_)
  have hX := XS_set_nf (j := i) (x := z) hX
  generalize va_up _ 16 _ = C at hP hX
  exact xw_vret hx hb hr hlocks hP hS ⟨rfl, hX⟩ d_TE_setInForce_7

set_option maxHeartbeats 4000000 in
set_option maxRecDepth 100000 in
/-- all is in force -/
theorem c_TE_putAllBack (l : Launch) (D : va_G) (ca : Nat → ClassId) (b : Nat) (C0 : Nat → va_E) {wt : Nat → Nat → Nat} {ab : Nat → Nat} {be : Nat → Nat} {nd : Nat} {fr : Nat → Nat} {tt : Nat → Option Nat} {le : Nat → Nat} {mo : Nat → Nat} {nf : Nat → Bool} {tr : Nat → Nat} {nt : Nat} {nm : Nat} {fy : Nat → Option Nat} {fb : Nat → Option Nat} {od : Nat → Nat} {pa : Nat → Option Nat} {rp : Nat → Option Nat} {se : Nat → Bool} {im : Nat → Bool} {qd : Nat} {hm : Nat} {gv : Nat → Nat}  (hX : XS ca b C0 wt ab be nd fr tt le mo nf tr nt nm fy fb od pa rp se im qd hm gv) (hnt : nt ≤ 6) : Met l y_TE_putAllBack (k_TE_putAllBack :: gw) ({ frames := 1, cells := 0, slots := 0, locals := 12 }) (xPc D ca b 219 C0 [.ref (b + 11)]) (xQ D b 219 (fun r C1 => r = none ∧ XS ca b C1 wt ab be nd fr tt le mo (allB nt nf) tr nt nm fy fb od pa rp se im qd hm gv)) 0 0 (xr b 219) := by
  refine Met.ofW (cc := b_TE_putAllBack) (maxL := 2) (ret := none) (by decide) rfl ?_
  intro p e s m args below meth c s₁ B hml hv
  obtain ⟨hav, hP, hK⟩ := hv
  have hx := B.exec
  have hb := B.bytes
  have hr := B.returns
  have hts := atoms_spec (ws := k_TE_putAllBack :: gw) B.pre
  have hown : s.vm.findClass R_TE = some m.cls := findClass_of_methodNamed B.named
  have hlocks := B.notSynchronized
  have hA : ∀ k, k < 219 → xr b 219 (b + k) := xr_in
  have hS : va_S (xr b 219) s.heap s.heap [] := va_S.rf
  have hl := lv_entry ([.ref (b + 11)]) (n := 2) (Nat.le_of_ble_eq_true rfl)
  rw [hav, lg_entry_eq]
  generalize (lg_sl ([.ref (b + 11)]) ++ List.replicate (2 - (lg_sl ([.ref (b + 11)])).length) Slot.unset).toArray = ls at hl ⊢
  have hl : lv_has ls 2 [(0, .ref (b + 11))] := hl
  rw [← hav]
  refine lv_iconst (v := nI 0) hx hb d_TE_putAllBack_0 (by decide) ?_
  refine lv_istore_n (lv' := [(1, .int (nI 0)), (0, .ref (b + 11))]) hx hb d_TE_putAllBack_1 rfl hl (by decide) rfl (fun ls hl => ?_)
  have loop2 : ∀ (r : Nat) (i : Nat) (C : Nat → va_E) (H : Heap) (locs : List Loc) (ls : Array Slot), nt < i + r → i ≤ nt → va_P D classes (wl b 219 C) H → va_S (xr b 219) s.heap H locs → XS ca b C wt ab be nd fr tt le mo (allB i nf) tr nt nm fy fb od pa rp se im qd hm gv → lv_has ls 2 [(0, .ref (b + 11)), (1, .int (nI i))] → W p l e (headSpec (k_TE_putAllBack :: gw) ({ frames := 1, cells := 0, slots := 0, locals := 12 })).room s m args below meth c H locs 0 0 (MQ below (xQ D b 219 (fun r C1 => r = none ∧ XS ca b C1 wt ab be nd fr tt le mo (allB nt nf) tr nt nm fy fb od pa rp se im qd hm gv)) args s 0 0 (xr b 219)) (F0 m 2 ls []) := by
    intro r
    induction r with
    | zero => intro i C H locs ls hms hi; exact absurd hms (by omega)
    | succ r ih2 =>
      intro i C H locs ls hms hi hP hS hX hl
      refine lv_iload_n hx hb d_TE_putAllBack_2 rfl (lv_at hl 1 rfl) ?_
      refine lv_aload_n hx hb d_TE_putAllBack_3 rfl (lv_at hl 0 rfl) ?_
      refine xw_get (v := .int (nI nt)) hx hb hts (fun w h => mw (uw_TE w h)) hown hK hP (XS_11 hX) (by decide) rfl 6 (by decide) (hts _ (mw tb_57)) (fun _ h => h) rfl d_TE_putAllBack_4 ?_
      refine xi_ge (tgt := 23) hx hb d_TE_putAllBack_7 (by decide) (by omega) (by omega) (fun h7 => ?_) (fun h7 => ?_)
      · skip
        have ei : i = nt := by omega
        rw [ei] at hX
        exact xw_vret hx hb hr hlocks hP hS ⟨rfl, hX⟩ d_TE_putAllBack_23
      · skip
        refine lv_aload_n hx hb d_TE_putAllBack_10 rfl (lv_at hl 0 rfl) ?_
        refine xw_get (v := .ref (b + 16)) hx hb hts (fun w h => mw (uw_TE w h)) hown hK hP (XS_11 hX) (by decide) rfl 4 (by decide) (hts _ (mw tb_55)) (fun _ h => h) rfl d_TE_putAllBack_11 ?_
        refine lv_iload_n hx hb d_TE_putAllBack_14 rfl (lv_at hl 1 rfl) ?_
        refine lv_iconst (v := nI 1) hx hb d_TE_putAllBack_15 (by decide) ?_
        refine xw_zast hx hb hK hP hA hS 2 (XS_16 hX) (by decide) rfl (by omega) (by decide) d_TE_putAllBack_16 (fun H locs hP hS => ?_)
        have hX := XS_set_nf (j := i) (x := true) hX
        rw [show nI true.toNat = nI 1 from rfl] at hX
        generalize va_up _ 16 _ = C at hP hX
        refine lv_iinc (v := nI (i + 1)) (lv' := [(1, .int (nI (i + 1))), (0, .ref (b + 11))]) hx hb d_TE_putAllBack_17 hl (k := 1) rfl (show nI i + Int32.ofInt 1 = nI (i + 1) from nI_add _ _) (by decide) rfl (fun ls hl => ?_)
        refine lv_goto (tgt := 2) hx hb d_TE_putAllBack_20 (by decide) ?_
        rw [allB_s] at hX
        exact ih2 (i + 1) _ _ _ _ (by omega) (by omega) hP hS hX (lv_sub hl [1, 0] rfl)
  rw [← allB_0 nf] at hX
  exact loop2 (nt + 1) 0 _ _ _ _ (by omega) (by omega) hP hS hX (lv_sub hl [1, 0] rfl)

set_option maxHeartbeats 4000000 in
set_option maxRecDepth 100000 in
/-- the k-th that is in force -/
theorem c_TE_inForceAt (l : Launch) (D : va_G) (ca : Nat → ClassId) (b : Nat) (C0 : Nat → va_E) {wt : Nat → Nat → Nat} {ab : Nat → Nat} {be : Nat → Nat} {nd : Nat} {fr : Nat → Nat} {tt : Nat → Option Nat} {le : Nat → Nat} {mo : Nat → Nat} {nf : Nat → Bool} {tr : Nat → Nat} {nt : Nat} {nm : Nat} {fy : Nat → Option Nat} {fb : Nat → Option Nat} {od : Nat → Nat} {pa : Nat → Option Nat} {rp : Nat → Option Nat} {se : Nat → Bool} {im : Nat → Bool} {qd : Nat} {hm : Nat} {gv : Nat → Nat} (k : Nat) (hX : XS ca b C0 wt ab be nd fr tt le mo nf tr nt nm fy fb od pa rp se im qd hm gv) (hnt : nt ≤ 6) (hk31 : k < 2 ^ 31) : Met l y_TE_inForceAt (k_TE_inForceAt :: gw) ({ frames := 1, cells := 0, slots := 0, locals := 12 }) (xPc D ca b 219 C0 [.ref (b + 11), .int (nI k)]) (xQ D b 219 (fun r C1 => ∃ z : Option Nat, r = some (.int (eo z)) ∧ ((∃ i, z = some i ∧ i < nt ∧ nf i = true ∧ k = sm (fun j => (nf j).toNat) i) ∨ (z = none ∧ sm (fun j => (nf j).toNat) nt ≤ k)) ∧ XS ca b C1 wt ab be nd fr tt le mo nf tr nt nm fy fb od pa rp se im qd hm gv)) 0 0 (xr b 219) := by
  refine Met.ofW (cc := b_TE_inForceAt) (maxL := 4) (ret := (some FieldType.int)) (by decide) rfl ?_
  intro p e s m args below meth c s₁ B hml hv
  obtain ⟨hav, hP, hK⟩ := hv
  have hx := B.exec
  have hb := B.bytes
  have hr := B.returns
  have hts := atoms_spec (ws := k_TE_inForceAt :: gw) B.pre
  have hown : s.vm.findClass R_TE = some m.cls := findClass_of_methodNamed B.named
  have hlocks := B.notSynchronized
  have hA : ∀ k, k < 219 → xr b 219 (b + k) := xr_in
  have hS : va_S (xr b 219) s.heap s.heap [] := va_S.rf
  have hl := lv_entry ([.ref (b + 11), .int (nI k)]) (n := 4) (Nat.le_of_ble_eq_true rfl)
  rw [hav, lg_entry_eq]
  generalize (lg_sl ([.ref (b + 11), .int (nI k)]) ++ List.replicate (4 - (lg_sl ([.ref (b + 11), .int (nI k)])).length) Slot.unset).toArray = ls at hl ⊢
  have hl : lv_has ls 4 [(0, .ref (b + 11)), (1, .int (nI k))] := hl
  rw [← hav]
  refine lv_iconst (v := nI 0) hx hb d_TE_inForceAt_0 (by decide) ?_
  refine lv_istore_n (lv' := [(2, .int (nI 0)), (0, .ref (b + 11)), (1, .int (nI k))]) hx hb d_TE_inForceAt_1 rfl hl (by decide) rfl (fun ls hl => ?_)
  refine lv_iconst (v := nI 0) hx hb d_TE_inForceAt_2 (by decide) ?_
  refine lv_istore_n (lv' := [(3, .int (nI 0)), (2, .int (nI 0)), (0, .ref (b + 11)), (1, .int (nI k))]) hx hb d_TE_inForceAt_3 rfl hl (by decide) rfl (fun ls hl => ?_)
  have loop4 : ∀ (r : Nat) (i : Nat) (c0 : Nat) (C : Nat → va_E) (H : Heap) (locs : List Loc) (ls : Array Slot), nt < i + r → i ≤ nt → c0 = sm (fun j => (nf j).toNat) i → c0 ≤ k → c0 ≤ i → va_P D classes (wl b 219 C) H → va_S (xr b 219) s.heap H locs → XS ca b C wt ab be nd fr tt le mo nf tr nt nm fy fb od pa rp se im qd hm gv → lv_has ls 4 [(0, .ref (b + 11)), (1, .int (nI k)), (2, .int (nI c0)), (3, .int (nI i))] → W p l e (headSpec (k_TE_inForceAt :: gw) ({ frames := 1, cells := 0, slots := 0, locals := 12 })).room s m args below meth c H locs 0 0 (MQ below (xQ D b 219 (fun r C1 => ∃ z : Option Nat, r = some (.int (eo z)) ∧ ((∃ i, z = some i ∧ i < nt ∧ nf i = true ∧ k = sm (fun j => (nf j).toNat) i) ∨ (z = none ∧ sm (fun j => (nf j).toNat) nt ≤ k)) ∧ XS ca b C1 wt ab be nd fr tt le mo nf tr nt nm fy fb od pa rp se im qd hm gv)) args s 0 0 (xr b 219)) (F0 m 4 ls []) := by
    intro r
    induction r with
    | zero => intro i c0 C H locs ls hms hi hc hk hc6; exact absurd hms (by omega)
    | succ r ih4 =>
      intro i c0 C H locs ls hms hi hc hk hc6 hP hS hX hl
      refine lv_iload_n hx hb d_TE_inForceAt_4 rfl (lv_at hl 3 rfl) ?_
      refine lv_aload_n hx hb d_TE_inForceAt_5 rfl (lv_at hl 0 rfl) ?_
      refine xw_get (v := .int (nI nt)) hx hb hts (fun w h => mw (uw_TE w h)) hown hK hP (XS_11 hX) (by decide) rfl 6 (by decide) (hts _ (mw tb_57)) (fun _ h => h) rfl d_TE_inForceAt_6 ?_
      refine xi_ge (tgt := 37) hx hb d_TE_inForceAt_9 (by decide) (by omega) (by omega) (fun h9 => ?_) (fun h9 => ?_)
      · skip
        refine lv_iconst (v := (-1)) hx hb d_TE_inForceAt_37 (by decide) ?_
        exact xw_iret hx hb hr hlocks hP hS ⟨none, rfl, Or.inr ⟨rfl, by rw [show nt = i by omega, ← hc]; exact hk⟩, hX⟩ d_TE_inForceAt_38
      · skip
        refine lv_aload_n hx hb d_TE_inForceAt_12 rfl (lv_at hl 0 rfl) ?_
        refine xw_get (v := .ref (b + 16)) hx hb hts (fun w h => mw (uw_TE w h)) hown hK hP (XS_11 hX) (by decide) rfl 4 (by decide) (hts _ (mw tb_55)) (fun _ h => h) rfl d_TE_inForceAt_13 ?_
        refine lv_iload_n hx hb d_TE_inForceAt_16 rfl (lv_at hl 3 rfl) ?_
        refine xw_zald hx hb hK hP 2 (XS_16 hX) (by decide) rfl (by omega) (by decide) d_TE_inForceAt_17 ?_
        refine xz_eq (tgt := 31) hx hb d_TE_inForceAt_18 (by decide) (tn31 _) (fun h18 => ?_) (fun h18 => ?_)
        · skip
          refine lv_iinc (v := nI (i + 1)) (lv' := [(3, .int (nI (i + 1))), (0, .ref (b + 11)), (1, .int (nI k)), (2, .int (nI c0))]) hx hb d_TE_inForceAt_31 hl (k := 3) rfl (show nI i + Int32.ofInt 1 = nI (i + 1) from nI_add _ _) (by decide) rfl (fun ls hl => ?_)
          refine lv_goto (tgt := 4) hx hb d_TE_inForceAt_34 (by decide) ?_
          exact ih4 (i + 1) c0 _ _ _ _ (by omega) (by omega) (by rw [sm_s, ← hc, h18]; rfl) (by omega) (by omega) hP hS hX (lv_sub hl [1, 2, 3, 0] rfl)
        · skip
          refine lv_iload_n hx hb d_TE_inForceAt_21 rfl (lv_at hl 2 rfl) ?_
          refine lv_iload_n hx hb d_TE_inForceAt_22 rfl (lv_at hl 1 rfl) ?_
          refine xi_ne (tgt := 28) hx hb d_TE_inForceAt_23 (by decide) (by omega) (by omega) (fun h23 => ?_) (fun h23 => ?_)
          · skip
            refine lv_iinc (v := nI (c0 + 1)) (lv' := [(2, .int (nI (c0 + 1))), (0, .ref (b + 11)), (1, .int (nI k)), (3, .int (nI i))]) hx hb d_TE_inForceAt_28 hl (k := 2) rfl (show nI c0 + Int32.ofInt 1 = nI (c0 + 1) from nI_add _ _) (by decide) rfl (fun ls hl => ?_)
            refine lv_iinc (v := nI (i + 1)) (lv' := [(3, .int (nI (i + 1))), (2, .int (nI (c0 + 1))), (0, .ref (b + 11)), (1, .int (nI k))]) hx hb d_TE_inForceAt_31 hl (k := 3) rfl (show nI i + Int32.ofInt 1 = nI (i + 1) from nI_add _ _) (by decide) rfl (fun ls hl => ?_)
            refine lv_goto (tgt := 4) hx hb d_TE_inForceAt_34 (by decide) ?_
            exact ih4 (i + 1) (c0 + 1) _ _ _ _ (by omega) (by omega) (by rw [sm_s, ← hc, bt h18]; rfl) (by omega) (by omega) hP hS hX (lv_sub hl [2, 3, 1, 0] rfl)
          · skip
            refine lv_iload_n hx hb d_TE_inForceAt_26 rfl (lv_at hl 3 rfl) ?_
            exact xw_iret hx hb hr hlocks hP hS ⟨some i, rfl, Or.inl ⟨i, rfl, h9, bt h18, h23.symm ▸ hc⟩, hX⟩ d_TE_inForceAt_27
  exact loop4 (nt + 1) 0 0 _ _ _ _ (by omega) (by omega) rfl (by omega) (by omega) hP hS hX (lv_sub hl [2, 3, 1, 0] rfl)

set_option maxHeartbeats 4000000 in
set_option maxRecDepth 100000 in
/-- the date that something makes a member -/
theorem c_TE_memberOf (l : Launch) (D : va_G) (ca : Nat → ClassId) (b : Nat) (C0 : Nat → va_E) {wt : Nat → Nat → Nat} {ab : Nat → Nat} {be : Nat → Nat} {nd : Nat} {fr : Nat → Nat} {tt : Nat → Option Nat} {le : Nat → Nat} {mo : Nat → Nat} {nf : Nat → Bool} {tr : Nat → Nat} {nt : Nat} {nm : Nat} {fy : Nat → Option Nat} {fb : Nat → Option Nat} {od : Nat → Nat} {pa : Nat → Option Nat} {rp : Nat → Option Nat} {se : Nat → Bool} {im : Nat → Bool} {qd : Nat} {hm : Nat} {gv : Nat → Nat} (i : Nat) (hX : XS ca b C0 wt ab be nd fr tt le mo nf tr nt nm fy fb od pa rp se im qd hm gv) (hT : TOK fr tt nt) (hi : i < nt) : Met l y_TE_memberOf (k_TE_memberOf :: gw) ({ frames := 1, cells := 0, slots := 0, locals := 12 }) (xPc D ca b 219 C0 [.ref (b + 11), .int (nI i)]) (xQ D b 219 (fun r C1 => r = some (.int (eo (memO fr tt nf i))) ∧ XS ca b C1 wt ab be nd fr tt le mo nf tr nt nm fy fb od pa rp se im qd hm gv)) 0 0 (xr b 219) := by
  refine Met.ofW (cc := b_TE_memberOf) (maxL := 2) (ret := (some FieldType.int)) (by decide) rfl ?_
  intro p e s m args below meth c s₁ B hml hv
  obtain ⟨hav, hP, hK⟩ := hv
  have hx := B.exec
  have hb := B.bytes
  have hr := B.returns
  have hts := atoms_spec (ws := k_TE_memberOf :: gw) B.pre
  have hown : s.vm.findClass R_TE = some m.cls := findClass_of_methodNamed B.named
  have hlocks := B.notSynchronized
  have hA : ∀ k, k < 219 → xr b 219 (b + k) := xr_in
  have hS : va_S (xr b 219) s.heap s.heap [] := va_S.rf
  have hl := lv_entry ([.ref (b + 11), .int (nI i)]) (n := 2) (Nat.le_of_ble_eq_true rfl)
  rw [hav, lg_entry_eq]
  generalize (lg_sl ([.ref (b + 11), .int (nI i)]) ++ List.replicate (2 - (lg_sl ([.ref (b + 11), .int (nI i)])).length) Slot.unset).toArray = ls at hl ⊢
  have hl : lv_has ls 2 [(0, .ref (b + 11)), (1, .int (nI i))] := hl
  rw [← hav]
  have hT6 := hT.1
  refine lv_aload_n hx hb d_TE_memberOf_0 rfl (lv_at hl 0 rfl) ?_
  refine xw_get (v := .ref (b + 16)) hx hb hts (fun w h => mw (uw_TE w h)) hown hK hP (XS_11 hX) (by decide) rfl 4 (by decide) (hts _ (mw tb_55)) (fun _ h => h) rfl d_TE_memberOf_1 ?_
  refine lv_iload_n hx hb d_TE_memberOf_4 rfl (lv_at hl 1 rfl) ?_
  refine xw_zald hx hb hK hP 2 (XS_16 hX) (by decide) rfl (by omega) (by decide) d_TE_memberOf_5 ?_
  refine xz_eq (tgt := 28) hx hb d_TE_memberOf_6 (by decide) (tn31 _) (fun h6 => ?_) (fun h6 => ?_)
  · skip
    refine lv_iconst (v := (-1)) hx hb d_TE_memberOf_28 (by decide) ?_
    exact xw_iret hx hb hr hlocks hP hS ⟨by simp [memO, bf h6, eo], hX⟩ d_TE_memberOf_29
  · skip
    refine lv_aload_n hx hb d_TE_memberOf_9 rfl (lv_at hl 0 rfl) ?_
    refine xw_get (v := .ref (b + 13)) hx hb hts (fun w h => mw (uw_TE w h)) hown hK hP (XS_11 hX) (by decide) rfl 1 (by decide) (hts _ (mw tb_52)) (fun _ h => h) rfl d_TE_memberOf_10 ?_
    refine lv_iload_n hx hb d_TE_memberOf_13 rfl (lv_at hl 1 rfl) ?_
    refine xw_iald hx hb hK hP 0 (XS_13 hX) (by decide) rfl (by omega) (by decide) d_TE_memberOf_14 ?_
    refine lv_iconst (v := (-1)) hx hb d_TE_memberOf_15 (by decide) ?_
    refine xo_ne (tgt := 28) hx hb d_TE_memberOf_16 (by decide) (hT.t hi) (fun d16 h16 => ?_) (fun h16 => ?_)
    · skip
      refine lv_iconst (v := (-1)) hx hb d_TE_memberOf_28 (by decide) ?_
      exact xw_iret hx hb hr hlocks hP hS ⟨by simp [memO, h16, eo], hX⟩ d_TE_memberOf_29
    · skip
      refine lv_aload_n hx hb d_TE_memberOf_19 rfl (lv_at hl 0 rfl) ?_
      refine xw_get (v := .ref (b + 12)) hx hb hts (fun w h => mw (uw_TE w h)) hown hK hP (XS_11 hX) (by decide) rfl 0 (by decide) (hts _ (mw tb_51)) (fun _ h => h) rfl d_TE_memberOf_20 ?_
      refine lv_iload_n hx hb d_TE_memberOf_23 rfl (lv_at hl 1 rfl) ?_
      refine xw_iald hx hb hK hP 0 (XS_12 hX) (by decide) rfl (by omega) (by decide) d_TE_memberOf_24 ?_
      refine lv_goto (tgt := 29) hx hb d_TE_memberOf_25 (by decide) ?_
      exact xw_iret hx hb hr hlocks hP hS ⟨by simp [memO, h16, bt h6, eo], hX⟩ d_TE_memberOf_29

set_option maxHeartbeats 4000000 in
set_option maxRecDepth 100000 in
/-- the date that a row joins to this one -/
theorem c_TE_otherEnd (l : Launch) (D : va_G) (ca : Nat → ClassId) (b : Nat) (C0 : Nat → va_E) {wt : Nat → Nat → Nat} {ab : Nat → Nat} {be : Nat → Nat} {nd : Nat} {fr : Nat → Nat} {tt : Nat → Option Nat} {le : Nat → Nat} {mo : Nat → Nat} {nf : Nat → Bool} {tr : Nat → Nat} {nt : Nat} {nm : Nat} {fy : Nat → Option Nat} {fb : Nat → Option Nat} {od : Nat → Nat} {pa : Nat → Option Nat} {rp : Nat → Option Nat} {se : Nat → Bool} {im : Nat → Bool} {qd : Nat} {hm : Nat} {gv : Nat → Nat} (i d : Nat) (hX : XS ca b C0 wt ab be nd fr tt le mo nf tr nt nm fy fb od pa rp se im qd hm gv) (hT : TOK fr tt nt) (hi : i < nt) (hd : d < 6) : Met l y_TE_otherEnd (k_TE_otherEnd :: gw) ({ frames := 1, cells := 0, slots := 0, locals := 12 }) (xPc D ca b 219 C0 [.ref (b + 11), .int (nI i), .int (nI d)]) (xQ D b 219 (fun r C1 => r = some (.int (eo (oth fr tt nf i d))) ∧ XS ca b C1 wt ab be nd fr tt le mo nf tr nt nm fy fb od pa rp se im qd hm gv)) 0 0 (xr b 219) := by
  refine Met.ofW (cc := b_TE_otherEnd) (maxL := 3) (ret := (some FieldType.int)) (by decide) rfl ?_
  intro p e s m args below meth c s₁ B hml hv
  obtain ⟨hav, hP, hK⟩ := hv
  have hx := B.exec
  have hb := B.bytes
  have hr := B.returns
  have hts := atoms_spec (ws := k_TE_otherEnd :: gw) B.pre
  have hown : s.vm.findClass R_TE = some m.cls := findClass_of_methodNamed B.named
  have hlocks := B.notSynchronized
  have hA : ∀ k, k < 219 → xr b 219 (b + k) := xr_in
  have hS : va_S (xr b 219) s.heap s.heap [] := va_S.rf
  have hl := lv_entry ([.ref (b + 11), .int (nI i), .int (nI d)]) (n := 3) (Nat.le_of_ble_eq_true rfl)
  rw [hav, lg_entry_eq]
  generalize (lg_sl ([.ref (b + 11), .int (nI i), .int (nI d)]) ++ List.replicate (3 - (lg_sl ([.ref (b + 11), .int (nI i), .int (nI d)])).length) Slot.unset).toArray = ls at hl ⊢
  have hl : lv_has ls 3 [(0, .ref (b + 11)), (1, .int (nI i)), (2, .int (nI d))] := hl
  rw [← hav]
  have hT6 := hT.1
  have hfi := hT.f hi
  refine lv_aload_n hx hb d_TE_otherEnd_0 rfl (lv_at hl 0 rfl) ?_
  refine xw_get (v := .ref (b + 16)) hx hb hts (fun w h => mw (uw_TE w h)) hown hK hP (XS_11 hX) (by decide) rfl 4 (by decide) (hts _ (mw tb_55)) (fun _ h => h) rfl d_TE_otherEnd_1 ?_
  refine lv_iload_n hx hb d_TE_otherEnd_4 rfl (lv_at hl 1 rfl) ?_
  refine xw_zald hx hb hK hP 2 (XS_16 hX) (by decide) rfl (by omega) (by decide) d_TE_otherEnd_5 ?_
  refine xz_eq (tgt := 19) hx hb d_TE_otherEnd_6 (by decide) (tn31 _) (fun h6 => ?_) (fun h6 => ?_)
  · skip
    refine lv_iconst (v := (-1)) hx hb d_TE_otherEnd_19 (by decide) ?_
    exact xw_iret hx hb hr hlocks hP hS ⟨by rw [oth_off (bf h6)]; rfl, hX⟩ d_TE_otherEnd_20
  · skip
    refine lv_aload_n hx hb d_TE_otherEnd_9 rfl (lv_at hl 0 rfl) ?_
    refine xw_get (v := .ref (b + 13)) hx hb hts (fun w h => mw (uw_TE w h)) hown hK hP (XS_11 hX) (by decide) rfl 1 (by decide) (hts _ (mw tb_52)) (fun _ h => h) rfl d_TE_otherEnd_10 ?_
    refine lv_iload_n hx hb d_TE_otherEnd_13 rfl (lv_at hl 1 rfl) ?_
    refine xw_iald hx hb hK hP 0 (XS_13 hX) (by decide) rfl (by omega) (by decide) d_TE_otherEnd_14 ?_
    refine lv_iconst (v := (-1)) hx hb d_TE_otherEnd_15 (by decide) ?_
    refine xo_ne (tgt := 21) hx hb d_TE_otherEnd_16 (by decide) (hT.t hi) (fun d16 h16 => ?_) (fun h16 => ?_)
    · skip
      have hos := oth_some (fr := fr) (d := d) (bt h6) h16
      have hd16 := (hT.2 i hi).2 _ h16
      refine lv_aload_n hx hb d_TE_otherEnd_21 rfl (lv_at hl 0 rfl) ?_
      refine xw_get (v := .ref (b + 12)) hx hb hts (fun w h => mw (uw_TE w h)) hown hK hP (XS_11 hX) (by decide) rfl 0 (by decide) (hts _ (mw tb_51)) (fun _ h => h) rfl d_TE_otherEnd_22 ?_
      refine lv_iload_n hx hb d_TE_otherEnd_25 rfl (lv_at hl 1 rfl) ?_
      refine xw_iald hx hb hK hP 0 (XS_12 hX) (by decide) rfl (by omega) (by decide) d_TE_otherEnd_26 ?_
      refine lv_iload_n hx hb d_TE_otherEnd_27 rfl (lv_at hl 2 rfl) ?_
      refine xi_ne (tgt := 38) hx hb d_TE_otherEnd_28 (by decide) (by omega) (by omega) (fun h28 => ?_) (fun h28 => ?_)
      · skip
        refine lv_aload_n hx hb d_TE_otherEnd_38 rfl (lv_at hl 0 rfl) ?_
        refine xw_get (v := .ref (b + 13)) hx hb hts (fun w h => mw (uw_TE w h)) hown hK hP (XS_11 hX) (by decide) rfl 1 (by decide) (hts _ (mw tb_52)) (fun _ h => h) rfl d_TE_otherEnd_39 ?_
        refine lv_iload_n hx hb d_TE_otherEnd_42 rfl (lv_at hl 1 rfl) ?_
        refine xw_iald hx hb hK hP 0 (XS_13 hX) (by decide) rfl (by omega) (by decide) d_TE_otherEnd_43 ?_
        refine ti (nI d16) (by rw [h16]; rfl) ?_
        refine lv_iload_n hx hb d_TE_otherEnd_44 rfl (lv_at hl 2 rfl) ?_
        refine xi_ne (tgt := 57) hx hb d_TE_otherEnd_45 (by decide) (by omega) (by omega) (fun h45 => ?_) (fun h45 => ?_)
        · skip
          refine lv_iconst (v := (-1)) hx hb d_TE_otherEnd_57 (by decide) ?_
          exact xw_iret hx hb hr hlocks hP hS ⟨by rw [hos, if_neg h28, if_neg h45]; rfl, hX⟩ d_TE_otherEnd_58
        · skip
          refine lv_aload_n hx hb d_TE_otherEnd_48 rfl (lv_at hl 0 rfl) ?_
          refine xw_get (v := .ref (b + 12)) hx hb hts (fun w h => mw (uw_TE w h)) hown hK hP (XS_11 hX) (by decide) rfl 0 (by decide) (hts _ (mw tb_51)) (fun _ h => h) rfl d_TE_otherEnd_49 ?_
          refine lv_iload_n hx hb d_TE_otherEnd_52 rfl (lv_at hl 1 rfl) ?_
          refine xw_iald hx hb hK hP 0 (XS_12 hX) (by decide) rfl (by omega) (by decide) d_TE_otherEnd_53 ?_
          refine lv_goto (tgt := 58) hx hb d_TE_otherEnd_54 (by decide) ?_
          exact xw_iret hx hb hr hlocks hP hS ⟨by rw [hos, if_neg h28, if_pos h45]; rfl, hX⟩ d_TE_otherEnd_58
      · skip
        refine lv_aload_n hx hb d_TE_otherEnd_31 rfl (lv_at hl 0 rfl) ?_
        refine xw_get (v := .ref (b + 13)) hx hb hts (fun w h => mw (uw_TE w h)) hown hK hP (XS_11 hX) (by decide) rfl 1 (by decide) (hts _ (mw tb_52)) (fun _ h => h) rfl d_TE_otherEnd_32 ?_
        refine lv_iload_n hx hb d_TE_otherEnd_35 rfl (lv_at hl 1 rfl) ?_
        refine xw_iald hx hb hK hP 0 (XS_13 hX) (by decide) rfl (by omega) (by decide) d_TE_otherEnd_36 ?_
        refine ti (nI d16) (by rw [h16]; rfl) ?_
        exact xw_iret hx hb hr hlocks hP hS ⟨by rw [hos, if_pos h28]; rfl, hX⟩ d_TE_otherEnd_37
    · skip
      refine lv_iconst (v := (-1)) hx hb d_TE_otherEnd_19 (by decide) ?_
      exact xw_iret hx hb hr hlocks hP hS ⟨by rw [oth_none h16]; rfl, hX⟩ d_TE_otherEnd_20

