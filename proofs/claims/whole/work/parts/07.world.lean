/-! A world by number: the cell k lies at b + k and holds C k -/
def wl (b N : Nat) (C : Nat → va_E) : va_W := (List.range N).map (fun k => (b + k, C k))
theorem wl_len (b N : Nat) (C : Nat → va_E) : (wl b N C).length = N := by simp [wl]
theorem wl_get {b N k : Nat} {C : Nat → va_E} (hk : k < N) : (wl b N C)[k]? = some (b + k, C k) := by
  simp [wl, hk]
theorem wl_at {b N k : Nat} {C : Nat → va_E} {e : va_E} (h : C k = e) (hk : k < N) : (wl b N C)[k]? = some (b + k, e) := by
  rw [wl_get hk, h]
theorem wl_of {b N k : Nat} {C : Nat → va_E} {q : Nat × va_E} (h : (wl b N C)[k]? = some q) : k < N ∧ q = (b + k, C k) := by
  have hk : k < N := by
    have := (List.getElem?_eq_some_iff.mp h).1
    rwa [wl_len] at this
  rw [wl_get hk] at h
  exact ⟨hk, (Option.some.inj h).symm⟩
theorem wl_set {b N k : Nat} {C : Nat → va_E} {e : va_E} (hk : k < N) : (wl b N C).set k (b + k, e) = wl b N (va_up C k e) := by
  apply List.ext_getElem?
  intro i
  rw [List.getElem?_set, wl_len]
  by_cases q : k = i
  · subst q
    rw [if_pos rfl, if_pos hk, wl_get hk, va_up_self]
  · rw [if_neg q]
    by_cases hi : i < N
    · rw [wl_get hi, wl_get hi, va_up_ne _ _ (fun e => q e.symm)]
    · rw [List.getElem?_eq_none (by rw [wl_len]; omega), List.getElem?_eq_none (by rw [wl_len]; omega)]
theorem wl_D {A : Nat → Prop} {b N : Nat} {C : Nat → va_E} (hA : ∀ k, k < N → A (b + k)) : va_D A (wl b N C) := by
  refine ⟨fun i j p q hi hj e => ?_, fun k q hk => ?_⟩
  · obtain ⟨-, rfl⟩ := wl_of hi
    obtain ⟨-, rfl⟩ := wl_of hj
    have : b + i = b + j := e
    omega
  · obtain ⟨h, rfl⟩ := wl_of hk
    exact hA k h
theorem wl_P {D : va_G} {cl : List vw_C} {b N : Nat} {C : Nat → va_E} {H : Heap} : va_P D cl (wl b N C) H ↔ ∀ k, k < N → va_at D cl (b + k, C k) H :=
  ⟨fun h k hk => h k _ (wl_get hk), fun h k q hq => by obtain ⟨hk, rfl⟩ := wl_of hq; exact h k hk⟩
theorem wl_ext {D : va_G} {cl : List vw_C} {b N : Nat} {C C' : Nat → va_E} {H : Heap} (h : va_P D cl (wl b N C) H) (e : ∀ k, k < N → C' k = C k) : va_P D cl (wl b N C') H :=
  wl_P.mpr (fun k hk => by rw [e k hk]; exact wl_P.mp h k hk)
/-- the cells of a world -/
def xr (b N : Nat) : Nat → Prop := fun q => b ≤ q ∧ q < b + N
theorem xr_in {b N : Nat} : ∀ k, k < N → xr b N (b + k) := fun k hk => ⟨Nat.le_add_right _ _, Nat.add_lt_add_left hk _⟩
theorem up2 {α : Type} (f : Nat → α) (k : Nat) (v w : α) : va_up (va_up f k v) k w = va_up f k w := bx_uu f k v w
/-- the classes of arrays: int, long, boolean, Great, int[] -/
abbrev tysA (ca : Nat → ClassId) : List (ClassId × FieldType) := [(ca 0, .int), (ca 1, .long), (ca 2, .boolean), (ca 3, .object "OrderPassing$Great"), (ca 4, .array .int)]
theorem mw {c w : Cond} (h : w ∈ gw) : w ∈ c :: gw := List.mem_cons_of_mem _ h
theorem nI_if {a : Nat} (ha : a < 2 ^ 31) : nI a = 0 ↔ a = 0 := nI_eq (b := 0) ha (by decide)
section XW
variable {p : Program} {l : Launch} {e : Env} {R : Room} {s : State} {m : MethodId} {args : Array Value} {below : List Frame} {meth : Method} {c : Code} {H : Heap} {locs : List Loc} {cells slots : Nat} {Q : State → Prop}
variable {cc : ByteArray} {pc : Nat} {ls : Array Slot} {rest : List Value} {D : va_G} {cl : List vw_C} {A : Nat → Prop} {tys : List (ClassId × FieldType)} {H0 : Heap} {b N : Nat} {C : Nat → va_E}
theorem ti {x : Int32} (y : Int32) (h : x = y) (k : W p l e R s m args below meth c H locs cells slots Q (F0 m pc ls (.int y :: rest))) : W p l e R s m args below meth c H locs cells slots Q (F0 m pc ls (.int x :: rest)) := h ▸ k
theorem tl {x : Int64} (y : Int64) (h : x = y) (k : W p l e R s m args below meth c H locs cells slots Q (F0 m pc ls (.long y :: rest))) : W p l e R s m args below meth c H locs cells slots Q (F0 m pc ls (.long x :: rest)) := h ▸ k
theorem xi_eq (hexec : p.tables.exec = Jvm.exec) (hb : c.code = cc) {a b : Nat} {off : Int} {tgt : Nat} (hdg : decode cc pc = .ok (.if_icmp .eq off, 3)) (ht : (pc : Int) + off = (tgt : Int)) (ha : a < 2 ^ 31) (hb1 : b < 2 ^ 31)
    (kt : a = b → W p l e R s m args below meth c H locs cells slots Q (F0 m tgt ls rest)) (kf : a ≠ b → W p l e R s m args below meth c H locs cells slots Q (F0 m (pc + 3) ls rest)) : W p l e R s m args below meth c H locs cells slots Q (F0 m pc ls (.int (nI b) :: .int (nI a) :: rest)) :=
  lv_icmp_eq hexec hb hdg ht (fun h => kt ((nI_eq ha hb1).mp h)) (fun h => kf (fun q => h ((nI_eq ha hb1).mpr q)))
theorem xi_ne (hexec : p.tables.exec = Jvm.exec) (hb : c.code = cc) {a b : Nat} {off : Int} {tgt : Nat} (hdg : decode cc pc = .ok (.if_icmp .ne off, 3)) (ht : (pc : Int) + off = (tgt : Int)) (ha : a < 2 ^ 31) (hb1 : b < 2 ^ 31)
    (kt : a ≠ b → W p l e R s m args below meth c H locs cells slots Q (F0 m tgt ls rest)) (kf : a = b → W p l e R s m args below meth c H locs cells slots Q (F0 m (pc + 3) ls rest)) : W p l e R s m args below meth c H locs cells slots Q (F0 m pc ls (.int (nI b) :: .int (nI a) :: rest)) :=
  lv_icmp_ne hexec hb hdg ht (fun h => kt (fun q => h ((nI_eq ha hb1).mpr q))) (fun h => kf ((nI_eq ha hb1).mp h))
theorem xi_lt (hexec : p.tables.exec = Jvm.exec) (hb : c.code = cc) {a b : Nat} {off : Int} {tgt : Nat} (hdg : decode cc pc = .ok (.if_icmp .lt off, 3)) (ht : (pc : Int) + off = (tgt : Int)) (ha : a < 2 ^ 31) (hb1 : b < 2 ^ 31)
    (kt : a < b → W p l e R s m args below meth c H locs cells slots Q (F0 m tgt ls rest)) (kf : b ≤ a → W p l e R s m args below meth c H locs cells slots Q (F0 m (pc + 3) ls rest)) : W p l e R s m args below meth c H locs cells slots Q (F0 m pc ls (.int (nI b) :: .int (nI a) :: rest)) :=
  lv_icmp_lt hexec hb hdg ht (fun h => kt ((nI_ltI ha hb1).mp h)) (fun h => kf (Nat.not_lt.mp (fun q => h ((nI_ltI ha hb1).mpr q))))
theorem xi_ge (hexec : p.tables.exec = Jvm.exec) (hb : c.code = cc) {a b : Nat} {off : Int} {tgt : Nat} (hdg : decode cc pc = .ok (.if_icmp .ge off, 3)) (ht : (pc : Int) + off = (tgt : Int)) (ha : a < 2 ^ 31) (hb1 : b < 2 ^ 31)
    (kt : b ≤ a → W p l e R s m args below meth c H locs cells slots Q (F0 m tgt ls rest)) (kf : a < b → W p l e R s m args below meth c H locs cells slots Q (F0 m (pc + 3) ls rest)) : W p l e R s m args below meth c H locs cells slots Q (F0 m pc ls (.int (nI b) :: .int (nI a) :: rest)) :=
  lv_icmp_ge hexec hb hdg ht (fun h => kt ((nI_leI hb1 ha).mp h)) (fun h => kf (Nat.not_le.mp (fun q => h ((nI_leI hb1 ha).mpr q))))
theorem xi_gt (hexec : p.tables.exec = Jvm.exec) (hb : c.code = cc) {a b : Nat} {off : Int} {tgt : Nat} (hdg : decode cc pc = .ok (.if_icmp .gt off, 3)) (ht : (pc : Int) + off = (tgt : Int)) (ha : a < 2 ^ 31) (hb1 : b < 2 ^ 31)
    (kt : b < a → W p l e R s m args below meth c H locs cells slots Q (F0 m tgt ls rest)) (kf : a ≤ b → W p l e R s m args below meth c H locs cells slots Q (F0 m (pc + 3) ls rest)) : W p l e R s m args below meth c H locs cells slots Q (F0 m pc ls (.int (nI b) :: .int (nI a) :: rest)) :=
  lv_icmp_gt hexec hb hdg ht (fun h => kt ((nI_ltI hb1 ha).mp h)) (fun h => kf (Nat.not_lt.mp (fun q => h ((nI_ltI hb1 ha).mpr q))))
theorem xi_le (hexec : p.tables.exec = Jvm.exec) (hb : c.code = cc) {a b : Nat} {off : Int} {tgt : Nat} (hdg : decode cc pc = .ok (.if_icmp .le off, 3)) (ht : (pc : Int) + off = (tgt : Int)) (ha : a < 2 ^ 31) (hb1 : b < 2 ^ 31)
    (kt : a ≤ b → W p l e R s m args below meth c H locs cells slots Q (F0 m tgt ls rest)) (kf : b < a → W p l e R s m args below meth c H locs cells slots Q (F0 m (pc + 3) ls rest)) : W p l e R s m args below meth c H locs cells slots Q (F0 m pc ls (.int (nI b) :: .int (nI a) :: rest)) :=
  lv_icmp_le hexec hb hdg ht (fun h => kt ((nI_leI ha hb1).mp h)) (fun h => kf (Nat.not_le.mp (fun q => h ((nI_leI ha hb1).mpr q))))
theorem xz_eq (hexec : p.tables.exec = Jvm.exec) (hb : c.code = cc) {a : Nat} {off : Int} {tgt : Nat} (hdg : decode cc pc = .ok (.ifCond .eq off, 3)) (ht : (pc : Int) + off = (tgt : Int)) (ha : a < 2 ^ 31)
    (kt : a = 0 → W p l e R s m args below meth c H locs cells slots Q (F0 m tgt ls rest)) (kf : a ≠ 0 → W p l e R s m args below meth c H locs cells slots Q (F0 m (pc + 3) ls rest)) : W p l e R s m args below meth c H locs cells slots Q (F0 m pc ls (.int (nI a) :: rest)) :=
  lv_if_eq hexec hb hdg ht (fun h => kt ((nI_if ha).mp h)) (fun h => kf (fun q => h ((nI_if ha).mpr q)))
theorem xz_ne (hexec : p.tables.exec = Jvm.exec) (hb : c.code = cc) {a : Nat} {off : Int} {tgt : Nat} (hdg : decode cc pc = .ok (.ifCond .ne off, 3)) (ht : (pc : Int) + off = (tgt : Int)) (ha : a < 2 ^ 31)
    (kt : a ≠ 0 → W p l e R s m args below meth c H locs cells slots Q (F0 m tgt ls rest)) (kf : a = 0 → W p l e R s m args below meth c H locs cells slots Q (F0 m (pc + 3) ls rest)) : W p l e R s m args below meth c H locs cells slots Q (F0 m pc ls (.int (nI a) :: rest)) :=
  lv_if_ne hexec hb hdg ht (fun h => kt (fun q => h ((nI_if ha).mpr q))) (fun h => kf ((nI_if ha).mp h))
theorem xz_lt (hexec : p.tables.exec = Jvm.exec) (hb : c.code = cc) {a : Nat} {off : Int} {tgt : Nat} (hdg : decode cc pc = .ok (.ifCond .lt off, 3)) (ht : (pc : Int) + off = (tgt : Int)) (ha : a < 2 ^ 31)
    (kt : False → W p l e R s m args below meth c H locs cells slots Q (F0 m tgt ls rest)) (kf : True → W p l e R s m args below meth c H locs cells slots Q (F0 m (pc + 3) ls rest)) : W p l e R s m args below meth c H locs cells slots Q (F0 m pc ls (.int (nI a) :: rest)) :=
  lv_if_lt hexec hb hdg ht (fun h => absurd h (nI_pos ha)) (fun _ => kf trivial)
theorem xz_ge (hexec : p.tables.exec = Jvm.exec) (hb : c.code = cc) {a : Nat} {off : Int} {tgt : Nat} (hdg : decode cc pc = .ok (.ifCond .ge off, 3)) (ht : (pc : Int) + off = (tgt : Int)) (ha : a < 2 ^ 31)
    (kt : True → W p l e R s m args below meth c H locs cells slots Q (F0 m tgt ls rest)) (kf : False → W p l e R s m args below meth c H locs cells slots Q (F0 m (pc + 3) ls rest)) : W p l e R s m args below meth c H locs cells slots Q (F0 m pc ls (.int (nI a) :: rest)) :=
  lv_if_ge hexec hb hdg ht (fun _ => kt trivial) (fun h => absurd (nI_pos' ha) h)
theorem xz_gt (hexec : p.tables.exec = Jvm.exec) (hb : c.code = cc) {a : Nat} {off : Int} {tgt : Nat} (hdg : decode cc pc = .ok (.ifCond .gt off, 3)) (ht : (pc : Int) + off = (tgt : Int)) (ha : a < 2 ^ 31)
    (kt : 0 < a → W p l e R s m args below meth c H locs cells slots Q (F0 m tgt ls rest)) (kf : a = 0 → W p l e R s m args below meth c H locs cells slots Q (F0 m (pc + 3) ls rest)) : W p l e R s m args below meth c H locs cells slots Q (F0 m pc ls (.int (nI a) :: rest)) :=
  lv_if_gt hexec hb hdg ht (fun h => kt (Nat.pos_of_ne_zero (fun q => by subst q; exact absurd h (by decide)))) (fun h => kf (Nat.eq_zero_of_not_pos (fun q => h ((nI_ltI (a := 0) (by decide) ha).mpr q))))
theorem xz_le (hexec : p.tables.exec = Jvm.exec) (hb : c.code = cc) {a : Nat} {off : Int} {tgt : Nat} (hdg : decode cc pc = .ok (.ifCond .le off, 3)) (ht : (pc : Int) + off = (tgt : Int)) (ha : a < 2 ^ 31)
    (kt : a = 0 → W p l e R s m args below meth c H locs cells slots Q (F0 m tgt ls rest)) (kf : 0 < a → W p l e R s m args below meth c H locs cells slots Q (F0 m (pc + 3) ls rest)) : W p l e R s m args below meth c H locs cells slots Q (F0 m pc ls (.int (nI a) :: rest)) :=
  lv_if_le hexec hb hdg ht (fun h => kt (Nat.eq_zero_of_not_pos (fun q => nI_nle q ha h))) (fun h => kf (Nat.pos_of_ne_zero (fun q => h (by subst q; decide))))
theorem lgc (x y : Nat) (hx : x < 2 ^ 63) (hy : y < 2 ^ 63) : lg_cmp (lN x) (lN y) = if y < x then 1 else if x = y then 0 else -1 := by
  by_cases h1 : y < x
  · rw [if_pos h1]; simp [lg_cmp, (pk_lLT hy hx).mpr h1]
  · rw [if_neg h1]
    have h2 : ¬ lN y < lN x := fun q => h1 ((pk_lLT hy hx).mp q)
    by_cases h3 : x = y
    · subst h3; simp [lg_cmp]
    · rw [if_neg h3]
      have h4 : ¬ lN x = lN y := fun q => h3 ((pk_lEQ hx hy).mp q)
      simp [lg_cmp, h2, h4]
theorem xl_eq (hexec : p.tables.exec = Jvm.exec) (hb : c.code = cc) {x y : Nat} {off : Int} {tgt : Nat} (hdg : decode cc pc = .ok (.ifCond .eq off, 3)) (ht : (pc : Int) + off = (tgt : Int)) (hx : x < 2 ^ 63) (hy : y < 2 ^ 63)
    (kt : x = y → W p l e R s m args below meth c H locs cells slots Q (F0 m tgt ls rest)) (kf : x ≠ y → W p l e R s m args below meth c H locs cells slots Q (F0 m (pc + 3) ls rest)) : W p l e R s m args below meth c H locs cells slots Q (F0 m pc ls (.int (lg_cmp (lN x) (lN y)) :: rest)) := by
  rw [lgc x y hx hy]
  by_cases h1 : y < x
  · rw [if_pos h1]
    exact lv_if_eq hexec hb hdg ht (fun h => absurd h (by decide)) (fun h => kf (by omega))
  · rw [if_neg h1]
    by_cases h2 : x = y
    · rw [if_pos h2]
      exact lv_if_eq hexec hb hdg ht (fun h => kt (by omega)) (fun h => absurd (show _ by decide) h)
    · rw [if_neg h2]
      exact lv_if_eq hexec hb hdg ht (fun h => absurd h (by decide)) (fun h => kf (by omega))
theorem xl_ne (hexec : p.tables.exec = Jvm.exec) (hb : c.code = cc) {x y : Nat} {off : Int} {tgt : Nat} (hdg : decode cc pc = .ok (.ifCond .ne off, 3)) (ht : (pc : Int) + off = (tgt : Int)) (hx : x < 2 ^ 63) (hy : y < 2 ^ 63)
    (kt : x ≠ y → W p l e R s m args below meth c H locs cells slots Q (F0 m tgt ls rest)) (kf : x = y → W p l e R s m args below meth c H locs cells slots Q (F0 m (pc + 3) ls rest)) : W p l e R s m args below meth c H locs cells slots Q (F0 m pc ls (.int (lg_cmp (lN x) (lN y)) :: rest)) := by
  rw [lgc x y hx hy]
  by_cases h1 : y < x
  · rw [if_pos h1]
    exact lv_if_ne hexec hb hdg ht (fun h => kt (by omega)) (fun h => absurd h (by decide))
  · rw [if_neg h1]
    by_cases h2 : x = y
    · rw [if_pos h2]
      exact lv_if_ne hexec hb hdg ht (fun h => absurd rfl h) (fun h => kf (by omega))
    · rw [if_neg h2]
      exact lv_if_ne hexec hb hdg ht (fun h => kt (by omega)) (fun h => absurd h (by decide))
theorem xl_lt (hexec : p.tables.exec = Jvm.exec) (hb : c.code = cc) {x y : Nat} {off : Int} {tgt : Nat} (hdg : decode cc pc = .ok (.ifCond .lt off, 3)) (ht : (pc : Int) + off = (tgt : Int)) (hx : x < 2 ^ 63) (hy : y < 2 ^ 63)
    (kt : x < y → W p l e R s m args below meth c H locs cells slots Q (F0 m tgt ls rest)) (kf : y ≤ x → W p l e R s m args below meth c H locs cells slots Q (F0 m (pc + 3) ls rest)) : W p l e R s m args below meth c H locs cells slots Q (F0 m pc ls (.int (lg_cmp (lN x) (lN y)) :: rest)) := by
  rw [lgc x y hx hy]
  by_cases h1 : y < x
  · rw [if_pos h1]
    exact lv_if_lt hexec hb hdg ht (fun h => absurd h (by decide)) (fun h => kf (by omega))
  · rw [if_neg h1]
    by_cases h2 : x = y
    · rw [if_pos h2]
      exact lv_if_lt hexec hb hdg ht (fun h => absurd h (by decide)) (fun h => kf (by omega))
    · rw [if_neg h2]
      exact lv_if_lt hexec hb hdg ht (fun h => kt (by omega)) (fun h => absurd (show _ by decide) h)
theorem xl_ge (hexec : p.tables.exec = Jvm.exec) (hb : c.code = cc) {x y : Nat} {off : Int} {tgt : Nat} (hdg : decode cc pc = .ok (.ifCond .ge off, 3)) (ht : (pc : Int) + off = (tgt : Int)) (hx : x < 2 ^ 63) (hy : y < 2 ^ 63)
    (kt : y ≤ x → W p l e R s m args below meth c H locs cells slots Q (F0 m tgt ls rest)) (kf : x < y → W p l e R s m args below meth c H locs cells slots Q (F0 m (pc + 3) ls rest)) : W p l e R s m args below meth c H locs cells slots Q (F0 m pc ls (.int (lg_cmp (lN x) (lN y)) :: rest)) := by
  rw [lgc x y hx hy]
  by_cases h1 : y < x
  · rw [if_pos h1]
    exact lv_if_ge hexec hb hdg ht (fun h => kt (by omega)) (fun h => absurd (show _ by decide) h)
  · rw [if_neg h1]
    by_cases h2 : x = y
    · rw [if_pos h2]
      exact lv_if_ge hexec hb hdg ht (fun h => kt (by omega)) (fun h => absurd (show _ by decide) h)
    · rw [if_neg h2]
      exact lv_if_ge hexec hb hdg ht (fun h => absurd h (by decide)) (fun h => kf (by omega))
theorem xl_gt (hexec : p.tables.exec = Jvm.exec) (hb : c.code = cc) {x y : Nat} {off : Int} {tgt : Nat} (hdg : decode cc pc = .ok (.ifCond .gt off, 3)) (ht : (pc : Int) + off = (tgt : Int)) (hx : x < 2 ^ 63) (hy : y < 2 ^ 63)
    (kt : y < x → W p l e R s m args below meth c H locs cells slots Q (F0 m tgt ls rest)) (kf : x ≤ y → W p l e R s m args below meth c H locs cells slots Q (F0 m (pc + 3) ls rest)) : W p l e R s m args below meth c H locs cells slots Q (F0 m pc ls (.int (lg_cmp (lN x) (lN y)) :: rest)) := by
  rw [lgc x y hx hy]
  by_cases h1 : y < x
  · rw [if_pos h1]
    exact lv_if_gt hexec hb hdg ht (fun h => kt (by omega)) (fun h => absurd (show _ by decide) h)
  · rw [if_neg h1]
    by_cases h2 : x = y
    · rw [if_pos h2]
      exact lv_if_gt hexec hb hdg ht (fun h => absurd h (by decide)) (fun h => kf (by omega))
    · rw [if_neg h2]
      exact lv_if_gt hexec hb hdg ht (fun h => absurd h (by decide)) (fun h => kf (by omega))
theorem xl_le (hexec : p.tables.exec = Jvm.exec) (hb : c.code = cc) {x y : Nat} {off : Int} {tgt : Nat} (hdg : decode cc pc = .ok (.ifCond .le off, 3)) (ht : (pc : Int) + off = (tgt : Int)) (hx : x < 2 ^ 63) (hy : y < 2 ^ 63)
    (kt : x ≤ y → W p l e R s m args below meth c H locs cells slots Q (F0 m tgt ls rest)) (kf : y < x → W p l e R s m args below meth c H locs cells slots Q (F0 m (pc + 3) ls rest)) : W p l e R s m args below meth c H locs cells slots Q (F0 m pc ls (.int (lg_cmp (lN x) (lN y)) :: rest)) := by
  rw [lgc x y hx hy]
  by_cases h1 : y < x
  · rw [if_pos h1]
    exact lv_if_le hexec hb hdg ht (fun h => absurd h (by decide)) (fun h => kf (by omega))
  · rw [if_neg h1]
    by_cases h2 : x = y
    · rw [if_pos h2]
      exact lv_if_le hexec hb hdg ht (fun h => kt (by omega)) (fun h => absurd (show _ by decide) h)
    · rw [if_neg h2]
      exact lv_if_le hexec hb hdg ht (fun h => kt (by omega)) (fun h => absurd (show _ by decide) h)
theorem xw_iald (hexec : p.tables.exec = Jvm.exec) (hb : c.code = cc) (hK : va_K D cl tys s) (hP : va_P D cl (wl b N C) H) (t0 : Nat) {k n j : Nat} {cA : ClassId} {f : Nat → Int32} (hC : C k = .inl (cA, n, .inl f)) (hk : k < N) (ht : tys[t0]? = some (cA, .int)) (hj : j < n) (hn : n < 2 ^ 31) (hdg : decode cc pc = .ok (.iaload, 1))
    (kk : W p l e R s m args below meth c H locs cells slots Q (F0 m (pc + 1) ls (.int (f j) :: rest))) : W p l e R s m args below meth c H locs cells slots Q (F0 m pc ls (.int (nI j) :: .ref (b + k) :: rest)) :=
  va_iald hexec hb hK hP k t0 (wl_at hC hk) ht (vp_in_nI hj hn) hdg (by rw [nI_clamp (by omega)]; exact kk)
theorem xw_lald (hexec : p.tables.exec = Jvm.exec) (hb : c.code = cc) (hK : va_K D cl tys s) (hP : va_P D cl (wl b N C) H) (t0 : Nat) {k n j : Nat} {cA : ClassId} {f : Nat → Int64} (hC : C k = .inl (cA, n, .inr (.inl f))) (hk : k < N) (ht : tys[t0]? = some (cA, .long)) (hj : j < n) (hn : n < 2 ^ 31) (hdg : decode cc pc = .ok (.laload, 1))
    (kk : W p l e R s m args below meth c H locs cells slots Q (F0 m (pc + 1) ls (.long (f j) :: rest))) : W p l e R s m args below meth c H locs cells slots Q (F0 m pc ls (.int (nI j) :: .ref (b + k) :: rest)) :=
  va_lald hexec hb hK hP k t0 (wl_at hC hk) ht (vp_in_nI hj hn) hdg (by rw [nI_clamp (by omega)]; exact kk)
theorem xw_zald (hexec : p.tables.exec = Jvm.exec) (hb : c.code = cc) (hK : va_K D cl tys s) (hP : va_P D cl (wl b N C) H) (t0 : Nat) {k n j : Nat} {cA : ClassId} {f : Nat → Int32} (hC : C k = .inl (cA, n, .inl f)) (hk : k < N) (ht : tys[t0]? = some (cA, .boolean)) (hj : j < n) (hn : n < 2 ^ 31) (hdg : decode cc pc = .ok (.baload, 1))
    (kk : W p l e R s m args below meth c H locs cells slots Q (F0 m (pc + 1) ls (.int (f j) :: rest))) : W p l e R s m args below meth c H locs cells slots Q (F0 m pc ls (.int (nI j) :: .ref (b + k) :: rest)) :=
  va_zald hexec hb hK hP k t0 (wl_at hC hk) ht (vp_in_nI hj hn) hdg (by rw [nI_clamp (by omega)]; exact kk)
theorem xw_aald (hexec : p.tables.exec = Jvm.exec) (hb : c.code = cc) (hK : va_K D cl tys s) (hP : va_P D cl (wl b N C) H) (t0 : Nat) {k n j : Nat} {cA : ClassId} {G : String} {f : Nat → Option Nat} (hC : C k = .inl (cA, n, .inr (.inr (.inr (.inr f))))) (hk : k < N) (ht : tys[t0]? = some (cA, .object G)) (hj : j < n) (hn : n < 2 ^ 31) {q : Nat} (hq : f j = some q) (hdg : decode cc pc = .ok (.aaload, 1))
    (kk : W p l e R s m args below meth c H locs cells slots Q (F0 m (pc + 1) ls (.ref q :: rest))) : W p l e R s m args below meth c H locs cells slots Q (F0 m pc ls (.int (nI j) :: .ref (b + k) :: rest)) :=
  va_aldq hexec hb hK hP k t0 (wl_at hC hk) ht (vp_in_nI hj hn) hdg (by rw [nI_clamp (by omega), hq]; exact kk)
theorem xw_iast (hexec : p.tables.exec = Jvm.exec) (hb : c.code = cc) (hK : va_K D cl tys s) (hP : va_P D cl (wl b N C) H) (hA : ∀ k, k < N → A (b + k)) (hS : va_S A H0 H locs) (t0 : Nat) {k n j : Nat} {cA : ClassId} {f : Nat → Int32} {x : Int32} (hC : C k = .inl (cA, n, .inl f)) (hk : k < N) (ht : tys[t0]? = some (cA, .int)) (hj : j < n) (hn : n < 2 ^ 31) (hdg : decode cc pc = .ok (.iastore, 1))
    (kk : ∀ (H1 : Heap) (locs1 : List Loc), va_P D cl (wl b N (va_up C k (.inl (cA, n, .inl (upd f j x))))) H1 → va_S A H0 H1 locs1 → W p l e R s m args below meth c H1 locs1 cells slots Q (F0 m (pc + 1) ls rest)) : W p l e R s m args below meth c H locs cells slots Q (F0 m pc ls (.int x :: .int (nI j) :: .ref (b + k) :: rest)) :=
  va_iast hexec hb hK hP (wl_D hA) hS k t0 (wl_at hC hk) ht (vp_in_nI hj hn) hdg (fun H1 locs1 h1 _ h3 => by
    rw [wl_set hk, nI_clamp (by omega)] at h1
    exact kk H1 locs1 h1 h3)
theorem xw_last (hexec : p.tables.exec = Jvm.exec) (hb : c.code = cc) (hK : va_K D cl tys s) (hP : va_P D cl (wl b N C) H) (hA : ∀ k, k < N → A (b + k)) (hS : va_S A H0 H locs) (t0 : Nat) {k n j : Nat} {cA : ClassId} {f : Nat → Int64} {x : Int64} (hC : C k = .inl (cA, n, .inr (.inl f))) (hk : k < N) (ht : tys[t0]? = some (cA, .long)) (hj : j < n) (hn : n < 2 ^ 31) (hdg : decode cc pc = .ok (.lastore, 1))
    (kk : ∀ (H1 : Heap) (locs1 : List Loc), va_P D cl (wl b N (va_up C k (.inl (cA, n, .inr (.inl (vp_updL f j x)))))) H1 → va_S A H0 H1 locs1 → W p l e R s m args below meth c H1 locs1 cells slots Q (F0 m (pc + 1) ls rest)) : W p l e R s m args below meth c H locs cells slots Q (F0 m pc ls (.long x :: .int (nI j) :: .ref (b + k) :: rest)) :=
  va_last hexec hb hK hP (wl_D hA) hS k t0 (wl_at hC hk) ht (vp_in_nI hj hn) hdg (fun H1 locs1 h1 _ h3 => by
    rw [wl_set hk, nI_clamp (by omega)] at h1
    exact kk H1 locs1 h1 h3)
theorem xw_zast (hexec : p.tables.exec = Jvm.exec) (hb : c.code = cc) (hK : va_K D cl tys s) (hP : va_P D cl (wl b N C) H) (hA : ∀ k, k < N → A (b + k)) (hS : va_S A H0 H locs) (t0 : Nat) {k n j : Nat} {cA : ClassId} {f : Nat → Int32} {x : Int32} (hC : C k = .inl (cA, n, .inl f)) (hk : k < N) (ht : tys[t0]? = some (cA, .boolean)) (hj : j < n) (hn : n < 2 ^ 31) (hdg : decode cc pc = .ok (.bastore, 1))
    (kk : ∀ (H1 : Heap) (locs1 : List Loc), va_P D cl (wl b N (va_up C k (.inl (cA, n, .inl (upd f j (vp_nar .boolean x)))))) H1 → va_S A H0 H1 locs1 → W p l e R s m args below meth c H1 locs1 cells slots Q (F0 m (pc + 1) ls rest)) : W p l e R s m args below meth c H locs cells slots Q (F0 m pc ls (.int x :: .int (nI j) :: .ref (b + k) :: rest)) :=
  va_zast hexec hb hK hP (wl_D hA) hS k t0 (wl_at hC hk) ht (vp_in_nI hj hn) hdg (fun H1 locs1 h1 _ h3 => by
    rw [wl_set hk, nI_clamp (by omega)] at h1
    exact kk H1 locs1 h1 h3)
theorem xw_get (hexec : p.tables.exec = Jvm.exec) (hb : c.code = cc) {own ref K : String} {T : u_T} {M ci index : Nat} {Ts : List Cond} (hts : ∀ w ∈ Ts, w.before args s = true) (hin : ∀ w ∈ u_ws K T M, w ∈ Ts) (hown : s.vm.findClass own = some m.cls) (hK : va_K D cl tys s) (hP : va_P D cl (wl b N C) H) {q : Nat} {fs : List Value} (hC : C q = .inr (ci, fs)) (hq : q < N) (hc : cl[ci]? = some (K, T, M)) (k : Nat) (hk : k < M) (hlink : (Cond.fieldLink own index ref (T k).2.1 (T k).2.2.1).before args s = true) (hsame : ∀ x, s.fieldFound? (T k).1 (T k).2.1 (T k).2.2.1 = some x → s.fieldFound? ref (T k).2.1 (T k).2.2.1 = some x) {v : Value} (hv : fs[k]? = some v) (hdg : decode cc pc = .ok (.getfield index, 3))
    (kk : W p l e R s m args below meth c H locs cells slots Q (F0 m (pc + 3) ls (v :: rest))) : W p l e R s m args below meth c H locs cells slots Q (F0 m pc ls (.ref (b + q) :: rest)) :=
  va_get hexec hb hts hin hown hK hP q (wl_at hC hq) hc k hk hlink hsame hv hdg kk
theorem xw_put (hexec : p.tables.exec = Jvm.exec) (hb : c.code = cc) {own ref K : String} {T : u_T} {M ci index : Nat} {Ts : List Cond} (hts : ∀ w ∈ Ts, w.before args s = true) (hin : ∀ w ∈ u_ws K T M, w ∈ Ts) (ty0 : Nat → FieldType) (hty : ∀ k, k < M → parseFieldDescriptor (T k).2.2.1 = some (ty0 k)) (hnm : ∀ a, a < M → ∀ b, b < M → a ≠ b → (T a).2.1 ≠ (T b).2.1) (hown : s.vm.findClass own = some m.cls) (hK : va_K D cl tys s) (hP : va_P D cl (wl b N C) H) (hA : ∀ k, k < N → A (b + k)) (hS : va_S A H0 H locs) {q : Nat} {fs : List Value} (hC : C q = .inr (ci, fs)) (hq : q < N) (hc : cl[ci]? = some (K, T, M)) (k : Nat) (hk : k < M) (hlink : (Cond.fieldLink own index ref (T k).2.1 (T k).2.2.1).before args s = true) (hsame : ∀ x, s.fieldFound? (T k).1 (T k).2.1 (T k).2.2.1 = some x → s.fieldFound? ref (T k).2.1 (T k).2.2.1 = some x) (hfin : (T k).2.2.2 = false) {ty : FieldType} {v : Value} (hd : parseFieldDescriptor (T k).2.2.1 = some ty) (hn : narrow ty v = v) (hfit : fits ty v = true) (hl : k < fs.length) (hdg : decode cc pc = .ok (.putfield index, 3))
    (kk : ∀ (H1 : Heap) (locs1 : List Loc), va_P D cl (wl b N (va_up C q (.inr (ci, fs.set k v)))) H1 → va_S A H0 H1 locs1 → W p l e R s m args below meth c H1 locs1 cells slots Q (F0 m (pc + 3) ls rest)) : W p l e R s m args below meth c H locs cells slots Q (F0 m pc ls (v :: .ref (b + q) :: rest)) :=
  va_put hexec hb hts hin ty0 hty hnm hown hK hP (wl_D hA) hS q (wl_at hC hq) hc k hk hlink hsame hfin hd hn hfit hl hdg (fun H1 locs1 h1 _ h3 => by
    rw [wl_set hq] at h1
    exact kk H1 locs1 h1 h3)
end XW
