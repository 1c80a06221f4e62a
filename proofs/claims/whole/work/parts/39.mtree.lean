/-! The Model: trees and members, date, weight, outlier -/
def tOk (on1 ot2 : Nat → Nat) : Nat → Nat → Nat
  | 0, m => m
  | k + 1, m => if tOk on1 ot2 k m &&& (2 ^ on1 k ||| 2 ^ ot2 k) = 0 then tOk on1 ot2 k m else tOk on1 ot2 k m ||| (2 ^ on1 k ||| 2 ^ ot2 k)
def tOr (on1 ot2 : Nat → Nat) (tld : Nat) : Nat → Nat → Nat
  | 0, m => m
  | r + 1, m => tOk on1 ot2 tld (tOr on1 ot2 tld r m)
theorem tOk_z {on1 ot2 : Nat → Nat} {k m : Nat} (h : tOk on1 ot2 k m &&& (2 ^ on1 k ||| 2 ^ ot2 k) = 0) : tOk on1 ot2 (k + 1) m = tOk on1 ot2 k m := if_pos h
theorem tOk_n {on1 ot2 : Nat → Nat} {k m : Nat} (h : tOk on1 ot2 k m &&& (2 ^ on1 k ||| 2 ^ ot2 k) ≠ 0) : tOk on1 ot2 (k + 1) m = tOk on1 ot2 k m ||| (2 ^ on1 k ||| 2 ^ ot2 k) := if_neg h
theorem two_lt {on1 ot2 lea mos : Nat → Nat} {tld k : Nat} (hM : MOK on1 ot2 lea mos tld) (hk : k < tld) : (2 ^ on1 k ||| 2 ^ ot2 k) < 2 ^ 6 := Nat.or_lt_two_pow (Nat.pow_lt_pow_right (by decide) (hM.2 k hk).1) (Nat.pow_lt_pow_right (by decide) (hM.2 k hk).2.1)
theorem tOk_lt {on1 ot2 lea mos : Nat → Nat} {tld : Nat} (hM : MOK on1 ot2 lea mos tld) : ∀ k, k ≤ tld → ∀ m, m < 2 ^ 6 → tOk on1 ot2 k m < 2 ^ 6 := by
  intro k
  induction k with
  | zero => intro _ m h; exact h
  | succ k ih =>
    intro hk m h
    by_cases q : tOk on1 ot2 k m &&& (2 ^ on1 k ||| 2 ^ ot2 k) = 0
    · rw [tOk_z q]; exact ih (by omega) m h
    · rw [tOk_n q]; exact Nat.or_lt_two_pow (ih (by omega) m h) (two_lt hM (by omega))
theorem tOr_lt {on1 ot2 lea mos : Nat → Nat} {tld : Nat} (hM : MOK on1 ot2 lea mos tld) : ∀ r m, m < 2 ^ 6 → tOr on1 ot2 tld r m < 2 ^ 6 := by
  intro r
  induction r with
  | zero => intro m h; exact h
  | succ r ih => intro m h; exact tOk_lt hM tld (Nat.le_refl _) _ (ih m h)
theorem gz_n {x : Nat} (h : (if x = 0 then 1 else 0 : Nat) ≠ 0) : x = 0 := by
  by_cases q : x = 0
  · exact q
  · rw [if_neg q] at h; exact absurd rfl h
theorem gz_z {x : Nat} (h : (if x = 0 then 1 else 0 : Nat) = 0) : x ≠ 0 := fun q => by rw [if_pos q] at h; cases h
theorem gz_b (x : Nat) : (if x = 0 then 1 else 0 : Nat) < 2 ^ 31 := by split <;> decide
theorem gth_0 {x y z : Bool} (h : gth x y z = 0) : x = true ∧ y = true ∧ z = true := by
  cases x <;> cases y <;> cases z <;> first | exact ⟨rfl, rfl, rfl⟩ | (exact absurd h (by decide))
set_option maxHeartbeats 4000000 in
set_option maxRecDepth 100000 in
/-- the tree of a date -/
theorem c_MO_treeOf (l : Launch) (D : va_G) (ca : Nat → ClassId) (b : Nat) (C0 : Nat → va_E) {th : Nat} {dts : Nat} {tld : Nat} {fs9 : Nat} {ls9 : Nat} {cn9 : Nat} {lf9 : Nat} {mb9 : Nat} {mwt : Nat → Nat} {mab : Nat → Nat} {mbe : Nat → Nat} {on1 : Nat → Nat} {ot2 : Nat → Nat} {lea : Nat → Nat} {mos : Nat → Nat} {yrs : Nat → Nat} {bv : Nat → Nat} (d : Nat) (hX : MV ca b C0 th dts tld fs9 ls9 cn9 lf9 mb9 mwt mab mbe on1 ot2 lea mos yrs bv) (hM : MOK on1 ot2 lea mos tld) (hd : d < 6) : Met l y_MO_treeOf (k_MO_treeOf :: gw) ({ frames := 1, cells := 0, slots := 0, locals := 12 }) (xPc D ca b 11 C0 [.ref (b + 0), .int (nI d)]) (xQ D b 11 (fun r C1 => r = some (.int (nI (tOr on1 ot2 tld 6 (2 ^ d)))) ∧ MV ca b C1 th dts tld fs9 ls9 cn9 lf9 mb9 mwt mab mbe on1 ot2 lea mos yrs bv)) 0 0 (xr b 11) := by
  refine Met.ofW (cc := b_MO_treeOf) (maxL := 6) (ret := (some FieldType.int)) (by decide) rfl ?_
  intro p e s m args below meth c s₁ B hml hv
  obtain ⟨hav, hP, hK⟩ := hv
  have hx := B.exec
  have hb := B.bytes
  have hr := B.returns
  have hts := atoms_spec (ws := k_MO_treeOf :: gw) B.pre
  have hown : s.vm.findClass R_MO = some m.cls := findClass_of_methodNamed B.named
  have hlocks := B.notSynchronized
  have hA : ∀ k, k < 11 → xr b 11 (b + k) := xr_in
  have hS : va_S (xr b 11) s.heap s.heap [] := va_S.rf
  have hl := lv_entry ([.ref (b + 0), .int (nI d)]) (n := 6) (Nat.le_of_ble_eq_true rfl)
  rw [hav, lg_entry_eq]
  generalize (lg_sl ([.ref (b + 0), .int (nI d)]) ++ List.replicate (6 - (lg_sl ([.ref (b + 0), .int (nI d)])).length) Slot.unset).toArray = ls at hl ⊢
  have hl : lv_has ls 6 [(0, .ref (b + 0)), (1, .int (nI d))] := hl
  rw [← hav]
  have hM6 := hM.1
  have hd64 : 2 ^ d < 2 ^ 6 := Nat.pow_lt_pow_right (by decide) hd
  refine lv_iconst (v := nI 1) hx hb d_MO_treeOf_0 (by decide) ?_
  refine lv_iload_n hx hb d_MO_treeOf_1 rfl (lv_at hl 1 rfl) ?_
  refine lv_ishl hx hb d_MO_treeOf_2 ?_
  refine ti (nI (2 ^ d)) (sh1 (by omega)) ?_
  refine lv_istore_n (lv' := [(2, .int (nI (2 ^ d))), (0, .ref (b + 0)), (1, .int (nI d))]) hx hb d_MO_treeOf_3 rfl hl (by decide) rfl (fun ls hl => ?_)
  refine lv_iconst (v := nI 0) hx hb d_MO_treeOf_4 (by decide) ?_
  refine lv_istore_n (lv' := [(3, .int (nI 0)), (2, .int (nI (2 ^ d))), (0, .ref (b + 0)), (1, .int (nI d))]) hx hb d_MO_treeOf_5 rfl hl (by decide) rfl (fun ls hl => ?_)
  have loop6 : ∀ (r : Nat) (r9 : Nat) (C : Nat → va_E) (H : Heap) (locs : List Loc) (ls : Array Slot), 6 < r9 + r → r9 ≤ 6 → va_P D classes (wl b 11 C) H → va_S (xr b 11) s.heap H locs → MV ca b C th dts tld fs9 ls9 cn9 lf9 mb9 mwt mab mbe on1 ot2 lea mos yrs bv → lv_has ls 6 [(0, .ref (b + 0)), (1, .int (nI d)), (2, .int (nI (tOr on1 ot2 tld r9 (2 ^ d)))), (3, .int (nI r9))] → W p l e (headSpec (k_MO_treeOf :: gw) ({ frames := 1, cells := 0, slots := 0, locals := 12 })).room s m args below meth c H locs 0 0 (MQ below (xQ D b 11 (fun r C1 => r = some (.int (nI (tOr on1 ot2 tld 6 (2 ^ d)))) ∧ MV ca b C1 th dts tld fs9 ls9 cn9 lf9 mb9 mwt mab mbe on1 ot2 lea mos yrs bv)) args s 0 0 (xr b 11)) (F0 m 6 ls []) := by
    intro r
    induction r with
    | zero => intro r9 C H locs ls hms hr9; exact absurd hms (by omega)
    | succ r ih6 =>
      intro r9 C H locs ls hms hr9 hP hS hX hl
      refine lv_iload_n hx hb d_MO_treeOf_6 rfl (lv_at hl 3 rfl) ?_
      refine lv_bipush (v := nI 6) hx hb d_MO_treeOf_7 (by decide) ?_
      refine xi_ge (tgt := 73) hx hb d_MO_treeOf_9 (by decide) (by omega) (by omega) (fun h9 => ?_) (fun h9 => ?_)
      · skip
        refine lv_iload_n hx hb d_MO_treeOf_73 rfl (lv_at hl 2 rfl) ?_
        exact xw_iret hx hb hr hlocks hP hS ⟨by rw [show r9 = 6 by omega], hX⟩ d_MO_treeOf_74
      · skip
        refine lv_iconst (v := nI 0) hx hb d_MO_treeOf_12 (by decide) ?_
        refine lv_istore (lv' := [(4, .int (nI 0)), (0, .ref (b + 0)), (1, .int (nI d)), (2, .int (nI (tOr on1 ot2 tld r9 (2 ^ d)))), (3, .int (nI r9))]) hx hb d_MO_treeOf_13 hl (by decide) rfl (fun ls hl => ?_)
        have loop15 : ∀ (r : Nat) (k : Nat) (C : Nat → va_E) (H : Heap) (locs : List Loc) (ls : Array Slot), tld < k + r → k ≤ tld → va_P D classes (wl b 11 C) H → va_S (xr b 11) s.heap H locs → MV ca b C th dts tld fs9 ls9 cn9 lf9 mb9 mwt mab mbe on1 ot2 lea mos yrs bv → lv_has ls 6 [(0, .ref (b + 0)), (1, .int (nI d)), (2, .int (nI (tOk on1 ot2 k (tOr on1 ot2 tld r9 (2 ^ d))))), (3, .int (nI r9)), (4, .int (nI k))] → W p l e (headSpec (k_MO_treeOf :: gw) ({ frames := 1, cells := 0, slots := 0, locals := 12 })).room s m args below meth c H locs 0 0 (MQ below (xQ D b 11 (fun r C1 => r = some (.int (nI (tOr on1 ot2 tld 6 (2 ^ d)))) ∧ MV ca b C1 th dts tld fs9 ls9 cn9 lf9 mb9 mwt mab mbe on1 ot2 lea mos yrs bv)) args s 0 0 (xr b 11)) (F0 m 15 ls []) := by
          intro r
          induction r with
          | zero => intro k C H locs ls hms hk; exact absurd hms (by omega)
          | succ r ih15 =>
            intro k C H locs ls hms hk hP hS hX hl
            refine lv_iload hx hb d_MO_treeOf_15 (lv_at hl 4 rfl) ?_
            refine lv_aload_n hx hb d_MO_treeOf_17 rfl (lv_at hl 0 rfl) ?_
            refine xw_get (v := .int (nI tld)) hx hb hts (fun w h => mw (uw_MO w h)) hown hK hP (MV_0 hX) (by decide) rfl 5 (by decide) (hts _ (mw tb_600)) (fun _ h => h) rfl d_MO_treeOf_18 ?_
            refine xi_ge (tgt := 67) hx hb d_MO_treeOf_21 (by decide) (by omega) (by omega) (fun h21 => ?_) (fun h21 => ?_)
            · skip
              have ek : k = tld := by omega
              rw [ek] at hl
              refine lv_iinc (v := nI (r9 + 1)) (lv' := [(3, .int (nI (r9 + 1))), (0, .ref (b + 0)), (1, .int (nI d)), (2, .int (nI (tOr on1 ot2 tld (r9 + 1) (2 ^ d)))), (4, .int (nI tld))]) hx hb d_MO_treeOf_67 hl (k := 3) rfl (show nI r9 + Int32.ofInt 1 = nI (r9 + 1) from nI_add _ _) (by decide) rfl (fun ls hl => ?_)
              refine lv_goto (tgt := 6) hx hb d_MO_treeOf_70 (by decide) ?_
              exact ih6 (r9 + 1) _ _ _ _ (by omega) (by omega) hP hS hX (lv_sub hl [1, 2, 3, 0] rfl)
            · skip
              obtain ⟨ho1, ho2, -, -⟩ := hM.2 k h21
              have hm64 := tOk_lt hM k (by omega) _ (tOr_lt hM r9 _ hd64)
              have h264 := two_lt hM h21
              have hand : tOk on1 ot2 k (tOr on1 ot2 tld r9 (2 ^ d)) &&& (2 ^ on1 k ||| 2 ^ ot2 k) < 2 ^ 6 := Nat.and_lt_two_pow _ h264
              refine lv_iconst (v := nI 1) hx hb d_MO_treeOf_24 (by decide) ?_
              refine lv_aload_n hx hb d_MO_treeOf_25 rfl (lv_at hl 0 rfl) ?_
              refine xw_get (v := .ref (b + 4)) hx hb hts (fun w h => mw (uw_MO w h)) hown hK hP (MV_0 hX) (by decide) rfl 6 (by decide) (hts _ (mw tb_601)) (fun _ h => h) rfl d_MO_treeOf_26 ?_
              refine lv_iload hx hb d_MO_treeOf_29 (lv_at hl 4 rfl) ?_
              refine xw_iald hx hb hK hP 0 (MV_4 hX) (by decide) rfl (by omega) (by decide) d_MO_treeOf_31 ?_
              refine lv_ishl hx hb d_MO_treeOf_32 ?_
              refine ti (nI (2 ^ (on1 k))) (sh1 (by omega)) ?_
              refine lv_iconst (v := nI 1) hx hb d_MO_treeOf_33 (by decide) ?_
              refine lv_aload_n hx hb d_MO_treeOf_34 rfl (lv_at hl 0 rfl) ?_
              refine xw_get (v := .ref (b + 5)) hx hb hts (fun w h => mw (uw_MO w h)) hown hK hP (MV_0 hX) (by decide) rfl 7 (by decide) (hts _ (mw tb_602)) (fun _ h => h) rfl d_MO_treeOf_35 ?_
              refine lv_iload hx hb d_MO_treeOf_38 (lv_at hl 4 rfl) ?_
              refine xw_iald hx hb hK hP 0 (MV_5 hX) (by decide) rfl (by omega) (by decide) d_MO_treeOf_40 ?_
              refine lv_ishl hx hb d_MO_treeOf_41 ?_
              refine ti (nI (2 ^ (ot2 k))) (sh1 (by omega)) ?_
              refine lv_ior hx hb d_MO_treeOf_42 ?_
              refine ti (nI ((2 ^ (on1 k)) ||| (2 ^ (ot2 k)))) (nx_or _ _) ?_
              refine lv_istore (lv' := [(5, .int (nI ((2 ^ (on1 k)) ||| (2 ^ (ot2 k))))), (0, .ref (b + 0)), (1, .int (nI d)), (2, .int (nI (tOk on1 ot2 k (tOr on1 ot2 tld r9 (2 ^ d))))), (3, .int (nI r9)), (4, .int (nI k))]) hx hb d_MO_treeOf_43 hl (by decide) rfl (fun ls hl => ?_)
              refine lv_iload_n hx hb d_MO_treeOf_45 rfl (lv_at hl 3 rfl) ?_
              refine lv_iload hx hb d_MO_treeOf_46 (lv_at hl 0 rfl) ?_
              refine lv_iand hx hb d_MO_treeOf_48 ?_
              refine ti (nI ((tOk on1 ot2 k (tOr on1 ot2 tld r9 (2 ^ d))) &&& ((2 ^ (on1 k)) ||| (2 ^ (ot2 k))))) (nx_and _ _) ?_
              refine xz_eq (tgt := 59) hx hb d_MO_treeOf_49 (by decide) (by omega) (fun h49 => ?_) (fun h49 => ?_)
              · skip
                refine lv_iload_n hx hb d_MO_treeOf_59 rfl (lv_at hl 3 rfl) ?_
                refine ti (nI (tOk on1 ot2 (k + 1) (tOr on1 ot2 tld r9 (2 ^ d)))) (by rw [tOk_z h49]) ?_
                refine lv_istore_n (lv' := [(2, .int (nI (tOk on1 ot2 (k + 1) (tOr on1 ot2 tld r9 (2 ^ d))))), (5, .int (nI ((2 ^ (on1 k)) ||| (2 ^ (ot2 k))))), (0, .ref (b + 0)), (1, .int (nI d)), (3, .int (nI r9)), (4, .int (nI k))]) hx hb d_MO_treeOf_60 rfl hl (by decide) rfl (fun ls hl => ?_)
                refine lv_iinc (v := nI (k + 1)) (lv' := [(4, .int (nI (k + 1))), (2, .int (nI (tOk on1 ot2 (k + 1) (tOr on1 ot2 tld r9 (2 ^ d))))), (5, .int (nI ((2 ^ (on1 k)) ||| (2 ^ (ot2 k))))), (0, .ref (b + 0)), (1, .int (nI d)), (3, .int (nI r9))]) hx hb d_MO_treeOf_61 hl (k := 5) rfl (show nI k + Int32.ofInt 1 = nI (k + 1) from nI_add _ _) (by decide) rfl (fun ls hl => ?_)
                refine lv_goto (tgt := 15) hx hb d_MO_treeOf_64 (by decide) ?_
                exact ih15 (k + 1) _ _ _ _ (by omega) (by omega) hP hS hX (lv_sub hl [3, 4, 1, 5, 0] rfl)
              · skip
                refine lv_iload_n hx hb d_MO_treeOf_52 rfl (lv_at hl 3 rfl) ?_
                refine lv_iload hx hb d_MO_treeOf_53 (lv_at hl 0 rfl) ?_
                refine lv_ior hx hb d_MO_treeOf_55 ?_
                refine ti (nI ((tOk on1 ot2 k (tOr on1 ot2 tld r9 (2 ^ d))) ||| ((2 ^ (on1 k)) ||| (2 ^ (ot2 k))))) (nx_or _ _) ?_
                refine lv_goto (tgt := 60) hx hb d_MO_treeOf_56 (by decide) ?_
                refine ti (nI (tOk on1 ot2 (k + 1) (tOr on1 ot2 tld r9 (2 ^ d)))) (by rw [tOk_n h49]) ?_
                refine lv_istore_n (lv' := [(2, .int (nI (tOk on1 ot2 (k + 1) (tOr on1 ot2 tld r9 (2 ^ d))))), (5, .int (nI ((2 ^ (on1 k)) ||| (2 ^ (ot2 k))))), (0, .ref (b + 0)), (1, .int (nI d)), (3, .int (nI r9)), (4, .int (nI k))]) hx hb d_MO_treeOf_60 rfl hl (by decide) rfl (fun ls hl => ?_)
                refine lv_iinc (v := nI (k + 1)) (lv' := [(4, .int (nI (k + 1))), (2, .int (nI (tOk on1 ot2 (k + 1) (tOr on1 ot2 tld r9 (2 ^ d))))), (5, .int (nI ((2 ^ (on1 k)) ||| (2 ^ (ot2 k))))), (0, .ref (b + 0)), (1, .int (nI d)), (3, .int (nI r9))]) hx hb d_MO_treeOf_61 hl (k := 5) rfl (show nI k + Int32.ofInt 1 = nI (k + 1) from nI_add _ _) (by decide) rfl (fun ls hl => ?_)
                refine lv_goto (tgt := 15) hx hb d_MO_treeOf_64 (by decide) ?_
                exact ih15 (k + 1) _ _ _ _ (by omega) (by omega) hP hS hX (lv_sub hl [3, 4, 1, 5, 0] rfl)
        exact loop15 (tld + 1) 0 _ _ _ _ (by omega) (by omega) hP hS hX (lv_sub hl [1, 2, 3, 4, 0] rfl)
  exact loop6 7 0 _ _ _ _ (by omega) (by omega) hP hS hX (lv_sub hl [2, 3, 1, 0] rfl)

set_option maxHeartbeats 4000000 in
set_option maxRecDepth 100000 in
/-- whether a tree has a member -/
theorem c_MO_hasMember (l : Launch) (D : va_G) (ca : Nat → ClassId) (b : Nat) (C0 : Nat → va_E) {th : Nat} {dts : Nat} {tld : Nat} {fs9 : Nat} {ls9 : Nat} {cn9 : Nat} {lf9 : Nat} {mb9 : Nat} {mwt : Nat → Nat} {mab : Nat → Nat} {mbe : Nat → Nat} {on1 : Nat → Nat} {ot2 : Nat → Nat} {lea : Nat → Nat} {mos : Nat → Nat} {yrs : Nat → Nat} {bv : Nat → Nat} (x : Nat) (hX : MV ca b C0 th dts tld fs9 ls9 cn9 lf9 mb9 mwt mab mbe on1 ot2 lea mos yrs bv) (hM : MOK on1 ot2 lea mos tld) (hx31 : x < 2 ^ 31) : Met l y_MO_hasMember (k_MO_hasMember :: gw) ({ frames := 2, cells := 0, slots := 0, locals := 33 }) (xPc D ca b 11 C0 [.ref (b + 0), .int (nI x)]) (xQ D b 11 (fun r C1 => ∃ z : Bool, r = some (.int (nI z.toNat)) ∧ (z = true ↔ (∃ k, k < tld ∧ on1 k = ot2 k ∧ x.testBit (on1 k) = true)) ∧ MV ca b C1 th dts tld fs9 ls9 cn9 lf9 mb9 mwt mab mbe on1 ot2 lea mos yrs bv)) 0 0 (xr b 11) := by
  refine Met.ofW (cc := b_MO_hasMember) (maxL := 4) (ret := (some FieldType.boolean)) (by decide) rfl ?_
  intro p e s m args below meth c s₁ B hml hv
  obtain ⟨hav, hP, hK⟩ := hv
  have hx := B.exec
  have hb := B.bytes
  have hr := B.returns
  have hts := atoms_spec (ws := k_MO_hasMember :: gw) B.pre
  have hown : s.vm.findClass R_MO = some m.cls := findClass_of_methodNamed B.named
  have hlocks := B.notSynchronized
  have hA : ∀ k, k < 11 → xr b 11 (b + k) := xr_in
  have hS : va_S (xr b 11) s.heap s.heap [] := va_S.rf
  have hl := lv_entry ([.ref (b + 0), .int (nI x)]) (n := 4) (Nat.le_of_ble_eq_true rfl)
  rw [hav, lg_entry_eq]
  generalize (lg_sl ([.ref (b + 0), .int (nI x)]) ++ List.replicate (4 - (lg_sl ([.ref (b + 0), .int (nI x)])).length) Slot.unset).toArray = ls at hl ⊢
  have hl : lv_has ls 4 [(0, .ref (b + 0)), (1, .int (nI x))] := hl
  rw [← hav]
  have hM6 := hM.1
  refine lv_iconst (v := nI 0) hx hb d_MO_hasMember_0 (by decide) ?_
  refine lv_istore_n (lv' := [(2, .int (nI 0)), (0, .ref (b + 0)), (1, .int (nI x))]) hx hb d_MO_hasMember_1 rfl hl (by decide) rfl (fun ls hl => ?_)
  refine lv_iconst (v := nI 0) hx hb d_MO_hasMember_2 (by decide) ?_
  refine lv_istore_n (lv' := [(3, .int (nI 0)), (2, .int (nI 0)), (0, .ref (b + 0)), (1, .int (nI x))]) hx hb d_MO_hasMember_3 rfl hl (by decide) rfl (fun ls hl => ?_)
  have loop4 : ∀ (r : Nat) (i : Nat) (z : Bool) (C : Nat → va_E) (H : Heap) (locs : List Loc) (ls : Array Slot), tld < i + r → i ≤ tld → (z = true ↔ (∃ k, k < i ∧ on1 k = ot2 k ∧ x.testBit (on1 k) = true)) → va_P D classes (wl b 11 C) H → va_S (xr b 11) s.heap H locs → MV ca b C th dts tld fs9 ls9 cn9 lf9 mb9 mwt mab mbe on1 ot2 lea mos yrs bv → lv_has ls 4 [(0, .ref (b + 0)), (1, .int (nI x)), (2, .int (nI z.toNat)), (3, .int (nI i))] → W p l e (headSpec (k_MO_hasMember :: gw) ({ frames := 2, cells := 0, slots := 0, locals := 33 })).room s m args below meth c H locs 0 0 (MQ below (xQ D b 11 (fun r C1 => ∃ z : Bool, r = some (.int (nI z.toNat)) ∧ (z = true ↔ (∃ k, k < tld ∧ on1 k = ot2 k ∧ x.testBit (on1 k) = true)) ∧ MV ca b C1 th dts tld fs9 ls9 cn9 lf9 mb9 mwt mab mbe on1 ot2 lea mos yrs bv)) args s 0 0 (xr b 11)) (F0 m 4 ls []) := by
    intro r
    induction r with
    | zero => intro i z C H locs ls hms hi hz; exact absurd hms (by omega)
    | succ r ih4 =>
      intro i z C H locs ls hms hi hz hP hS hX hl
      refine lv_iload_n hx hb d_MO_hasMember_4 rfl (lv_at hl 3 rfl) ?_
      refine lv_aload_n hx hb d_MO_hasMember_5 rfl (lv_at hl 0 rfl) ?_
      refine xw_get (v := .int (nI tld)) hx hb hts (fun w h => mw (uw_MO w h)) hown hK hP (MV_0 hX) (by decide) rfl 5 (by decide) (hts _ (mw tb_600)) (fun _ h => h) rfl d_MO_hasMember_6 ?_
      refine xi_ge (tgt := 50) hx hb d_MO_hasMember_9 (by decide) (by omega) (by omega) (fun h9 => ?_) (fun h9 => ?_)
      · skip
        refine lv_iload_n hx hb d_MO_hasMember_50 rfl (lv_at hl 2 rfl) ?_
        exact xw_zret hx hb hr hlocks (nzB _) hP hS ⟨z, rfl, by rw [hz, show i = tld by omega], hX⟩ d_MO_hasMember_51
      · skip
        obtain ⟨ho1, ho2, -, -⟩ := hM.2 i h9
        refine lv_iload_n hx hb d_MO_hasMember_12 rfl (lv_at hl 2 rfl) ?_
        refine xz_ne (tgt := 38) hx hb d_MO_hasMember_13 (by decide) (tn31 _) (fun h13 => ?_) (fun h13 => ?_)
        · skip
          refine lv_iconst (v := nI 1) hx hb d_MO_hasMember_38 (by decide) ?_
          refine lv_goto (tgt := 43) hx hb d_MO_hasMember_39 (by decide) ?_
          refine lv_istore_n (lv' := [(2, .int (nI 1)), (0, .ref (b + 0)), (1, .int (nI x)), (3, .int (nI i))]) hx hb d_MO_hasMember_43 rfl hl (by decide) rfl (fun ls hl => ?_)
          refine lv_iinc (v := nI (i + 1)) (lv' := [(3, .int (nI (i + 1))), (2, .int (nI 1)), (0, .ref (b + 0)), (1, .int (nI x))]) hx hb d_MO_hasMember_44 hl (k := 3) rfl (show nI i + Int32.ofInt 1 = nI (i + 1) from nI_add _ _) (by decide) rfl (fun ls hl => ?_)
          refine lv_goto (tgt := 4) hx hb d_MO_hasMember_47 (by decide) ?_
          exact ih4 (i + 1) true _ _ _ _ (by omega) (by omega) ⟨fun _ => (fun ⟨k, q1, q2⟩ => ⟨k, by omega, q2⟩) (hz.mp (bt h13)), fun _ => rfl⟩ hP hS hX (lv_sub hl [2, 3, 1, 0] rfl)
        · skip
          refine lv_aload_n hx hb d_MO_hasMember_16 rfl (lv_at hl 0 rfl) ?_
          refine lv_iload_n hx hb d_MO_hasMember_17 rfl (lv_at hl 3 rfl) ?_
          obtain ⟨bg9, wd9, hX, hB9⟩ := hX
          refine xc_V (n := 1) (g0 := 0) (As := [.int (nI i)]) (rest := []) (st0 := _) hx hb hml hown hts (c_MO_isMember l D ca b _ i hX (by omega) ho1 ho2) km_MO_isMember tb_689 tb_691 tps_23 tb_7 (by decide +kernel) rfl rfl ⟨Nat.le_of_ble_eq_true rfl, Nat.le_of_ble_eq_true rfl⟩ hK hP (MR_0 hX) (by decide) rfl rfl rfl hl rfl (Nat.le_of_ble_eq_true rfl) d_MO_hasMember_18 ⟨Nat.zero_le _, Nat.zero_le _⟩ hS (fun _ h => h) (fun v C H locs hp hP _ _ hS => ?_)
          obtain ⟨z1, rfl, hz1, hX⟩ := hp
          have hX : MV ca b C th dts tld fs9 ls9 cn9 lf9 mb9 mwt mab mbe on1 ot2 lea mos yrs bv := ⟨_, _, hX, hB9⟩
          refine xz_eq (tgt := 42) hx hb d_MO_hasMember_21 (by decide) (tn31 _) (fun h21 => ?_) (fun h21 => ?_)
          · skip
            refine lv_iconst (v := nI 0) hx hb d_MO_hasMember_42 (by decide) ?_
            refine lv_istore_n (lv' := [(2, .int (nI 0)), (0, .ref (b + 0)), (1, .int (nI x)), (3, .int (nI i))]) hx hb d_MO_hasMember_43 rfl hl (by decide) rfl (fun ls hl => ?_)
            refine lv_iinc (v := nI (i + 1)) (lv' := [(3, .int (nI (i + 1))), (2, .int (nI 0)), (0, .ref (b + 0)), (1, .int (nI x))]) hx hb d_MO_hasMember_44 hl (k := 3) rfl (show nI i + Int32.ofInt 1 = nI (i + 1) from nI_add _ _) (by decide) rfl (fun ls hl => ?_)
            refine lv_goto (tgt := 4) hx hb d_MO_hasMember_47 (by decide) ?_
            exact ih4 (i + 1) false _ _ _ _ (by omega) (by omega) ⟨fun q => (by cases q), fun ⟨k, q1, q2, q3⟩ => by
                by_cases qk : k = i
                · subst qk; exact absurd (hz1.mpr q2) (by rw [bf h21]; simp)
                · have := hz.mpr ⟨k, by omega, q2, q3⟩; rw [bf h13] at this; cases this⟩ hP hS hX (lv_sub hl [2, 3, 1, 0] rfl)
          · skip
            refine lv_iload_n hx hb d_MO_hasMember_24 rfl (lv_at hl 1 rfl) ?_
            refine lv_aload_n hx hb d_MO_hasMember_25 rfl (lv_at hl 0 rfl) ?_
            refine xw_get (v := .ref (b + 4)) hx hb hts (fun w h => mw (uw_MO w h)) hown hK hP (MV_0 hX) (by decide) rfl 6 (by decide) (hts _ (mw tb_601)) (fun _ h => h) rfl d_MO_hasMember_26 ?_
            refine lv_iload_n hx hb d_MO_hasMember_29 rfl (lv_at hl 3 rfl) ?_
            refine xw_iald hx hb hK hP 0 (MV_4 hX) (by decide) rfl (by omega) (by decide) d_MO_hasMember_30 ?_
            refine lv_ishr hx hb d_MO_hasMember_31 ?_
            refine ti (nI (x / 2 ^ (on1 i))) (shr1 hx31 (by omega)) ?_
            refine lv_iconst (v := nI 1) hx hb d_MO_hasMember_32 (by decide) ?_
            refine lv_iand hx hb d_MO_hasMember_33 ?_
            refine ti (nI ((x / 2 ^ (on1 i)) % 2)) (and1 _) ?_
            refine lv_iconst (v := nI 1) hx hb d_MO_hasMember_34 (by decide) ?_
            refine xi_ne (tgt := 42) hx hb d_MO_hasMember_35 (by decide) (by omega) (by omega) (fun h35 => ?_) (fun h35 => ?_)
            · skip
              refine lv_iconst (v := nI 0) hx hb d_MO_hasMember_42 (by decide) ?_
              refine lv_istore_n (lv' := [(2, .int (nI 0)), (0, .ref (b + 0)), (1, .int (nI x)), (3, .int (nI i))]) hx hb d_MO_hasMember_43 rfl hl (by decide) rfl (fun ls hl => ?_)
              refine lv_iinc (v := nI (i + 1)) (lv' := [(3, .int (nI (i + 1))), (2, .int (nI 0)), (0, .ref (b + 0)), (1, .int (nI x))]) hx hb d_MO_hasMember_44 hl (k := 3) rfl (show nI i + Int32.ofInt 1 = nI (i + 1) from nI_add _ _) (by decide) rfl (fun ls hl => ?_)
              refine lv_goto (tgt := 4) hx hb d_MO_hasMember_47 (by decide) ?_
              exact ih4 (i + 1) false _ _ _ _ (by omega) (by omega) ⟨fun q => (by cases q), fun ⟨k, q1, q2, q3⟩ => by
                  by_cases qk : k = i
                  · subst qk; exact absurd (tbit.mpr q3) h35
                  · have := hz.mpr ⟨k, by omega, q2, q3⟩; rw [bf h13] at this; cases this⟩ hP hS hX (lv_sub hl [2, 3, 1, 0] rfl)
            · skip
              refine lv_iconst (v := nI 1) hx hb d_MO_hasMember_38 (by decide) ?_
              refine lv_goto (tgt := 43) hx hb d_MO_hasMember_39 (by decide) ?_
              refine lv_istore_n (lv' := [(2, .int (nI 1)), (0, .ref (b + 0)), (1, .int (nI x)), (3, .int (nI i))]) hx hb d_MO_hasMember_43 rfl hl (by decide) rfl (fun ls hl => ?_)
              refine lv_iinc (v := nI (i + 1)) (lv' := [(3, .int (nI (i + 1))), (2, .int (nI 1)), (0, .ref (b + 0)), (1, .int (nI x))]) hx hb d_MO_hasMember_44 hl (k := 3) rfl (show nI i + Int32.ofInt 1 = nI (i + 1) from nI_add _ _) (by decide) rfl (fun ls hl => ?_)
              refine lv_goto (tgt := 4) hx hb d_MO_hasMember_47 (by decide) ?_
              exact ih4 (i + 1) true _ _ _ _ (by omega) (by omega) ⟨fun _ => ⟨i, by omega, hz1.mp (bt h21), tbit.mp h35⟩, fun _ => rfl⟩ hP hS hX (lv_sub hl [2, 3, 1, 0] rfl)
  exact loop4 (tld + 1) 0 false _ _ _ _ (by omega) (by omega) ⟨fun q => (by cases q), fun ⟨k, q1, q2⟩ => absurd q1 (by omega)⟩ hP hS hX (lv_sub hl [2, 3, 1, 0] rfl)

set_option maxHeartbeats 4000000 in
set_option maxRecDepth 100000 in
/-- whether there are members -/
theorem c_MO_hasMembers (l : Launch) (D : va_G) (ca : Nat → ClassId) (b : Nat) (C0 : Nat → va_E) {th : Nat} {dts : Nat} {tld : Nat} {fs9 : Nat} {ls9 : Nat} {cn9 : Nat} {lf9 : Nat} {mb9 : Nat} {mwt : Nat → Nat} {mab : Nat → Nat} {mbe : Nat → Nat} {on1 : Nat → Nat} {ot2 : Nat → Nat} {lea : Nat → Nat} {mos : Nat → Nat} {yrs : Nat → Nat} {bv : Nat → Nat}  (hX : MV ca b C0 th dts tld fs9 ls9 cn9 lf9 mb9 mwt mab mbe on1 ot2 lea mos yrs bv) (hM : MOK on1 ot2 lea mos tld) (hcn : cn9 < 2 ^ 31) : Met l y_MO_hasMembers (k_MO_hasMembers :: gw) ({ frames := 2, cells := 0, slots := 0, locals := 33 }) (xPc D ca b 11 C0 [.ref (b + 0)]) (xQ D b 11 (fun r C1 => ∃ z : Bool, r = some (.int (nI z.toNat)) ∧ (z = true ↔ (∃ k, k < tld ∧ cn9.testBit k = true ∧ on1 k = ot2 k)) ∧ MV ca b C1 th dts tld fs9 ls9 cn9 lf9 mb9 mwt mab mbe on1 ot2 lea mos yrs bv)) 0 0 (xr b 11) := by
  refine Met.ofW (cc := b_MO_hasMembers) (maxL := 3) (ret := (some FieldType.boolean)) (by decide) rfl ?_
  intro p e s m args below meth c s₁ B hml hv
  obtain ⟨hav, hP, hK⟩ := hv
  have hx := B.exec
  have hb := B.bytes
  have hr := B.returns
  have hts := atoms_spec (ws := k_MO_hasMembers :: gw) B.pre
  have hown : s.vm.findClass R_MO = some m.cls := findClass_of_methodNamed B.named
  have hlocks := B.notSynchronized
  have hA : ∀ k, k < 11 → xr b 11 (b + k) := xr_in
  have hS : va_S (xr b 11) s.heap s.heap [] := va_S.rf
  have hl := lv_entry ([.ref (b + 0)]) (n := 3) (Nat.le_of_ble_eq_true rfl)
  rw [hav, lg_entry_eq]
  generalize (lg_sl ([.ref (b + 0)]) ++ List.replicate (3 - (lg_sl ([.ref (b + 0)])).length) Slot.unset).toArray = ls at hl ⊢
  have hl : lv_has ls 3 [(0, .ref (b + 0))] := hl
  rw [← hav]
  have hM6 := hM.1
  refine lv_iconst (v := nI 0) hx hb d_MO_hasMembers_0 (by decide) ?_
  refine lv_istore_n (lv' := [(1, .int (nI 0)), (0, .ref (b + 0))]) hx hb d_MO_hasMembers_1 rfl hl (by decide) rfl (fun ls hl => ?_)
  refine lv_iconst (v := nI 0) hx hb d_MO_hasMembers_2 (by decide) ?_
  refine lv_istore_n (lv' := [(2, .int (nI 0)), (1, .int (nI 0)), (0, .ref (b + 0))]) hx hb d_MO_hasMembers_3 rfl hl (by decide) rfl (fun ls hl => ?_)
  have loop4 : ∀ (r : Nat) (i : Nat) (z : Bool) (C : Nat → va_E) (H : Heap) (locs : List Loc) (ls : Array Slot), tld < i + r → i ≤ tld → (z = true ↔ (∃ k, k < i ∧ cn9.testBit k = true ∧ on1 k = ot2 k)) → va_P D classes (wl b 11 C) H → va_S (xr b 11) s.heap H locs → MV ca b C th dts tld fs9 ls9 cn9 lf9 mb9 mwt mab mbe on1 ot2 lea mos yrs bv → lv_has ls 3 [(0, .ref (b + 0)), (1, .int (nI z.toNat)), (2, .int (nI i))] → W p l e (headSpec (k_MO_hasMembers :: gw) ({ frames := 2, cells := 0, slots := 0, locals := 33 })).room s m args below meth c H locs 0 0 (MQ below (xQ D b 11 (fun r C1 => ∃ z : Bool, r = some (.int (nI z.toNat)) ∧ (z = true ↔ (∃ k, k < tld ∧ cn9.testBit k = true ∧ on1 k = ot2 k)) ∧ MV ca b C1 th dts tld fs9 ls9 cn9 lf9 mb9 mwt mab mbe on1 ot2 lea mos yrs bv)) args s 0 0 (xr b 11)) (F0 m 4 ls []) := by
    intro r
    induction r with
    | zero => intro i z C H locs ls hms hi hz; exact absurd hms (by omega)
    | succ r ih4 =>
      intro i z C H locs ls hms hi hz hP hS hX hl
      refine lv_iload_n hx hb d_MO_hasMembers_4 rfl (lv_at hl 2 rfl) ?_
      refine lv_aload_n hx hb d_MO_hasMembers_5 rfl (lv_at hl 0 rfl) ?_
      refine xw_get (v := .int (nI tld)) hx hb hts (fun w h => mw (uw_MO w h)) hown hK hP (MV_0 hX) (by decide) rfl 5 (by decide) (hts _ (mw tb_600)) (fun _ h => h) rfl d_MO_hasMembers_6 ?_
      refine xi_ge (tgt := 44) hx hb d_MO_hasMembers_9 (by decide) (by omega) (by omega) (fun h9 => ?_) (fun h9 => ?_)
      · skip
        refine lv_iload_n hx hb d_MO_hasMembers_44 rfl (lv_at hl 1 rfl) ?_
        exact xw_zret hx hb hr hlocks (nzB _) hP hS ⟨z, rfl, by rw [hz, show i = tld by omega], hX⟩ d_MO_hasMembers_45
      · skip
        obtain ⟨ho1, ho2, -, -⟩ := hM.2 i h9
        refine lv_iload_n hx hb d_MO_hasMembers_12 rfl (lv_at hl 1 rfl) ?_
        refine xz_ne (tgt := 32) hx hb d_MO_hasMembers_13 (by decide) (tn31 _) (fun h13 => ?_) (fun h13 => ?_)
        · skip
          refine lv_iconst (v := nI 1) hx hb d_MO_hasMembers_32 (by decide) ?_
          refine lv_goto (tgt := 37) hx hb d_MO_hasMembers_33 (by decide) ?_
          refine lv_istore_n (lv' := [(1, .int (nI 1)), (0, .ref (b + 0)), (2, .int (nI i))]) hx hb d_MO_hasMembers_37 rfl hl (by decide) rfl (fun ls hl => ?_)
          refine lv_iinc (v := nI (i + 1)) (lv' := [(2, .int (nI (i + 1))), (1, .int (nI 1)), (0, .ref (b + 0))]) hx hb d_MO_hasMembers_38 hl (k := 2) rfl (show nI i + Int32.ofInt 1 = nI (i + 1) from nI_add _ _) (by decide) rfl (fun ls hl => ?_)
          refine lv_goto (tgt := 4) hx hb d_MO_hasMembers_41 (by decide) ?_
          exact ih4 (i + 1) true _ _ _ _ (by omega) (by omega) ⟨fun _ => (fun ⟨k, q1, q2⟩ => ⟨k, by omega, q2⟩) (hz.mp (bt h13)), fun _ => rfl⟩ hP hS hX (lv_sub hl [2, 1, 0] rfl)
        · skip
          refine lv_aload_n hx hb d_MO_hasMembers_16 rfl (lv_at hl 0 rfl) ?_
          refine lv_iload_n hx hb d_MO_hasMembers_17 rfl (lv_at hl 2 rfl) ?_
          obtain ⟨bg9, wd9, hX, hB9⟩ := hX
          refine xc_V (n := 1) (g0 := 0) (As := [.int (nI i)]) (rest := []) (st0 := _) hx hb hml hown hts (c_MO_counted l D ca b _ i hX (by omega) hcn) km_MO_counted tb_728 tb_730 tps_30 tb_7 (by decide +kernel) rfl rfl ⟨Nat.le_of_ble_eq_true rfl, Nat.le_of_ble_eq_true rfl⟩ hK hP (MR_0 hX) (by decide) rfl rfl rfl hl rfl (Nat.le_of_ble_eq_true rfl) d_MO_hasMembers_18 ⟨Nat.zero_le _, Nat.zero_le _⟩ hS (fun _ h => h) (fun v C H locs hp hP _ _ hS => ?_)
          obtain ⟨z1, rfl, hz1, hX⟩ := hp
          have hX : MV ca b C th dts tld fs9 ls9 cn9 lf9 mb9 mwt mab mbe on1 ot2 lea mos yrs bv := ⟨_, _, hX, hB9⟩
          refine xz_eq (tgt := 36) hx hb d_MO_hasMembers_21 (by decide) (tn31 _) (fun h21 => ?_) (fun h21 => ?_)
          · skip
            refine lv_iconst (v := nI 0) hx hb d_MO_hasMembers_36 (by decide) ?_
            refine lv_istore_n (lv' := [(1, .int (nI 0)), (0, .ref (b + 0)), (2, .int (nI i))]) hx hb d_MO_hasMembers_37 rfl hl (by decide) rfl (fun ls hl => ?_)
            refine lv_iinc (v := nI (i + 1)) (lv' := [(2, .int (nI (i + 1))), (1, .int (nI 0)), (0, .ref (b + 0))]) hx hb d_MO_hasMembers_38 hl (k := 2) rfl (show nI i + Int32.ofInt 1 = nI (i + 1) from nI_add _ _) (by decide) rfl (fun ls hl => ?_)
            refine lv_goto (tgt := 4) hx hb d_MO_hasMembers_41 (by decide) ?_
            exact ih4 (i + 1) false _ _ _ _ (by omega) (by omega) ⟨fun q => (by cases q), fun ⟨k, q1, q2, q3⟩ => by
                by_cases qk : k = i
                · subst qk; exact absurd (hz1.mpr q2) (by rw [bf h21]; simp)
                · have := hz.mpr ⟨k, by omega, q2, q3⟩; rw [bf h13] at this; cases this⟩ hP hS hX (lv_sub hl [2, 1, 0] rfl)
          · skip
            refine lv_aload_n hx hb d_MO_hasMembers_24 rfl (lv_at hl 0 rfl) ?_
            refine lv_iload_n hx hb d_MO_hasMembers_25 rfl (lv_at hl 2 rfl) ?_
            obtain ⟨bg9, wd9, hX, hB9⟩ := hX
            refine xc_V (n := 1) (g0 := 0) (As := [.int (nI i)]) (rest := []) (st0 := _) hx hb hml hown hts (c_MO_isMember l D ca b _ i hX (by omega) ho1 ho2) km_MO_isMember tb_689 tb_691 tps_23 tb_7 (by decide +kernel) rfl rfl ⟨Nat.le_of_ble_eq_true rfl, Nat.le_of_ble_eq_true rfl⟩ hK hP (MR_0 hX) (by decide) rfl rfl rfl hl rfl (Nat.le_of_ble_eq_true rfl) d_MO_hasMembers_26 ⟨Nat.zero_le _, Nat.zero_le _⟩ hS (fun _ h => h) (fun v C H locs hp hP _ _ hS => ?_)
            obtain ⟨z2, rfl, hz2, hX⟩ := hp
            have hX : MV ca b C th dts tld fs9 ls9 cn9 lf9 mb9 mwt mab mbe on1 ot2 lea mos yrs bv := ⟨_, _, hX, hB9⟩
            refine xz_eq (tgt := 36) hx hb d_MO_hasMembers_29 (by decide) (tn31 _) (fun h29 => ?_) (fun h29 => ?_)
            · skip
              refine lv_iconst (v := nI 0) hx hb d_MO_hasMembers_36 (by decide) ?_
              refine lv_istore_n (lv' := [(1, .int (nI 0)), (0, .ref (b + 0)), (2, .int (nI i))]) hx hb d_MO_hasMembers_37 rfl hl (by decide) rfl (fun ls hl => ?_)
              refine lv_iinc (v := nI (i + 1)) (lv' := [(2, .int (nI (i + 1))), (1, .int (nI 0)), (0, .ref (b + 0))]) hx hb d_MO_hasMembers_38 hl (k := 2) rfl (show nI i + Int32.ofInt 1 = nI (i + 1) from nI_add _ _) (by decide) rfl (fun ls hl => ?_)
              refine lv_goto (tgt := 4) hx hb d_MO_hasMembers_41 (by decide) ?_
              exact ih4 (i + 1) false _ _ _ _ (by omega) (by omega) ⟨fun q => (by cases q), fun ⟨k, q1, q2, q3⟩ => by
                  by_cases qk : k = i
                  · subst qk; exact absurd (hz2.mpr q3) (by rw [bf h29]; simp)
                  · have := hz.mpr ⟨k, by omega, q2, q3⟩; rw [bf h13] at this; cases this⟩ hP hS hX (lv_sub hl [2, 1, 0] rfl)
            · skip
              refine lv_iconst (v := nI 1) hx hb d_MO_hasMembers_32 (by decide) ?_
              refine lv_goto (tgt := 37) hx hb d_MO_hasMembers_33 (by decide) ?_
              refine lv_istore_n (lv' := [(1, .int (nI 1)), (0, .ref (b + 0)), (2, .int (nI i))]) hx hb d_MO_hasMembers_37 rfl hl (by decide) rfl (fun ls hl => ?_)
              refine lv_iinc (v := nI (i + 1)) (lv' := [(2, .int (nI (i + 1))), (1, .int (nI 1)), (0, .ref (b + 0))]) hx hb d_MO_hasMembers_38 hl (k := 2) rfl (show nI i + Int32.ofInt 1 = nI (i + 1) from nI_add _ _) (by decide) rfl (fun ls hl => ?_)
              refine lv_goto (tgt := 4) hx hb d_MO_hasMembers_41 (by decide) ?_
              exact ih4 (i + 1) true _ _ _ _ (by omega) (by omega) ⟨fun _ => ⟨i, by omega, hz1.mp (bt h21), hz2.mp (bt h29)⟩, fun _ => rfl⟩ hP hS hX (lv_sub hl [2, 1, 0] rfl)
  exact loop4 (tld + 1) 0 false _ _ _ _ (by omega) (by omega) ⟨fun q => (by cases q), fun ⟨k, q1, q2⟩ => absurd q1 (by omega)⟩ hP hS hX (lv_sub hl [2, 1, 0] rfl)

set_option maxHeartbeats 4000000 in
set_option maxRecDepth 100000 in
/-- a date -/
theorem c_MO_date (l : Launch) (D : va_G) (ca : Nat → ClassId) (b : Nat) (C0 : Nat → va_E) {th : Nat} {dts : Nat} {tld : Nat} {fs9 : Nat} {ls9 : Nat} {cn9 : Nat} {lf9 : Nat} {mb9 : Nat} {mwt : Nat → Nat} {mab : Nat → Nat} {mbe : Nat → Nat} {on1 : Nat → Nat} {ot2 : Nat → Nat} {lea : Nat → Nat} {mos : Nat → Nat} {yrs : Nat → Nat} {bv : Nat → Nat}  (hX : MV ca b C0 th dts tld fs9 ls9 cn9 lf9 mb9 mwt mab mbe on1 ot2 lea mos yrs bv) (hd6 : dts ≤ 6) : Met l y_MO_date (k_MO_date :: gw) ({ frames := 2, cells := 0, slots := 0, locals := 35 }) (xPc D ca b 11 C0 [.ref (b + 0)]) (xQ D b 11 (fun r C1 => (dts < 6 ∧ r = some (.int (nI dts)) ∧ MV ca b C1 0 (dts + 1) tld fs9 ls9 cn9 lf9 mb9 mwt mab (va_up mbe dts 1) on1 ot2 lea mos yrs bv) ∨ (6 ≤ dts ∧ r = some (.int (nI 0)) ∧ MV ca b C1 1 dts tld fs9 ls9 cn9 lf9 mb9 mwt mab mbe on1 ot2 lea mos yrs bv))) 0 0 (xr b 11) := by
  refine Met.ofW (cc := b_MO_date) (maxL := 1) (ret := (some FieldType.int)) (by decide) rfl ?_
  intro p e s m args below meth c s₁ B hml hv
  obtain ⟨hav, hP, hK⟩ := hv
  have hx := B.exec
  have hb := B.bytes
  have hr := B.returns
  have hts := atoms_spec (ws := k_MO_date :: gw) B.pre
  have hown : s.vm.findClass R_MO = some m.cls := findClass_of_methodNamed B.named
  have hlocks := B.notSynchronized
  have hA : ∀ k, k < 11 → xr b 11 (b + k) := xr_in
  have hS : va_S (xr b 11) s.heap s.heap [] := va_S.rf
  have hl := lv_entry ([.ref (b + 0)]) (n := 1) (Nat.le_of_ble_eq_true rfl)
  rw [hav, lg_entry_eq]
  generalize (lg_sl ([.ref (b + 0)]) ++ List.replicate (1 - (lg_sl ([.ref (b + 0)])).length) Slot.unset).toArray = ls at hl ⊢
  have hl : lv_has ls 1 [(0, .ref (b + 0))] := hl
  rw [← hav]
  refine lv_aload_n hx hb d_MO_date_0 rfl (lv_at hl 0 rfl) ?_
  refine lv_aload_n hx hb d_MO_date_1 rfl (lv_at hl 0 rfl) ?_
  refine xw_get (v := .int (nI dts)) hx hb hts (fun w h => mw (uw_MO w h)) hown hK hP (MV_0 hX) (by decide) rfl 1 (by decide) (hts _ (mw tb_596)) (fun _ h => h) rfl d_MO_date_2 ?_
  refine lv_bipush (v := nI 6) hx hb d_MO_date_5 (by decide) ?_
  refine xi_ge (tgt := 14) hx hb d_MO_date_7 (by decide) (by omega) (by omega) (fun h7 => ?_) (fun h7 => ?_)
  · skip
    refine lv_iconst (v := nI 0) hx hb d_MO_date_14 (by decide) ?_
    refine lv_iconst (v := nI 1) hx hb d_MO_date_15 (by decide) ?_
    refine lv_iconst (v := nI 1) hx hb d_MO_date_16 (by decide) ?_
    obtain ⟨bg9, wd9, hX, hB9⟩ := hX
    refine xc_V (n := 3) (g0 := 0) (As := [.int (nI 0), .int (nI 1), .int (nI 1)]) (rest := []) (st0 := _) hx hb hml hown hts (c_MO_goes l D ca b _ false true true hX ) km_MO_goes tb_658 tb_660 tps_19 tb_7 (by decide +kernel) rfl rfl ⟨Nat.le_of_ble_eq_true rfl, Nat.le_of_ble_eq_true rfl⟩ hK hP (MR_0 hX) (by decide) rfl rfl rfl hl rfl (Nat.le_of_ble_eq_true rfl) d_MO_date_17 ⟨Nat.zero_le _, Nat.zero_le _⟩ hS (fun _ h => h) (fun v C H locs hp hP _ _ hS => ?_)
    obtain ⟨rfl, hX⟩ := hp
    refine ti (nI 0) rfl ?_
    have hX : MV ca b C (gth false true true) dts tld fs9 ls9 cn9 lf9 mb9 mwt mab mbe on1 ot2 lea mos yrs bv := ⟨_, _, hX, hB9⟩
    refine xz_ne (tgt := 25) hx hb d_MO_date_20 (by decide) (by omega) (fun h20 => ?_) (fun h20 => ?_)
    · skip
      exact absurd h20 (by decide)
    · skip
      refine lv_iconst (v := nI 0) hx hb d_MO_date_23 (by decide) ?_
      exact xw_iret hx hb hr hlocks hP hS (Or.inr ⟨by omega, rfl, hX⟩) d_MO_date_24
  · skip
    refine lv_iconst (v := nI 1) hx hb d_MO_date_10 (by decide) ?_
    refine lv_goto (tgt := 15) hx hb d_MO_date_11 (by decide) ?_
    refine lv_iconst (v := nI 1) hx hb d_MO_date_15 (by decide) ?_
    refine lv_iconst (v := nI 1) hx hb d_MO_date_16 (by decide) ?_
    obtain ⟨bg9, wd9, hX, hB9⟩ := hX
    refine xc_V (n := 3) (g0 := 0) (As := [.int (nI 1), .int (nI 1), .int (nI 1)]) (rest := []) (st0 := _) hx hb hml hown hts (c_MO_goes l D ca b _ true true true hX ) km_MO_goes tb_658 tb_660 tps_19 tb_7 (by decide +kernel) rfl rfl ⟨Nat.le_of_ble_eq_true rfl, Nat.le_of_ble_eq_true rfl⟩ hK hP (MR_0 hX) (by decide) rfl rfl rfl hl rfl (Nat.le_of_ble_eq_true rfl) d_MO_date_17 ⟨Nat.zero_le _, Nat.zero_le _⟩ hS (fun _ h => h) (fun v C H locs hp hP _ _ hS => ?_)
    obtain ⟨rfl, hX⟩ := hp
    refine ti (nI 1) rfl ?_
    have hX : MV ca b C (gth true true true) dts tld fs9 ls9 cn9 lf9 mb9 mwt mab mbe on1 ot2 lea mos yrs bv := ⟨_, _, hX, hB9⟩
    refine xz_ne (tgt := 25) hx hb d_MO_date_20 (by decide) (by omega) (fun h20 => ?_) (fun h20 => ?_)
    · skip
      refine lv_aload_n hx hb d_MO_date_25 rfl (lv_at hl 0 rfl) ?_
      refine xw_get (v := .ref (b + 3)) hx hb hts (fun w h => mw (uw_MO w h)) hown hK hP (MV_0 hX) (by decide) rfl 4 (by decide) (hts _ (mw tb_599)) (fun _ h => h) rfl d_MO_date_26 ?_
      refine lv_aload_n hx hb d_MO_date_29 rfl (lv_at hl 0 rfl) ?_
      refine xw_get (v := .int (nI dts)) hx hb hts (fun w h => mw (uw_MO w h)) hown hK hP (MV_0 hX) (by decide) rfl 1 (by decide) (hts _ (mw tb_596)) (fun _ h => h) rfl d_MO_date_30 ?_
      refine lv_iconst (v := nI 1) hx hb d_MO_date_33 (by decide) ?_
      refine xw_iast hx hb hK hP hA hS 0 (MV_3 hX) (by decide) rfl (by omega) (by decide) d_MO_date_34 (fun H locs hP hS => ?_)
      have hX := MV_set_mbe (j := dts) (x := 1) hX
      generalize va_up _ 3 _ = C at hP hX
      refine lv_aload_n hx hb d_MO_date_35 rfl (lv_at hl 0 rfl) ?_
      refine lv_dup hx hb d_MO_date_36 rfl ?_
      refine xw_get (v := .int (nI dts)) hx hb hts (fun w h => mw (uw_MO w h)) hown hK hP (MV_0 hX) (by decide) rfl 1 (by decide) (hts _ (mw tb_596)) (fun _ h => h) rfl d_MO_date_37 ?_
      refine lv_iconst (v := nI 1) hx hb d_MO_date_40 (by decide) ?_
      refine lv_iadd hx hb d_MO_date_41 ?_
      refine ti (nI (dts + 1)) (nI_add _ _) ?_
      refine xw_put (v := .int (nI (dts + 1))) (ty := t_MO 1) hx hb hts (fun w h => mw (uw_MO w h)) t_MO t_MO_ok n_MO hown hK hP hA hS (MV_0 hX) (by decide) rfl 1 (by decide) (hts _ (mw tb_596)) (fun _ h => h) rfl (by decide +kernel) rfl rfl (Nat.le_of_ble_eq_true rfl) d_MO_date_42 (fun H locs hP hS => ?_)
      have hX := MV_set_dts (x1 := dts + 1) hX
      generalize va_up _ 0 _ = C at hP hX
      refine lv_aload_n hx hb d_MO_date_45 rfl (lv_at hl 0 rfl) ?_
      refine xw_get (v := .int (nI (dts + 1))) hx hb hts (fun w h => mw (uw_MO w h)) hown hK hP (MV_0 hX) (by decide) rfl 1 (by decide) (hts _ (mw tb_596)) (fun _ h => h) rfl d_MO_date_46 ?_
      refine lv_iconst (v := nI 1) hx hb d_MO_date_49 (by decide) ?_
      refine lv_isub hx hb d_MO_date_50 ?_
      refine ti (nI ((dts + 1) - 1)) (pk_sub (by omega)) ?_
      exact xw_iret hx hb hr hlocks hP hS (Or.inl ⟨by omega, rfl, hX⟩) d_MO_date_51
    · skip
      exact absurd h20 (by decide)

