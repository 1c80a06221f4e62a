/-! The law's loop and start -/
section LL
variable {p : Program} {l : Launch} {e : Env} {s : State} {m : MethodId} {below : List Frame} {meth : Method} {c : Code} {D : va_G} {ca : Nat → ClassId} {b bs L : Nat} {xs : Nat → Int32}
set_option maxHeartbeats 4000000 in
set_option maxRecDepth 100000 in
theorem law_loop (hC : LX p l s m c bs L xs D ca b) (hr : meth.sig.returnType = ret) (hlocks : meth.locks = false) : ∀ (r j : Nat) (C Cm : Nat → va_E) (f : Nat → Int64) (th : Nat) (H : Heap) (ls : Array Slot), L < 6 * j + r → 6 * j ≤ L → INV ca b (b + 219) C Cm th → LWS D ca b C Cm f H → nOld s H → lv_has ls 7 [(0, .ref bs), (1, .ref (b + 0)), (2, .ref (b + 219 + 0)), (3, .ref (b + 230)), (4, .int (nI (6 * j)))] → W p l e room_1 s m #[Value.ref bs] below meth c H [] (231 + 8 * j) (2296 + 48 * j) (lw_Z below #[Value.ref bs] s) (F0 m 23 ls []) := by
  intro r
  induction r with
  | zero => intro j C Cm f th H ls hms hj; exact absurd hms (by omega)
  | succ r ih =>
    intro j C Cm f th H ls hms hj hI hLS hS hl
    obtain ⟨hx, hb, hml, hown, hts, hst, hK, hE, hXs, hbl, hbb, hL⟩ := id hC
    refine lv_iload hx hb d_LA_law_23 (lv_at hl 4 rfl) ?_
    refine lv_aload_n hx hb d_LA_law_25 rfl (lv_at hl 0 rfl) ?_
    refine va_slen (A := fun q => s.heap.size ≤ q) hx hb hXs hbl (Nat.not_le.mpr hbl) hS d_LA_law_26 ?_
    refine lv_bipush (v := nI 6) hx hb d_LA_law_27 (by decide) ?_
    refine lv_isub hx hb d_LA_law_29 ?_
    refine lv_icmp_gt (tgt := 1043) hx hb d_LA_law_30 (by decide) (fun _ => ?_) (fun h30 => ?_)
    · refine lv_iconst (v := 1) hx hb d_LA_law_1043 (by decide) ?_
      refine W.widen (k := 601024) (n := 7293034) (by omega) (by omega) ?_
      exact lw_ret hx hb hr hlocks d_LA_law_1044
    · have hi : 6 * j + 6 ≤ L := len6 hL hj h30
      have cont : ∀ (C1 Cm1 : Nat → va_E) (f1 : Nat → Int64) (th1 : Nat) (H1 : Heap) (ls1 : Array Slot), INV ca b (b + 219) C1 Cm1 th1 → LWS D ca b C1 Cm1 f1 H1 → nOld s H1 → lv_has ls1 7 [(0, .ref bs), (1, .ref (b + 0)), (2, .ref (b + 219 + 0)), (3, .ref (b + 230)), (4, .int (nI (6 * j)))] → W p l e room_1 s m #[Value.ref bs] below meth c H1 [] (231 + 8 * j + 8) (2296 + 48 * j + 48) (lw_Z below #[Value.ref bs] s) (F0 m 1037 ls1 []) := by
        intro C1 Cm1 f1 th1 H1 ls1 hI hLS hS hl
        refine lv_iinc (v := nI (6 * j + 6)) (lv' := [(4, .int (nI (6 * j + 6))), (0, .ref bs), (1, .ref (b + 0)), (2, .ref (b + 219 + 0)), (3, .ref (b + 230))]) hx hb d_LA_law_1037 hl (k := 4) rfl (show nI (6 * j) + Int32.ofInt 6 = nI (6 * j + 6) from nI_add _ _) (by decide) rfl (fun ls hl => ?_)
        refine lv_goto (tgt := 23) hx hb d_LA_law_1040 (by decide) ?_
        refine xw_cs (k := 231 + 8 * (j + 1)) (n := 2296 + 48 * (j + 1)) (by omega) (by omega) ?_
        rw [show 6 * j + 6 = 6 * (j + 1) by omega] at hl
        exact ih (j + 1) C1 Cm1 f1 th1 H1 _ (by omega) (by omega) hI hLS hS (lv_sub hl [1, 2, 3, 4, 0] rfl)
      have hcs : 231 + 8 * j + 8 ≤ 601024 ∧ 2296 + 48 * j + 48 ≤ 7293034 := ⟨by omega, by omega⟩
      refine lv_aload_n hx hb d_LA_law_33 rfl (lv_at hl 0 rfl) ?_
      refine lv_iload hx hb d_LA_law_34 (lv_at hl 4 rfl) ?_
      refine xl_ld hx hb hXs hbl hS (show 6 * j < L by omega) hL d_LA_law_36 ?_
      refine lv_bipush (v := nI 15) hx hb d_LA_law_37 (by decide) ?_
      refine lv_iand hx hb d_LA_law_39 ?_
      obtain ⟨n, hn, he⟩ := and15 (xs (6 * j))
      refine ti (nI n) he ?_
      clear he
      rcases (show n = 0 ∨ n = 1 ∨ n = 2 ∨ n = 3 ∨ n = 4 ∨ n = 5 ∨ n = 6 ∨ n = 7 ∨ n = 8 ∨ n = 9 ∨ n = 10 ∨ n = 11 ∨ n = 12 ∨ n = 13 ∨ n = 14 ∨ n = 15 by omega) with rfl | rfl | rfl | rfl | rfl | rfl | rfl | rfl | rfl | rfl | rfl | rfl | rfl | rfl | rfl | rfl
      · exact lv_tableIn (off := 72) (tgt := 112) hx hb d_LA_law_40 (by decide) (by decide) (by decide) (by decide) (law_0 hC hi hI hLS hS hl hcs cont)
      · exact lv_tableIn (off := 116) (tgt := 156) hx hb d_LA_law_40 (by decide) (by decide) (by decide) (by decide) (law_1 hC hi hI hLS hS hl hcs cont)
      · exact lv_tableIn (off := 196) (tgt := 236) hx hb d_LA_law_40 (by decide) (by decide) (by decide) (by decide) (law_2 hC hi hI hLS hS hl hcs cont)
      · exact lv_tableIn (off := 256) (tgt := 296) hx hb d_LA_law_40 (by decide) (by decide) (by decide) (by decide) (law_3 hC hi hI hLS hS hl hcs cont)
      · exact lv_tableIn (off := 348) (tgt := 388) hx hb d_LA_law_40 (by decide) (by decide) (by decide) (by decide) (law_4 hC hi hI hLS hS hl hcs cont)
      · exact lv_tableIn (off := 404) (tgt := 444) hx hb d_LA_law_40 (by decide) (by decide) (by decide) (by decide) (law_5 hC hi hI hLS hS hl hcs cont)
      · exact lv_tableIn (off := 460) (tgt := 500) hx hb d_LA_law_40 (by decide) (by decide) (by decide) (by decide) (law_6 hC hi hI hLS hS hl hcs cont)
      · exact lv_tableIn (off := 540) (tgt := 580) hx hb d_LA_law_40 (by decide) (by decide) (by decide) (by decide) (law_7 hC hi hI hLS hS hl hcs cont)
      · exact lv_tableIn (off := 620) (tgt := 660) hx hb d_LA_law_40 (by decide) (by decide) (by decide) (by decide) (law_8 hC hi hI hLS hS hl hcs cont)
      · exact lv_tableIn (off := 724) (tgt := 764) hx hb d_LA_law_40 (by decide) (by decide) (by decide) (by decide) (law_9 hC hi hI hLS hS hl hcs cont)
      · exact lv_tableIn (off := 792) (tgt := 832) hx hb d_LA_law_40 (by decide) (by decide) (by decide) (by decide) (law_10 hC hi hI hLS hS hl hcs cont)
      · exact lv_tableIn (off := 872) (tgt := 912) hx hb d_LA_law_40 (by decide) (by decide) (by decide) (by decide) (law_11 hC hi hI hLS hS hl hcs cont)
      · exact lv_tableIn (off := 885) (tgt := 925) hx hb d_LA_law_40 (by decide) (by decide) (by decide) (by decide) (law_12 hC hi hI hLS hS hl hcs cont)
      · exact lv_tableIn (off := 941) (tgt := 981) hx hb d_LA_law_40 (by decide) (by decide) (by decide) (by decide) (law_13 hC hi hI hLS hS hl hcs cont)
      · refine lv_tableOut (tgt := 1037) hx hb d_LA_law_40 (by decide) (by decide) ?_
        exact W.widen (k := 231 + 8 * j + 8) (n := 2296 + 48 * j + 48) (by omega) (by omega) (cont C Cm f th H ls hI hLS hS hl)
      · refine lv_tableOut (tgt := 1037) hx hb d_LA_law_40 (by decide) (by decide) ?_
        exact W.widen (k := 231 + 8 * j + 8) (n := 2296 + 48 * j + 48) (by omega) (by omega) (cont C Cm f th H ls hI hLS hS hl)
end LL
theorem bRep_0 : bRep (fun _ => 0) 0 := ⟨by unfold bOk; intro k hk; exact (by decide : 0 < mB), fun _ => by decide⟩
set_option maxHeartbeats 4000000 in
set_option maxRecDepth 100000 in
/-- what holds of the tables and the statics at the law's start -/
theorem law_ex {s : State} {bs : Nat} (hts : ∀ w ∈ lw_tbl, w.before #[Value.ref bs] s = true) (hgv : (Jvm.Cond.and given_1 narrow_1).before #[Value.ref bs] s = true) : EX s := by
  have hs := flat_of_before _ hgv
  refine ⟨fun x hx => ?_, fun q hq => ?_, fun q hq => ?_, fun q hq => ?_, fun q hq => ?_⟩
  · simp only [exD, List.mem_cons, List.not_mem_nil, or_false] at hx
    rcases hx with rfl | rfl | rfl
    · exact ex_dec (State.WarmedH.refl _) (hts _ tn_303)
    · exact ex_dec (State.WarmedH.refl _) (hts _ tn_305)
    · exact ex_dec (State.WarmedH.refl _) (hts _ tn_307)
  · simp only [exC, List.mem_cons, List.not_mem_nil, or_false] at hq
    rcases hq with rfl | rfl | rfl
    · exact ex_cast (State.WarmedH.refl _) (hts _ tn_301)
    · exact ex_cast (State.WarmedH.refl _) (hts _ tn_386)
    · exact ex_cast (State.WarmedH.refl _) (hts _ tn_406)
  · simp only [exN, List.mem_cons, List.not_mem_nil, or_false] at hq
    rcases hq with rfl | rfl
    · exact ex_ncast (State.WarmedH.refl _) (hs (.not (.castable "java/lang/IllegalStateException" "java/util/NoSuchElementException")) (by decide +kernel))
    · exact ex_ncast (State.WarmedH.refl _) (hs (.not (.castable "java/lang/IllegalArgumentException" "java/util/NoSuchElementException")) (by decide +kernel))
  · simp only [exS, List.mem_cons, List.not_mem_nil, or_false] at hq
    rcases hq with rfl | rfl | rfl | rfl | rfl | rfl | rfl | rfl | rfl | rfl | rfl | rfl
    · exact ex_str (State.WarmedH.refl _) (hts _ tn_340)
    · exact ex_str (State.WarmedH.refl _) (hts _ tn_393)
    · exact ex_str (State.WarmedH.refl _) (hts _ tn_403)
    · exact ex_str (State.WarmedH.refl _) (hts _ tn_413)
    · exact ex_str (State.WarmedH.refl _) (hts _ tn_431)
    · exact ex_str (State.WarmedH.refl _) (hts _ tn_443)
    · exact ex_str (State.WarmedH.refl _) (hts _ tn_485)
    · exact ex_str (State.WarmedH.refl _) (hts _ tn_509)
    · exact ex_str (State.WarmedH.refl _) (hts _ tn_514)
    · exact ex_str (State.WarmedH.refl _) (hts _ tn_544)
    · exact ex_str (State.WarmedH.refl _) (hts _ tn_567)
    · exact ex_str (State.WarmedH.refl _) (hts _ tn_588)
  · simp only [exT, List.mem_cons, List.not_mem_nil, or_false] at hq
    rcases hq with rfl | rfl
    · exact ex_two (State.WarmedH.refl _) (fun _ _ h _ => h) (hts _ tn_326) (hs (.isRef (.static "java/lang/Throwable" "UNASSIGNED_STACK" "[Ljava/lang/StackTraceElement;")) (by decide +kernel))
    · exact ex_two (State.WarmedH.refl _) (fun _ _ h _ => h) (hts _ tn_328) (hs (.isRef (.static "java/lang/Throwable" "SUPPRESSED_SENTINEL" "Ljava/util/List;")) (by decide +kernel))
theorem law_nz {s : State} {bs : Nat} (hts : ∀ w ∈ lw_tbl, w.before #[Value.ref bs] s = true) : NZ s :=
  ⟨va_Nw.of rfl (hts _ tn_25), va_Nw.of rfl (hts _ tn_47), va_Nw.of rfl (hts _ tn_86), va_Nw.of rfl (hts _ tn_148), va_AO.of (hts _ tn_84), hts _ tn_30⟩
theorem law_tys {s : State} {bs : Nat} (hts : ∀ w ∈ lw_tbl, w.before #[Value.ref bs] s = true) : ∃ ca : Nat → ClassId, ∀ (k : Nat) (q : ClassId × FieldType), (tysA ca)[k]? = some q → ArrOfT s q.1 q.2 ∧ va_RA s q.1 q.2 := by
  obtain ⟨c0, k0, d0, a1, a2, a3⟩ := Cond.arrayClass_spec (hts _ (gw_in tb_44))
  obtain ⟨c1, k1, d1, b1, b2, b3⟩ := Cond.arrayClass_spec (hts _ (gw_in tb_97))
  obtain ⟨c2, k2, d2, e1, e2, e3⟩ := Cond.arrayClass_spec (hts _ (gw_in tb_76))
  obtain ⟨m3, c3, k3, f1, -, f2, f3, f4⟩ := Cond.arrayOver_spec (hts _ tn_84)
  obtain ⟨m4, c4, k4, g1, -, g2, g3, g4⟩ := arrayOverA_spec (hts _ tn_30)
  refine ⟨fun k => match k with | 0 => c0 | 1 => c1 | 2 => c2 | 3 => c3 | _ => c4, fun k q hq => ?_⟩
  match k, hq with
  | 0, hq => cases hq; exact ⟨fun n z => ⟨fun k h => (by cases h), k0, a2, d0, a3⟩, a1⟩
  | 1, hq => cases hq; exact ⟨fun n z => ⟨fun k h => (by cases h), k1, b2, d1, b3⟩, b1⟩
  | 2, hq => cases hq; exact ⟨fun n z => ⟨fun k h => (by cases h), k2, e2, d2, e3⟩, e1⟩
  | 3, hq => cases hq; exact ⟨fun n z => ⟨fun k h => (by cases h), k3, f2, m3, f3⟩, k3, m3, f2, f3, f1, f4⟩
  | 4, hq => cases hq; exact ⟨fun n z => ⟨fun k h => (by cases h), k4, g2, m4, g3⟩, g4⟩
  | k + 5, hq => simp [tysA] at hq
theorem MG_0 {ca : Nat → ClassId} {b : Nat} {C : Nat → va_E} (h0 : C 0 = .inr (5, [.int (nI 0), .int (nI 0), .ref (b + 1), .ref (b + 2), .ref (b + 3), .int (nI 0), .ref (b + 4), .ref (b + 5), .ref (b + 6), .ref (b + 7), .ref (b + 8), .ref (b + 9), .ref (b + 10), .int (nI 0), .int (nI 0), .int (nI 0), .int (nI 0), .int (nI 0)])) (h1 : C 1 = .inl (ca 0, 72, .inl (fun _ => nI 0))) (h2 : C 2 = .inl (ca 0, 6, .inl (fun _ => nI 0))) (h3 : C 3 = .inl (ca 0, 6, .inl (fun _ => nI 0))) (h4 : C 4 = .inl (ca 0, 6, .inl (fun _ => nI 0))) (h5 : C 5 = .inl (ca 0, 6, .inl (fun _ => nI 0))) (h6 : C 6 = .inl (ca 0, 6, .inl (fun _ => nI 0))) (h7 : C 7 = .inl (ca 0, 6, .inl (fun _ => nI 0))) (h8 : C 8 = .inl (ca 0, 1092, .inl (fun _ => nI 0))) (h9 : C 9 = .inl (ca 0, 25, .inl (fun _ => nI 0))) (h10 : C 10 = .inl (ca 0, 6, .inl (fun _ => nI 0))) : MG ca b C 0 0 0 (fun _ => 0) (fun _ => 0) (fun _ => 0) (fun _ => 0) (fun _ => 0) (fun _ => 0) (fun _ => 0) :=
  ⟨0, 0, 0, 0, 0, fun _ => 0, fun _ => 0, fun _ => 0, fun _ => 0, ⟨h0, h1, h2, h3, h4, h5, h6, h7, h8, h9, h10⟩, fun _ _ => bRep_0⟩
theorem MH_0 : MH (fun _ => 0) (fun _ => 0) (fun _ => 0) (fun _ => 0) (fun _ => 0) (fun _ => 0) (fun _ => 0) 0 0 :=
  ⟨⟨by decide, fun k hk => absurd hk (Nat.not_lt_zero _)⟩, ⟨by decide, fun k hk => absurd hk (Nat.not_lt_zero _)⟩, fun k hk => absurd hk (Nat.not_lt_zero _), fun r _ hr => absurd hr (Nat.not_lt_zero _), fun r _ hr => absurd hr (Nat.not_lt_zero _)⟩
set_option maxHeartbeats 4000000 in
set_option maxRecDepth 100000 in
theorem whole_start {p : Program} {e : Env} {s : State} {m : MethodId} {below : List Frame} {meth : Method} {c : Code} (l : Launch) (hst : l.stackTraces = false) {b L : Nat} {xs : Nat → Int32} (hL : L ≤ 3072) (C0 : lw_At p s m meth c b L xs) : W p l e room_1 s m #[Value.ref b] below meth c s.heap [] 0 0 (lw_Z below #[Value.ref b] s) (entryFrame m ([Value.ref b] : List Value).toArray 7) := by
  obtain ⟨hx, hb, hr, hml, hown, hts0, hX, hbl, hlocks, hgv⟩ := C0
  have hE : EX s := law_ex hts0 hgv
  have hZ : NZ s := law_nz hts0
  have hts : ∀ w ∈ Cond.initialized "OrderPassingLaw" :: gw, w.before #[Value.ref b] s = true := fun w hw => hts0 w (by
    rcases List.mem_cons.mp hw with h | h
    · rw [h]; exact gw_in tb_0
    · exact gw_in h)
  obtain ⟨c0, iS0, hKn0⟩ := u_known (C := R_OP) (T := F_OP) (N := 5) (n := 5) hts (fun w h => mw (uw_OP w h)) (hts _ (mw tb_16))
  obtain ⟨c1, iS1, hKn1⟩ := u_known (C := R_DA) (T := F_DA) (N := 4) (n := 4) hts (fun w h => mw (uw_DA w h)) (hts _ (mw tb_24))
  obtain ⟨c2, iS2, hKn2⟩ := u_known (C := R_GR) (T := F_GR) (N := 2) (n := 2) hts (fun w h => mw (uw_GR w h)) (hts _ (mw tb_85))
  obtain ⟨c3, iS3, hKn3⟩ := u_known (C := R_PA) (T := F_PA) (N := 15) (n := 15) hts (fun w h => mw (uw_PA w h)) (hts _ (mw tb_78))
  obtain ⟨c4, iS4, hKn4⟩ := u_known (C := R_TE) (T := F_TE) (N := 8) (n := 8) hts (fun w h => mw (uw_TE w h)) (hts _ (mw tb_46))
  obtain ⟨c5, iS5, hKn5⟩ := u_known (C := R_MO) (T := F_MO) (N := 18) (n := 18) hts (fun w h => mw (uw_MO w h)) (hts _ (mw tb_590))
  obtain ⟨dC, dI, hKc⟩ : ∃ (dC : Nat → ClassId) (dI : Nat → Nat → Nat), ∀ (k : Nat) (q : vw_C), classes[k]? = some q → u_Kn s q.1 q.2.1 q.2.2 (dC k) (dI k) := by
    refine ⟨fun k => match k with | 0 => c0 | 1 => c1 | 2 => c2 | 3 => c3 | 4 => c4 | _ => c5, fun k => match k with | 0 => iS0 | 1 => iS1 | 2 => iS2 | 3 => iS3 | 4 => iS4 | _ => iS5, ?_⟩
    intro k q hq
    match k, hq with
    | 0, hq => cases hq; exact hKn0
    | 1, hq => cases hq; exact hKn1
    | 2, hq => cases hq; exact hKn2
    | 3, hq => cases hq; exact hKn3
    | 4, hq => cases hq; exact hKn4
    | 5, hq => cases hq; exact hKn5
    | k + 6, hq => simp [classes] at hq
  obtain ⟨ca, hca⟩ := law_tys hts0
  have hK : va_K (dC, dI) classes (tysA ca) s := ⟨hKc, hca⟩
  have hS : va_S (fun q => s.heap.size ≤ q) s.heap s.heap [] := va_S.rf
  have hl := lv_entry ([.ref b]) (n := 7) (Nat.le_of_ble_eq_true rfl)
  rw [lg_entry_eq]
  generalize (lg_sl ([.ref b]) ++ List.replicate (7 - (lg_sl ([.ref b])).length) Slot.unset).toArray = ls at hl ⊢
  have hl : lv_has ls 7 [(0, .ref b)] := hl
  refine xw_new (b := s.heap.size) (n := 0) (C := fun _ => .inr (0, [])) (ci := 0) (fs := [.null, .null, .null, .null, .null]) hx hb hts (fun w h => mw (uw_OP w h)) t_OP t_OP_ok hown (hts _ (mw tb_15)) (hts _ (mw tb_16)) (hts _ (mw tb_1)) hK (wl_P.mpr (fun k hk => absurd hk (Nat.not_lt_zero _))) hS rfl rfl (by decide) (by decide) (by decide) d_LA_law_0 (fun H hP hsz hS => ?_)
  refine lv_dup hx hb d_LA_law_3 rfl ?_
  refine xc_I (b := s.heap.size) (n := 1) (n1 := 219) (g0 := 0) hx hb hml hown hts (c_OP_init l (dC, dI) ca s.heap.size _ (va_up_self _ _ _)) km_OP_init tb_17 tb_18 tb_1 rfl (by decide +kernel) rfl rfl ⟨by decide, by decide⟩ hK hZ hP hsz hl (Nat.le_of_ble_eq_true rfl) d_LA_law_4 ⟨by decide, by decide⟩ hS (fun Cx H locs hXM hPx hsz hS => ?_)
  refine va_forget (fun q hq => hS.2.2 q hq) ?_
  have hS : nOld s H := ⟨hS.1, hS.2.1, fun _ h => by cases h⟩
  refine lv_astore_n (lv' := [(1, .ref (s.heap.size + 0)), (0, .ref b)]) hx hb d_LA_law_7 rfl hl (by decide) rfl (fun ls hl => ?_)
  have hSm : va_S (fun q => s.heap.size + 219 ≤ q) H H [] := va_S.rf
  refine xw_new (b := s.heap.size + 219) (n := 0) (C := fun _ => .inr (0, [])) (ci := 5) (fs := [.int (nI 0), .int (nI 0), .null, .null, .null, .int (nI 0), .null, .null, .null, .null, .null, .null, .null, .int (nI 0), .int (nI 0), .int (nI 0), .int (nI 0), .int (nI 0)]) hx hb hts (fun w h => mw (uw_MO w h)) t_MO t_MO_ok hown (hts _ (mw tb_589)) (hts _ (mw tb_590)) (hts _ (mw tb_7)) hK (wl_P.mpr (fun k hk => absurd hk (Nat.not_lt_zero _))) hSm hsz rfl (by decide) (by decide) (by decide) d_LA_law_8 (fun H1 hP hsz hSm => ?_)
  refine lv_dup hx hb d_LA_law_11 rfl ?_
  refine xc_I (b := s.heap.size + 219) (n := 1) (n1 := 11) (g0 := 0) hx hb hml hown hts (c_MO_init l (dC, dI) ca (s.heap.size + 219) _ 0 (va_up_self _ _ _)) km_MO_init tb_591 tb_592 tb_7 rfl (by decide +kernel) rfl rfl ⟨by decide, by decide⟩ hK hZ hP hsz hl (Nat.le_of_ble_eq_true rfl) d_LA_law_12 ⟨by decide, by decide⟩ hSm (fun Cm H1 locs hpm hPm hsz hSm => ?_)
  refine va_forget (fun q hq => Nat.le_trans (Nat.le_add_right _ _) (hSm.2.2 q hq)) ?_
  have hold : ∀ q, q < s.heap.size + 219 → H1[q]? = H[q]? := fun q hq => by
    by_cases q2 : q < H.size
    · exact hSm.2.1 q q2 (Nat.not_le.mpr hq)
    · exfalso
      have := (wl_P.mp hPx 218 (by decide)).lt
      have h3 : s.heap.size + 218 < H.size := this
      omega
  have hPx : va_P (dC, dI) classes (wl s.heap.size 219 Cx) H1 := wl_P.mpr (fun k hk => (wl_P.mp hPx k hk).kept (hold _ (by show s.heap.size + k < _; omega)))
  have hS : nOld s H1 := ⟨Nat.le_trans hS.1 hSm.1, fun q h1 h2 => (hold q (by omega)).trans (hS.2.1 q h1 h2), fun _ h => by cases h⟩
  refine lv_astore_n (lv' := [(2, .ref (s.heap.size + 219 + 0)), (1, .ref (s.heap.size + 0)), (0, .ref b)]) hx hb d_LA_law_15 rfl hl (by decide) rfl (fun ls hl => ?_)
  refine lv_iconst (v := nI 1) hx hb d_LA_law_16 (by decide) ?_
  refine va_newaK (atype := .long) hx hb (hts _ (mw tb_97)) rfl d_LA_law_17 rfl (by decide) (N := 1) (by decide) (by decide) (by decide) (by decide) (h := s.heap.size + 230) (by rw [hsz]) fun H2 cA e1 z1 o1 hAr hNm => ?_
  have hc1 : ca 1 = cA := Option.some.inj ((hca 1 (ca 1, .long) rfl).2.symm.trans hNm)
  have hLS : LWS (dC, dI) ca s.heap.size Cx Cm (fun _ => 0) H2 := ⟨wl_P.mpr (fun k hk => (wl_P.mp hPx k hk).kept (o1 _ (by show s.heap.size + k < _; omega))), wl_P.mpr (fun k hk => (wl_P.mp hPm k hk).kept (o1 _ (by show s.heap.size + 219 + k < _; omega))), by rw [e1, ← hc1]; rfl⟩
  have hS : nOld s H2 := ⟨Nat.le_trans hS.1 (by omega), fun q h1 h2 => (o1 q (by omega)).trans (hS.2.1 q h1 h2), fun _ h => by cases h⟩
  refine lv_astore_n (lv' := [(3, .ref (s.heap.size + 230)), (2, .ref (s.heap.size + 219 + 0)), (1, .ref (s.heap.size + 0)), (0, .ref b)]) hx hb d_LA_law_19 rfl hl (by decide) rfl (fun ls hl => ?_)
  refine lv_iconst (v := nI 0) hx hb d_LA_law_20 (by decide) ?_
  refine lv_istore (lv' := [(4, .int (nI (6 * 0))), (3, .ref (s.heap.size + 230)), (2, .ref (s.heap.size + 219 + 0)), (1, .ref (s.heap.size + 0)), (0, .ref b)]) hx hb d_LA_law_21 hl (by decide) rfl (fun ls hl => ?_)
  refine xw_cs (k := 231 + 8 * 0) (n := 2296 + 48 * 0) (by decide) (by decide) ?_
  obtain ⟨-, h0, h1, h2, h3, h4, h5, h6, h7, h8, h9, h10⟩ := hpm
  exact law_loop ⟨hx, hb, hml, hown, hts, hst, hK, hE, hX, hbl, rfl, hL⟩ hr hlocks (L + 1) 0 Cx Cm _ 0 H2 _ (by omega) (by omega) ⟨0, 0, _, _, _, _, _, _, _, hXM, MG_0 h0 h1 h2 h3 h4 h5 h6 h7 h8 h9 h10, MH_0, fun _ _ => rfl, fun _ _ _ _ => rfl⟩ hLS hS (lv_sub hl [4, 3, 2, 1, 0] rfl)
