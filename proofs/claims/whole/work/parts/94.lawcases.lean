/-! The law's cases -/
theorem lgs (x : Int64) : lg_cmp x x = 0 := by simp [lg_cmp]
/-- what the law stands on -/
abbrev LX (p : Program) (l : Launch) (s : State) (m : MethodId) (c : Code) (bs L : Nat) (xs : Nat → Int32) (D : va_G) (ca : Nat → ClassId) (b : Nat) : Prop := p.tables.exec = Jvm.exec ∧ c.code = code ∧ c.maxLocals = 7 ∧ s.vm.findClass "OrderPassingLaw" = some m.cls ∧ (∀ w ∈ Cond.initialized "OrderPassingLaw" :: gw, w.before #[Value.ref bs] s = true) ∧ l.stackTraces = false ∧ va_K D classes (tysA ca) s ∧ EX s ∧ va_X bs L xs s s.heap ∧ bs < s.heap.size ∧ s.heap.size = b ∧ L ≤ 3072
section LC
variable {p : Program} {l : Launch} {e : Env} {s : State} {m : MethodId} {below : List Frame} {meth : Method} {c : Code} {H : Heap} {cells slots : Nat} {Q : State → Prop} {ls : Array Slot} {D : va_G} {ca : Nat → ClassId} {b bs L i th : Nat} {xs : Nat → Int32} {C Cm : Nat → va_E} {f : Nat → Int64}
set_option maxHeartbeats 4000000 in
set_option maxRecDepth 100000 in
/-- the law's case date -/
theorem law_0 (hC : LX p l s m c bs L xs D ca b) (hi : i + 6 ≤ L) (hI : INV ca b (b + 219) C Cm th) (hLS : LWS D ca b C Cm f H) (hS : nOld s H) (hl : lv_has ls 7 [(0, .ref bs), (1, .ref (b + 0)), (2, .ref (b + 219 + 0)), (3, .ref (b + 230)), (4, .int (nI i))]) (hcs : cells + 8 ≤ 601024 ∧ slots + 48 ≤ 7293034)
    (cont : ∀ (C1 Cm1 : Nat → va_E) (f1 : Nat → Int64) (th1 : Nat) (H1 : Heap) (ls1 : Array Slot), INV ca b (b + 219) C1 Cm1 th1 → LWS D ca b C1 Cm1 f1 H1 → nOld s H1 → lv_has ls1 7 [(0, .ref bs), (1, .ref (b + 0)), (2, .ref (b + 219 + 0)), (3, .ref (b + 230)), (4, .int (nI i))] → W p l e room_1 s m #[Value.ref bs] below meth c H1 [] (cells + 8) (slots + 48) Q (F0 m 1037 ls1 [])) : W p l e room_1 s m #[Value.ref bs] below meth c H [] cells slots Q (F0 m 112 ls []) := by
  obtain ⟨hx, hb, hml, hown, hts, hst, hK, hE, hXs, hbl, hbb, hL⟩ := hC
  obtain ⟨nd, nt, mwt, mab, mbe, on1, ot2, lea, mos, hXM, hMG, hMH, hZR⟩ := hI
  obtain ⟨fs9, ls9, cn9, lf9, mb9, yrs, bv, hMV⟩ := id hMG
  refine lv_aload_n hx hb d_LA_law_112 rfl (lv_at hl 1 rfl) ?_
  refine lv_aload_n hx hb d_LA_law_113 rfl (lv_at hl 3 rfl) ?_
  refine xl_help (n := 2) (As := [.ref (b + 0), .ref (b + 230)]) (rest := []) (st0 := _) hx hb hml hown hts (c_LA_date l hst D ca b (b + 230) _ _  hXM hMH (fun z => absurd z.2 (by omega))) km_LA_date tb_291 tb_292 rfl (by decide +kernel) rfl rfl ⟨by decide, by decide⟩ hK hE hLS hS hbb rfl hl rfl (Nat.le_of_ble_eq_true rfl) d_LA_law_114 hcs (fun k C1 f1 H hx9 hLS hS => ?_)
  have hk3 : k < 3 := by rcases hx9 with ⟨h, -⟩ | ⟨h, -⟩ <;> omega
  refine lv_istore (lv' := [(5, .int (nI k)), (0, .ref bs), (1, .ref (b + 0)), (2, .ref (b + 219 + 0)), (3, .ref (b + 230)), (4, .int (nI i))]) hx hb d_LA_law_117 hl (by decide) rfl (fun ls hl => ?_)
  refine lv_aload_n hx hb d_LA_law_119 rfl (lv_at hl 3 rfl) ?_
  refine xl_mod (n := 0) (As := []) (rest := []) (st0 := _) hx hb hml hown hts (c_MO_date l D ca (b + 219) _  hMV hMH.D.1) km_MO_date tb_654 tb_655 tb_656 (by decide +kernel) rfl rfl ⟨by decide, by decide⟩ hK hLS hS hbb hMG.at0.choose_spec rfl hl rfl (Nat.le_of_ble_eq_true rfl) d_LA_law_120 hcs (fun r Cm1 H hm9 hLS hS => ?_)
  obtain ⟨hI, w, hre, hw⟩ := ag_date (bm := b + 219) hXM hMH hZR hx9 hm9
  subst hre
  refine lv_istore (lv' := [(6, .int w), (5, .int (nI k)), (0, .ref bs), (1, .ref (b + 0)), (2, .ref (b + 219 + 0)), (3, .ref (b + 230)), (4, .int (nI i))]) hx hb d_LA_law_123 hl (by decide) rfl (fun ls hl => ?_)
  refine lv_aload_n hx hb d_LA_law_125 rfl (lv_at hl 4 rfl) ?_
  obtain ⟨nd2, nt2, mwt2, mab2, mbe2, on2, ot3, lea2, mos2, hXM2, hMG2, hMH2, hZR2⟩ := hI
  refine xl_mod (n := 0) (As := []) (rest := []) (st0 := _) hx hb hml hown hts (c_MO_thrownG l D ca (b + 219) _ hMG2) km_MO_thrown tb_650 tb_651 tb_652 (by decide +kernel) rfl rfl ⟨by decide, by decide⟩ hK hLS hS hbb hMG2.at0.choose_spec rfl hl rfl (Nat.le_of_ble_eq_true rfl) d_LA_law_126 hcs (fun v Cm2 H hp hLS hS => ?_)
  obtain ⟨rfl, hMG3⟩ := hp
  refine lv_iload hx hb d_LA_law_129 (lv_at hl 1 rfl) ?_
  refine lv_icmp_eq (tgt := 136) hx hb d_LA_law_131 (by decide) (fun _ => ?_) (fun h => absurd rfl h)
  refine lv_iload hx hb d_LA_law_136 (lv_at hl 1 rfl) ?_
  refine xz_ne (tgt := 153) hx hb d_LA_law_138 (by decide) (by omega) (fun hk0 => ?_) (fun hk0 => ?_)
  · refine lv_goto (tgt := 1037) hx hb d_LA_law_153 (by decide) ?_
    exact cont _ _ _ _ _ _ ⟨nd2, nt2, mwt2, mab2, mbe2, on2, ot3, lea2, mos2, hXM2, hMG3, hMH2, hZR2⟩ hLS hS (lv_sub hl [2, 3, 4, 5, 6] rfl)
  · skip
    refine lv_aload_n hx hb d_LA_law_141 rfl (lv_at hl 5 rfl) ?_
    refine lv_iconst (v := nI 0) hx hb d_LA_law_142 (by decide) ?_
    refine xl_out hx hb hK hLS d_LA_law_143 ?_
    rw [hw hk0]
    refine lv_iload hx hb d_LA_law_144 (lv_at hl 0 rfl) ?_
    refine lv_i2l (v := w.toInt64) hx hb d_LA_law_146 rfl ?_
    refine W.lcmp hx hb d_LA_law_147 ?_
    refine lv_if_eq (tgt := 153) hx hb d_LA_law_148 (by decide) (fun _ => ?_) (fun h => absurd (lgs _) h)
    refine lv_goto (tgt := 1037) hx hb d_LA_law_153 (by decide) ?_
    exact cont _ _ _ _ _ _ ⟨nd2, nt2, mwt2, mab2, mbe2, on2, ot3, lea2, mos2, hXM2, hMG3, hMH2, hZR2⟩ hLS hS (lv_sub hl [2, 3, 4, 5, 6] rfl)
set_option maxHeartbeats 4000000 in
set_option maxRecDepth 100000 in
/-- the law's case weight -/
theorem law_1 (hC : LX p l s m c bs L xs D ca b) (hi : i + 6 ≤ L) (hI : INV ca b (b + 219) C Cm th) (hLS : LWS D ca b C Cm f H) (hS : nOld s H) (hl : lv_has ls 7 [(0, .ref bs), (1, .ref (b + 0)), (2, .ref (b + 219 + 0)), (3, .ref (b + 230)), (4, .int (nI i))]) (hcs : cells + 8 ≤ 601024 ∧ slots + 48 ≤ 7293034)
    (cont : ∀ (C1 Cm1 : Nat → va_E) (f1 : Nat → Int64) (th1 : Nat) (H1 : Heap) (ls1 : Array Slot), INV ca b (b + 219) C1 Cm1 th1 → LWS D ca b C1 Cm1 f1 H1 → nOld s H1 → lv_has ls1 7 [(0, .ref bs), (1, .ref (b + 0)), (2, .ref (b + 219 + 0)), (3, .ref (b + 230)), (4, .int (nI i))] → W p l e room_1 s m #[Value.ref bs] below meth c H1 [] (cells + 8) (slots + 48) Q (F0 m 1037 ls1 [])) : W p l e room_1 s m #[Value.ref bs] below meth c H [] cells slots Q (F0 m 156 ls []) := by
  obtain ⟨hx, hb, hml, hown, hts, hst, hK, hE, hXs, hbl, hbb, hL⟩ := hC
  obtain ⟨nd, nt, mwt, mab, mbe, on1, ot2, lea, mos, hXM, hMG, hMH, hZR⟩ := hI
  obtain ⟨fs9, ls9, cn9, lf9, mb9, yrs, bv, hMV⟩ := id hMG
  refine lv_aload_n hx hb d_LA_law_156 rfl (lv_at hl 1 rfl) ?_
  refine lv_aload_n hx hb d_LA_law_157 rfl (lv_at hl 0 rfl) ?_
  refine lv_iload hx hb d_LA_law_158 (lv_at hl 4 rfl) ?_
  refine lv_iconst (v := nI 1) hx hb d_LA_law_160 (by decide) ?_
  refine lv_iadd hx hb d_LA_law_161 ?_
  refine ti (nI (i + 1)) (nI_add _ _) ?_
  refine xl_ld hx hb hXs hbl hS (show i + 1 < L by omega) hL d_LA_law_162 ?_
  refine lv_aload_n hx hb d_LA_law_163 rfl (lv_at hl 0 rfl) ?_
  refine lv_iload hx hb d_LA_law_164 (lv_at hl 4 rfl) ?_
  refine lv_iconst (v := nI 2) hx hb d_LA_law_166 (by decide) ?_
  refine lv_iadd hx hb d_LA_law_167 ?_
  refine ti (nI (i + 2)) (nI_add _ _) ?_
  refine xl_ld hx hb hXs hbl hS (show i + 2 < L by omega) hL d_LA_law_168 ?_
  refine lv_aload_n hx hb d_LA_law_169 rfl (lv_at hl 0 rfl) ?_
  refine lv_iload hx hb d_LA_law_170 (lv_at hl 4 rfl) ?_
  refine lv_iconst (v := nI 3) hx hb d_LA_law_172 (by decide) ?_
  refine lv_iadd hx hb d_LA_law_173 ?_
  refine ti (nI (i + 3)) (nI_add _ _) ?_
  refine xl_ld hx hb hXs hbl hS (show i + 3 < L by omega) hL d_LA_law_174 ?_
  refine lv_aload_n hx hb d_LA_law_175 rfl (lv_at hl 3 rfl) ?_
  refine xl_help (n := 5) (As := [.ref (b + 0), .int (xs (i + 1)), .int (xs (i + 2)), .int (xs (i + 3)), .ref (b + 230)]) (rest := []) (st0 := _) hx hb hml hown hts (c_LA_weight l hst D ca b (b + 230) _ _ (xs (i + 1)) (xs (i + 2)) (xs (i + 3)) hXM hMH (fun z => absurd z.2 (by omega))) km_LA_weight tb_371 tb_372 rfl (by decide +kernel) rfl rfl ⟨by decide, by decide⟩ hK hE hLS hS hbb rfl hl rfl (Nat.le_of_ble_eq_true rfl) d_LA_law_176 hcs (fun k C1 f1 H hx9 hLS hS => ?_)
  have hk3 : k < 3 := by rcases hx9 with ⟨h, -⟩ | ⟨h, -⟩ | ⟨h, -⟩ <;> omega
  refine lv_istore (lv' := [(5, .int (nI k)), (0, .ref bs), (1, .ref (b + 0)), (2, .ref (b + 219 + 0)), (3, .ref (b + 230)), (4, .int (nI i))]) hx hb d_LA_law_179 hl (by decide) rfl (fun ls hl => ?_)
  refine lv_aload_n hx hb d_LA_law_181 rfl (lv_at hl 3 rfl) ?_
  refine lv_aload_n hx hb d_LA_law_182 rfl (lv_at hl 1 rfl) ?_
  refine lv_iload hx hb d_LA_law_183 (lv_at hl 5 rfl) ?_
  refine lv_iconst (v := nI 1) hx hb d_LA_law_185 (by decide) ?_
  refine lv_iadd hx hb d_LA_law_186 ?_
  refine ti (nI (i + 1)) (nI_add _ _) ?_
  refine xl_ld hx hb hXs hbl hS (show i + 1 < L by omega) hL d_LA_law_187 ?_
  refine lv_aload_n hx hb d_LA_law_188 rfl (lv_at hl 1 rfl) ?_
  refine lv_iload hx hb d_LA_law_189 (lv_at hl 5 rfl) ?_
  refine lv_iconst (v := nI 2) hx hb d_LA_law_191 (by decide) ?_
  refine lv_iadd hx hb d_LA_law_192 ?_
  refine ti (nI (i + 2)) (nI_add _ _) ?_
  refine xl_ld hx hb hXs hbl hS (show i + 2 < L by omega) hL d_LA_law_193 ?_
  refine lv_aload_n hx hb d_LA_law_194 rfl (lv_at hl 1 rfl) ?_
  refine lv_iload hx hb d_LA_law_195 (lv_at hl 5 rfl) ?_
  refine lv_iconst (v := nI 3) hx hb d_LA_law_197 (by decide) ?_
  refine lv_iadd hx hb d_LA_law_198 ?_
  refine ti (nI (i + 3)) (nI_add _ _) ?_
  refine xl_ld hx hb hXs hbl hS (show i + 3 < L by omega) hL d_LA_law_199 ?_
  refine xl_mod (n := 3) (As := [.int (xs (i + 1)), .int (xs (i + 2)), .int (xs (i + 3))]) (rest := []) (st0 := _) hx hb hml hown hts (c_MO_weight l D ca (b + 219) _ (xs (i + 1)) (xs (i + 2)) (xs (i + 3)) hMV hMH.D.1) km_MO_weight tb_662 tb_663 tb_664 (by decide +kernel) rfl rfl ⟨by decide, by decide⟩ hK hLS hS hbb hMG.at0.choose_spec rfl hl rfl (Nat.le_of_ble_eq_true rfl) d_LA_law_200 hcs (fun r Cm1 H hm9 hLS hS => ?_)
  obtain ⟨hI, w, hre, hw⟩ := ag_weight (bm := b + 219) hXM hMH hZR hx9 hm9
  subst hre
  refine lv_istore (lv' := [(6, .int w), (5, .int (nI k)), (0, .ref bs), (1, .ref (b + 0)), (2, .ref (b + 219 + 0)), (3, .ref (b + 230)), (4, .int (nI i))]) hx hb d_LA_law_203 hl (by decide) rfl (fun ls hl => ?_)
  refine lv_aload_n hx hb d_LA_law_205 rfl (lv_at hl 4 rfl) ?_
  obtain ⟨nd2, nt2, mwt2, mab2, mbe2, on2, ot3, lea2, mos2, hXM2, hMG2, hMH2, hZR2⟩ := hI
  refine xl_mod (n := 0) (As := []) (rest := []) (st0 := _) hx hb hml hown hts (c_MO_thrownG l D ca (b + 219) _ hMG2) km_MO_thrown tb_650 tb_651 tb_652 (by decide +kernel) rfl rfl ⟨by decide, by decide⟩ hK hLS hS hbb hMG2.at0.choose_spec rfl hl rfl (Nat.le_of_ble_eq_true rfl) d_LA_law_206 hcs (fun v Cm2 H hp hLS hS => ?_)
  obtain ⟨rfl, hMG3⟩ := hp
  refine lv_iload hx hb d_LA_law_209 (lv_at hl 1 rfl) ?_
  refine lv_icmp_eq (tgt := 216) hx hb d_LA_law_211 (by decide) (fun _ => ?_) (fun h => absurd rfl h)
  refine lv_iload hx hb d_LA_law_216 (lv_at hl 1 rfl) ?_
  refine xz_ne (tgt := 233) hx hb d_LA_law_218 (by decide) (by omega) (fun hk0 => ?_) (fun hk0 => ?_)
  · refine lv_goto (tgt := 1037) hx hb d_LA_law_233 (by decide) ?_
    exact cont _ _ _ _ _ _ ⟨nd2, nt2, mwt2, mab2, mbe2, on2, ot3, lea2, mos2, hXM2, hMG3, hMH2, hZR2⟩ hLS hS (lv_sub hl [2, 3, 4, 5, 6] rfl)
  · skip
    refine lv_aload_n hx hb d_LA_law_221 rfl (lv_at hl 5 rfl) ?_
    refine lv_iconst (v := nI 0) hx hb d_LA_law_222 (by decide) ?_
    refine xl_out hx hb hK hLS d_LA_law_223 ?_
    rw [hw hk0]
    refine lv_iload hx hb d_LA_law_224 (lv_at hl 0 rfl) ?_
    refine lv_i2l (v := w.toInt64) hx hb d_LA_law_226 rfl ?_
    refine W.lcmp hx hb d_LA_law_227 ?_
    refine lv_if_eq (tgt := 233) hx hb d_LA_law_228 (by decide) (fun _ => ?_) (fun h => absurd (lgs _) h)
    refine lv_goto (tgt := 1037) hx hb d_LA_law_233 (by decide) ?_
    exact cont _ _ _ _ _ _ ⟨nd2, nt2, mwt2, mab2, mbe2, on2, ot3, lea2, mos2, hXM2, hMG3, hMH2, hZR2⟩ hLS hS (lv_sub hl [2, 3, 4, 5, 6] rfl)
set_option maxHeartbeats 4000000 in
set_option maxRecDepth 100000 in
/-- the law's case outlier -/
theorem law_2 (hC : LX p l s m c bs L xs D ca b) (hi : i + 6 ≤ L) (hI : INV ca b (b + 219) C Cm th) (hLS : LWS D ca b C Cm f H) (hS : nOld s H) (hl : lv_has ls 7 [(0, .ref bs), (1, .ref (b + 0)), (2, .ref (b + 219 + 0)), (3, .ref (b + 230)), (4, .int (nI i))]) (hcs : cells + 8 ≤ 601024 ∧ slots + 48 ≤ 7293034)
    (cont : ∀ (C1 Cm1 : Nat → va_E) (f1 : Nat → Int64) (th1 : Nat) (H1 : Heap) (ls1 : Array Slot), INV ca b (b + 219) C1 Cm1 th1 → LWS D ca b C1 Cm1 f1 H1 → nOld s H1 → lv_has ls1 7 [(0, .ref bs), (1, .ref (b + 0)), (2, .ref (b + 219 + 0)), (3, .ref (b + 230)), (4, .int (nI i))] → W p l e room_1 s m #[Value.ref bs] below meth c H1 [] (cells + 8) (slots + 48) Q (F0 m 1037 ls1 [])) : W p l e room_1 s m #[Value.ref bs] below meth c H [] cells slots Q (F0 m 236 ls []) := by
  obtain ⟨hx, hb, hml, hown, hts, hst, hK, hE, hXs, hbl, hbb, hL⟩ := hC
  obtain ⟨nd, nt, mwt, mab, mbe, on1, ot2, lea, mos, hXM, hMG, hMH, hZR⟩ := hI
  obtain ⟨fs9, ls9, cn9, lf9, mb9, yrs, bv, hMV⟩ := id hMG
  refine lv_aload_n hx hb d_LA_law_236 rfl (lv_at hl 1 rfl) ?_
  refine lv_aload_n hx hb d_LA_law_237 rfl (lv_at hl 0 rfl) ?_
  refine lv_iload hx hb d_LA_law_238 (lv_at hl 4 rfl) ?_
  refine lv_iconst (v := nI 1) hx hb d_LA_law_240 (by decide) ?_
  refine lv_iadd hx hb d_LA_law_241 ?_
  refine ti (nI (i + 1)) (nI_add _ _) ?_
  refine xl_ld hx hb hXs hbl hS (show i + 1 < L by omega) hL d_LA_law_242 ?_
  refine lv_aload_n hx hb d_LA_law_243 rfl (lv_at hl 0 rfl) ?_
  refine lv_iload hx hb d_LA_law_244 (lv_at hl 4 rfl) ?_
  refine lv_iconst (v := nI 2) hx hb d_LA_law_246 (by decide) ?_
  refine lv_iadd hx hb d_LA_law_247 ?_
  refine ti (nI (i + 2)) (nI_add _ _) ?_
  refine xl_ld hx hb hXs hbl hS (show i + 2 < L by omega) hL d_LA_law_248 ?_
  refine lv_aload_n hx hb d_LA_law_249 rfl (lv_at hl 0 rfl) ?_
  refine lv_iload hx hb d_LA_law_250 (lv_at hl 4 rfl) ?_
  refine lv_iconst (v := nI 3) hx hb d_LA_law_252 (by decide) ?_
  refine lv_iadd hx hb d_LA_law_253 ?_
  refine ti (nI (i + 3)) (nI_add _ _) ?_
  refine xl_ld hx hb hXs hbl hS (show i + 3 < L by omega) hL d_LA_law_254 ?_
  refine xl_help (n := 4) (As := [.ref (b + 0), .int (xs (i + 1)), .int (xs (i + 2)), .int (xs (i + 3))]) (rest := []) (st0 := _) hx hb hml hown hts (c_LA_outlier l hst D ca b (b + 230) _ _ (xs (i + 1)) (xs (i + 2)) (xs (i + 3)) hXM hMH (fun z => absurd z.2 (by omega))) km_LA_outlier tb_424 tb_425 rfl (by decide +kernel) rfl rfl ⟨by decide, by decide⟩ hK hE hLS hS hbb rfl hl rfl (Nat.le_of_ble_eq_true rfl) d_LA_law_255 hcs (fun k C1 f1 H hx9 hLS hS => ?_)
  have hk3 : k < 3 := by rcases hx9 with ⟨h, -⟩ | ⟨h, -⟩ | ⟨h, -⟩ <;> omega
  refine lv_istore (lv' := [(5, .int (nI k)), (0, .ref bs), (1, .ref (b + 0)), (2, .ref (b + 219 + 0)), (3, .ref (b + 230)), (4, .int (nI i))]) hx hb d_LA_law_258 hl (by decide) rfl (fun ls hl => ?_)
  refine lv_aload_n hx hb d_LA_law_260 rfl (lv_at hl 3 rfl) ?_
  refine lv_aload_n hx hb d_LA_law_261 rfl (lv_at hl 1 rfl) ?_
  refine lv_iload hx hb d_LA_law_262 (lv_at hl 5 rfl) ?_
  refine lv_iconst (v := nI 1) hx hb d_LA_law_264 (by decide) ?_
  refine lv_iadd hx hb d_LA_law_265 ?_
  refine ti (nI (i + 1)) (nI_add _ _) ?_
  refine xl_ld hx hb hXs hbl hS (show i + 1 < L by omega) hL d_LA_law_266 ?_
  refine lv_aload_n hx hb d_LA_law_267 rfl (lv_at hl 1 rfl) ?_
  refine lv_iload hx hb d_LA_law_268 (lv_at hl 5 rfl) ?_
  refine lv_iconst (v := nI 2) hx hb d_LA_law_270 (by decide) ?_
  refine lv_iadd hx hb d_LA_law_271 ?_
  refine ti (nI (i + 2)) (nI_add _ _) ?_
  refine xl_ld hx hb hXs hbl hS (show i + 2 < L by omega) hL d_LA_law_272 ?_
  refine lv_aload_n hx hb d_LA_law_273 rfl (lv_at hl 1 rfl) ?_
  refine lv_iload hx hb d_LA_law_274 (lv_at hl 5 rfl) ?_
  refine lv_iconst (v := nI 3) hx hb d_LA_law_276 (by decide) ?_
  refine lv_iadd hx hb d_LA_law_277 ?_
  refine ti (nI (i + 3)) (nI_add _ _) ?_
  refine xl_ld hx hb hXs hbl hS (show i + 3 < L by omega) hL d_LA_law_278 ?_
  refine xl_mod (n := 3) (As := [.int (xs (i + 1)), .int (xs (i + 2)), .int (xs (i + 3))]) (rest := []) (st0 := _) hx hb hml hown hts (c_MO_outlier l D ca (b + 219) _ (xs (i + 1)) (xs (i + 2)) (xs (i + 3)) hMV hMH.D.1) km_MO_outlier tb_673 tb_674 tb_675 (by decide +kernel) rfl rfl ⟨by decide, by decide⟩ hK hLS hS hbb hMG.at0.choose_spec rfl hl rfl (Nat.le_of_ble_eq_true rfl) d_LA_law_279 hcs (fun r Cm1 H hm9 hLS hS => ?_)
  obtain ⟨hI, hre⟩ := ag_outlier (bm := b + 219) hXM hMH hZR hx9 hm9
  subst hre
  refine lv_aload_n hx hb d_LA_law_282 rfl (lv_at hl 3 rfl) ?_
  obtain ⟨nd2, nt2, mwt2, mab2, mbe2, on2, ot3, lea2, mos2, hXM2, hMG2, hMH2, hZR2⟩ := hI
  refine xl_mod (n := 0) (As := []) (rest := []) (st0 := _) hx hb hml hown hts (c_MO_thrownG l D ca (b + 219) _ hMG2) km_MO_thrown tb_650 tb_651 tb_652 (by decide +kernel) rfl rfl ⟨by decide, by decide⟩ hK hLS hS hbb hMG2.at0.choose_spec rfl hl rfl (Nat.le_of_ble_eq_true rfl) d_LA_law_283 hcs (fun v Cm2 H hp hLS hS => ?_)
  obtain ⟨rfl, hMG3⟩ := hp
  refine lv_iload hx hb d_LA_law_286 (lv_at hl 0 rfl) ?_
  refine lv_icmp_eq (tgt := 293) hx hb d_LA_law_288 (by decide) (fun _ => ?_) (fun h => absurd rfl h)
  refine lv_goto (tgt := 1037) hx hb d_LA_law_293 (by decide) ?_
  exact cont _ _ f1 _ _ _ ⟨nd2, nt2, mwt2, mab2, mbe2, on2, ot3, lea2, mos2, hXM2, hMG3, hMH2, hZR2⟩ hLS hS (lv_sub hl [1, 2, 3, 4, 5] rfl)
set_option maxHeartbeats 4000000 in
set_option maxRecDepth 100000 in
/-- the law's case row -/
theorem law_3 (hC : LX p l s m c bs L xs D ca b) (hi : i + 6 ≤ L) (hI : INV ca b (b + 219) C Cm th) (hLS : LWS D ca b C Cm f H) (hS : nOld s H) (hl : lv_has ls 7 [(0, .ref bs), (1, .ref (b + 0)), (2, .ref (b + 219 + 0)), (3, .ref (b + 230)), (4, .int (nI i))]) (hcs : cells + 8 ≤ 601024 ∧ slots + 48 ≤ 7293034)
    (cont : ∀ (C1 Cm1 : Nat → va_E) (f1 : Nat → Int64) (th1 : Nat) (H1 : Heap) (ls1 : Array Slot), INV ca b (b + 219) C1 Cm1 th1 → LWS D ca b C1 Cm1 f1 H1 → nOld s H1 → lv_has ls1 7 [(0, .ref bs), (1, .ref (b + 0)), (2, .ref (b + 219 + 0)), (3, .ref (b + 230)), (4, .int (nI i))] → W p l e room_1 s m #[Value.ref bs] below meth c H1 [] (cells + 8) (slots + 48) Q (F0 m 1037 ls1 [])) : W p l e room_1 s m #[Value.ref bs] below meth c H [] cells slots Q (F0 m 296 ls []) := by
  obtain ⟨hx, hb, hml, hown, hts, hst, hK, hE, hXs, hbl, hbb, hL⟩ := hC
  obtain ⟨nd, nt, mwt, mab, mbe, on1, ot2, lea, mos, hXM, hMG, hMH, hZR⟩ := hI
  obtain ⟨fs9, ls9, cn9, lf9, mb9, yrs, bv, hMV⟩ := id hMG
  refine lv_aload_n hx hb d_LA_law_296 rfl (lv_at hl 1 rfl) ?_
  refine lv_aload_n hx hb d_LA_law_297 rfl (lv_at hl 0 rfl) ?_
  refine lv_iload hx hb d_LA_law_298 (lv_at hl 4 rfl) ?_
  refine lv_iconst (v := nI 1) hx hb d_LA_law_300 (by decide) ?_
  refine lv_iadd hx hb d_LA_law_301 ?_
  refine ti (nI (i + 1)) (nI_add _ _) ?_
  refine xl_ld hx hb hXs hbl hS (show i + 1 < L by omega) hL d_LA_law_302 ?_
  refine lv_aload_n hx hb d_LA_law_303 rfl (lv_at hl 0 rfl) ?_
  refine lv_iload hx hb d_LA_law_304 (lv_at hl 4 rfl) ?_
  refine lv_iconst (v := nI 2) hx hb d_LA_law_306 (by decide) ?_
  refine lv_iadd hx hb d_LA_law_307 ?_
  refine ti (nI (i + 2)) (nI_add _ _) ?_
  refine xl_ld hx hb hXs hbl hS (show i + 2 < L by omega) hL d_LA_law_308 ?_
  refine lv_aload_n hx hb d_LA_law_309 rfl (lv_at hl 0 rfl) ?_
  refine lv_iload hx hb d_LA_law_310 (lv_at hl 4 rfl) ?_
  refine lv_iconst (v := nI 3) hx hb d_LA_law_312 (by decide) ?_
  refine lv_iadd hx hb d_LA_law_313 ?_
  refine ti (nI (i + 3)) (nI_add _ _) ?_
  refine xl_ld hx hb hXs hbl hS (show i + 3 < L by omega) hL d_LA_law_314 ?_
  refine lv_aload_n hx hb d_LA_law_315 rfl (lv_at hl 0 rfl) ?_
  refine lv_iload hx hb d_LA_law_316 (lv_at hl 4 rfl) ?_
  refine lv_iconst (v := nI 4) hx hb d_LA_law_318 (by decide) ?_
  refine lv_iadd hx hb d_LA_law_319 ?_
  refine ti (nI (i + 4)) (nI_add _ _) ?_
  refine xl_ld hx hb hXs hbl hS (show i + 4 < L by omega) hL d_LA_law_320 ?_
  refine lv_aload_n hx hb d_LA_law_321 rfl (lv_at hl 3 rfl) ?_
  refine xl_help (n := 6) (As := [.ref (b + 0), .int (xs (i + 1)), .int (xs (i + 2)), .int (xs (i + 3)), .int (xs (i + 4)), .ref (b + 230)]) (rest := []) (st0 := _) hx hb hml hown hts (c_LA_row l hst D ca b (b + 230) _ _ (xs (i + 1)) (xs (i + 2)) (xs (i + 3)) (xs (i + 4)) hXM hMH (fun z => absurd z.2 (by omega))) km_LA_row tb_436 tb_437 rfl (by decide +kernel) rfl rfl ⟨by decide, by decide⟩ hK hE hLS hS hbb rfl hl rfl (Nat.le_of_ble_eq_true rfl) d_LA_law_322 hcs (fun k C1 f1 H hx9 hLS hS => ?_)
  have hk3 : k < 3 := by rcases hx9 with ⟨h, -⟩ | ⟨h, -⟩ | ⟨h, -⟩ <;> omega
  refine lv_istore (lv' := [(5, .int (nI k)), (0, .ref bs), (1, .ref (b + 0)), (2, .ref (b + 219 + 0)), (3, .ref (b + 230)), (4, .int (nI i))]) hx hb d_LA_law_325 hl (by decide) rfl (fun ls hl => ?_)
  refine lv_aload_n hx hb d_LA_law_327 rfl (lv_at hl 3 rfl) ?_
  refine lv_aload_n hx hb d_LA_law_328 rfl (lv_at hl 1 rfl) ?_
  refine lv_iload hx hb d_LA_law_329 (lv_at hl 5 rfl) ?_
  refine lv_iconst (v := nI 1) hx hb d_LA_law_331 (by decide) ?_
  refine lv_iadd hx hb d_LA_law_332 ?_
  refine ti (nI (i + 1)) (nI_add _ _) ?_
  refine xl_ld hx hb hXs hbl hS (show i + 1 < L by omega) hL d_LA_law_333 ?_
  refine lv_aload_n hx hb d_LA_law_334 rfl (lv_at hl 1 rfl) ?_
  refine lv_iload hx hb d_LA_law_335 (lv_at hl 5 rfl) ?_
  refine lv_iconst (v := nI 2) hx hb d_LA_law_337 (by decide) ?_
  refine lv_iadd hx hb d_LA_law_338 ?_
  refine ti (nI (i + 2)) (nI_add _ _) ?_
  refine xl_ld hx hb hXs hbl hS (show i + 2 < L by omega) hL d_LA_law_339 ?_
  refine lv_aload_n hx hb d_LA_law_340 rfl (lv_at hl 1 rfl) ?_
  refine lv_iload hx hb d_LA_law_341 (lv_at hl 5 rfl) ?_
  refine lv_iconst (v := nI 3) hx hb d_LA_law_343 (by decide) ?_
  refine lv_iadd hx hb d_LA_law_344 ?_
  refine ti (nI (i + 3)) (nI_add _ _) ?_
  refine xl_ld hx hb hXs hbl hS (show i + 3 < L by omega) hL d_LA_law_345 ?_
  refine lv_aload_n hx hb d_LA_law_346 rfl (lv_at hl 1 rfl) ?_
  refine lv_iload hx hb d_LA_law_347 (lv_at hl 5 rfl) ?_
  refine lv_iconst (v := nI 4) hx hb d_LA_law_349 (by decide) ?_
  refine lv_iadd hx hb d_LA_law_350 ?_
  refine ti (nI (i + 4)) (nI_add _ _) ?_
  refine xl_ld hx hb hXs hbl hS (show i + 4 < L by omega) hL d_LA_law_351 ?_
  refine xl_mod (n := 4) (As := [.int (xs (i + 1)), .int (xs (i + 2)), .int (xs (i + 3)), .int (xs (i + 4))]) (rest := []) (st0 := _) hx hb hml hown hts (c_MO_row l D ca (b + 219) _ (xs (i + 1)) (xs (i + 2)) (xs (i + 3)) (xs (i + 4)) hMV hMH.D.1 hMH.M (fun d9 g9 hd9 hg9 hno => (MH_row (lo := 0) (hi := 0) hMH hd9 hg9 (by decide) (by decide) hno).1)) km_MO_row tb_677 tb_678 tb_679 (by decide +kernel) rfl rfl ⟨by decide, by decide⟩ hK hLS hS hbb hMG.at0.choose_spec rfl hl rfl (Nat.le_of_ble_eq_true rfl) d_LA_law_352 hcs (fun r Cm1 H hm9 hLS hS => ?_)
  obtain ⟨hI, w, hre, hw⟩ := ag_row (bm := b + 219) hXM hMH hZR hx9 hm9
  subst hre
  refine lv_istore (lv' := [(6, .int w), (5, .int (nI k)), (0, .ref bs), (1, .ref (b + 0)), (2, .ref (b + 219 + 0)), (3, .ref (b + 230)), (4, .int (nI i))]) hx hb d_LA_law_355 hl (by decide) rfl (fun ls hl => ?_)
  refine lv_aload_n hx hb d_LA_law_357 rfl (lv_at hl 4 rfl) ?_
  obtain ⟨nd2, nt2, mwt2, mab2, mbe2, on2, ot3, lea2, mos2, hXM2, hMG2, hMH2, hZR2⟩ := hI
  refine xl_mod (n := 0) (As := []) (rest := []) (st0 := _) hx hb hml hown hts (c_MO_thrownG l D ca (b + 219) _ hMG2) km_MO_thrown tb_650 tb_651 tb_652 (by decide +kernel) rfl rfl ⟨by decide, by decide⟩ hK hLS hS hbb hMG2.at0.choose_spec rfl hl rfl (Nat.le_of_ble_eq_true rfl) d_LA_law_358 hcs (fun v Cm2 H hp hLS hS => ?_)
  obtain ⟨rfl, hMG3⟩ := hp
  refine lv_iload hx hb d_LA_law_361 (lv_at hl 1 rfl) ?_
  refine lv_icmp_eq (tgt := 368) hx hb d_LA_law_363 (by decide) (fun _ => ?_) (fun h => absurd rfl h)
  refine lv_iload hx hb d_LA_law_368 (lv_at hl 1 rfl) ?_
  refine xz_ne (tgt := 385) hx hb d_LA_law_370 (by decide) (by omega) (fun hk0 => ?_) (fun hk0 => ?_)
  · refine lv_goto (tgt := 1037) hx hb d_LA_law_385 (by decide) ?_
    exact cont _ _ _ _ _ _ ⟨nd2, nt2, mwt2, mab2, mbe2, on2, ot3, lea2, mos2, hXM2, hMG3, hMH2, hZR2⟩ hLS hS (lv_sub hl [2, 3, 4, 5, 6] rfl)
  · skip
    refine lv_aload_n hx hb d_LA_law_373 rfl (lv_at hl 5 rfl) ?_
    refine lv_iconst (v := nI 0) hx hb d_LA_law_374 (by decide) ?_
    refine xl_out hx hb hK hLS d_LA_law_375 ?_
    rw [hw hk0]
    refine lv_iload hx hb d_LA_law_376 (lv_at hl 0 rfl) ?_
    refine lv_i2l (v := w.toInt64) hx hb d_LA_law_378 rfl ?_
    refine W.lcmp hx hb d_LA_law_379 ?_
    refine lv_if_eq (tgt := 385) hx hb d_LA_law_380 (by decide) (fun _ => ?_) (fun h => absurd (lgs _) h)
    refine lv_goto (tgt := 1037) hx hb d_LA_law_385 (by decide) ?_
    exact cont _ _ _ _ _ _ ⟨nd2, nt2, mwt2, mab2, mbe2, on2, ot3, lea2, mos2, hXM2, hMG3, hMH2, hZR2⟩ hLS hS (lv_sub hl [2, 3, 4, 5, 6] rfl)
set_option maxHeartbeats 4000000 in
set_option maxRecDepth 100000 in
/-- the law's case member -/
theorem law_4 (hC : LX p l s m c bs L xs D ca b) (hi : i + 6 ≤ L) (hI : INV ca b (b + 219) C Cm th) (hLS : LWS D ca b C Cm f H) (hS : nOld s H) (hl : lv_has ls 7 [(0, .ref bs), (1, .ref (b + 0)), (2, .ref (b + 219 + 0)), (3, .ref (b + 230)), (4, .int (nI i))]) (hcs : cells + 8 ≤ 601024 ∧ slots + 48 ≤ 7293034)
    (cont : ∀ (C1 Cm1 : Nat → va_E) (f1 : Nat → Int64) (th1 : Nat) (H1 : Heap) (ls1 : Array Slot), INV ca b (b + 219) C1 Cm1 th1 → LWS D ca b C1 Cm1 f1 H1 → nOld s H1 → lv_has ls1 7 [(0, .ref bs), (1, .ref (b + 0)), (2, .ref (b + 219 + 0)), (3, .ref (b + 230)), (4, .int (nI i))] → W p l e room_1 s m #[Value.ref bs] below meth c H1 [] (cells + 8) (slots + 48) Q (F0 m 1037 ls1 [])) : W p l e room_1 s m #[Value.ref bs] below meth c H [] cells slots Q (F0 m 388 ls []) := by
  obtain ⟨hx, hb, hml, hown, hts, hst, hK, hE, hXs, hbl, hbb, hL⟩ := hC
  obtain ⟨nd, nt, mwt, mab, mbe, on1, ot2, lea, mos, hXM, hMG, hMH, hZR⟩ := hI
  obtain ⟨fs9, ls9, cn9, lf9, mb9, yrs, bv, hMV⟩ := id hMG
  refine lv_aload_n hx hb d_LA_law_388 rfl (lv_at hl 1 rfl) ?_
  refine lv_aload_n hx hb d_LA_law_389 rfl (lv_at hl 0 rfl) ?_
  refine lv_iload hx hb d_LA_law_390 (lv_at hl 4 rfl) ?_
  refine lv_iconst (v := nI 1) hx hb d_LA_law_392 (by decide) ?_
  refine lv_iadd hx hb d_LA_law_393 ?_
  refine ti (nI (i + 1)) (nI_add _ _) ?_
  refine xl_ld hx hb hXs hbl hS (show i + 1 < L by omega) hL d_LA_law_394 ?_
  refine lv_aload_n hx hb d_LA_law_395 rfl (lv_at hl 3 rfl) ?_
  refine xl_help (n := 3) (As := [.ref (b + 0), .int (xs (i + 1)), .ref (b + 230)]) (rest := []) (st0 := _) hx hb hml hown hts (c_LA_member l hst D ca b (b + 230) _ _ (xs (i + 1)) hXM hMH (fun z => absurd z.2 (by omega))) km_LA_member tb_464 tb_465 rfl (by decide +kernel) rfl rfl ⟨by decide, by decide⟩ hK hE hLS hS hbb rfl hl rfl (Nat.le_of_ble_eq_true rfl) d_LA_law_396 hcs (fun k C1 f1 H hx9 hLS hS => ?_)
  have hk3 : k < 3 := by rcases hx9 with ⟨h, -⟩ | ⟨h, -⟩ <;> omega
  refine lv_istore (lv' := [(5, .int (nI k)), (0, .ref bs), (1, .ref (b + 0)), (2, .ref (b + 219 + 0)), (3, .ref (b + 230)), (4, .int (nI i))]) hx hb d_LA_law_399 hl (by decide) rfl (fun ls hl => ?_)
  refine lv_aload_n hx hb d_LA_law_401 rfl (lv_at hl 3 rfl) ?_
  refine lv_aload_n hx hb d_LA_law_402 rfl (lv_at hl 1 rfl) ?_
  refine lv_iload hx hb d_LA_law_403 (lv_at hl 5 rfl) ?_
  refine lv_iconst (v := nI 1) hx hb d_LA_law_405 (by decide) ?_
  refine lv_iadd hx hb d_LA_law_406 ?_
  refine ti (nI (i + 1)) (nI_add _ _) ?_
  refine xl_ld hx hb hXs hbl hS (show i + 1 < L by omega) hL d_LA_law_407 ?_
  refine xl_mod (n := 1) (As := [.int (xs (i + 1))]) (rest := []) (st0 := _) hx hb hml hown hts (c_MO_member l D ca (b + 219) _ (xs (i + 1)) hMV hMH.D.1 hMH.M (fun d9 hd9 hno => (MH_mem hMH hd9 hno).1)) km_MO_member tb_697 tb_698 tb_699 (by decide +kernel) rfl rfl ⟨by decide, by decide⟩ hK hLS hS hbb hMG.at0.choose_spec rfl hl rfl (Nat.le_of_ble_eq_true rfl) d_LA_law_408 hcs (fun r Cm1 H hm9 hLS hS => ?_)
  obtain ⟨hI, w, hre, hw⟩ := ag_member (bm := b + 219) hXM hMH hZR hx9 hm9
  subst hre
  refine lv_istore (lv' := [(6, .int w), (5, .int (nI k)), (0, .ref bs), (1, .ref (b + 0)), (2, .ref (b + 219 + 0)), (3, .ref (b + 230)), (4, .int (nI i))]) hx hb d_LA_law_411 hl (by decide) rfl (fun ls hl => ?_)
  refine lv_aload_n hx hb d_LA_law_413 rfl (lv_at hl 4 rfl) ?_
  obtain ⟨nd2, nt2, mwt2, mab2, mbe2, on2, ot3, lea2, mos2, hXM2, hMG2, hMH2, hZR2⟩ := hI
  refine xl_mod (n := 0) (As := []) (rest := []) (st0 := _) hx hb hml hown hts (c_MO_thrownG l D ca (b + 219) _ hMG2) km_MO_thrown tb_650 tb_651 tb_652 (by decide +kernel) rfl rfl ⟨by decide, by decide⟩ hK hLS hS hbb hMG2.at0.choose_spec rfl hl rfl (Nat.le_of_ble_eq_true rfl) d_LA_law_414 hcs (fun v Cm2 H hp hLS hS => ?_)
  obtain ⟨rfl, hMG3⟩ := hp
  refine lv_iload hx hb d_LA_law_417 (lv_at hl 1 rfl) ?_
  refine lv_icmp_eq (tgt := 424) hx hb d_LA_law_419 (by decide) (fun _ => ?_) (fun h => absurd rfl h)
  refine lv_iload hx hb d_LA_law_424 (lv_at hl 1 rfl) ?_
  refine xz_ne (tgt := 441) hx hb d_LA_law_426 (by decide) (by omega) (fun hk0 => ?_) (fun hk0 => ?_)
  · refine lv_goto (tgt := 1037) hx hb d_LA_law_441 (by decide) ?_
    exact cont _ _ _ _ _ _ ⟨nd2, nt2, mwt2, mab2, mbe2, on2, ot3, lea2, mos2, hXM2, hMG3, hMH2, hZR2⟩ hLS hS (lv_sub hl [2, 3, 4, 5, 6] rfl)
  · skip
    refine lv_aload_n hx hb d_LA_law_429 rfl (lv_at hl 5 rfl) ?_
    refine lv_iconst (v := nI 0) hx hb d_LA_law_430 (by decide) ?_
    refine xl_out hx hb hK hLS d_LA_law_431 ?_
    rw [hw hk0]
    refine lv_iload hx hb d_LA_law_432 (lv_at hl 0 rfl) ?_
    refine lv_i2l (v := w.toInt64) hx hb d_LA_law_434 rfl ?_
    refine W.lcmp hx hb d_LA_law_435 ?_
    refine lv_if_eq (tgt := 441) hx hb d_LA_law_436 (by decide) (fun _ => ?_) (fun h => absurd (lgs _) h)
    refine lv_goto (tgt := 1037) hx hb d_LA_law_441 (by decide) ?_
    exact cont _ _ _ _ _ _ ⟨nd2, nt2, mwt2, mab2, mbe2, on2, ot3, lea2, mos2, hXM2, hMG3, hMH2, hZR2⟩ hLS hS (lv_sub hl [2, 3, 4, 5, 6] rfl)
set_option maxHeartbeats 4000000 in
set_option maxRecDepth 100000 in
/-- the law's case total -/
theorem law_5 (hC : LX p l s m c bs L xs D ca b) (hi : i + 6 ≤ L) (hI : INV ca b (b + 219) C Cm th) (hLS : LWS D ca b C Cm f H) (hS : nOld s H) (hl : lv_has ls 7 [(0, .ref bs), (1, .ref (b + 0)), (2, .ref (b + 219 + 0)), (3, .ref (b + 230)), (4, .int (nI i))]) (hcs : cells + 8 ≤ 601024 ∧ slots + 48 ≤ 7293034)
    (cont : ∀ (C1 Cm1 : Nat → va_E) (f1 : Nat → Int64) (th1 : Nat) (H1 : Heap) (ls1 : Array Slot), INV ca b (b + 219) C1 Cm1 th1 → LWS D ca b C1 Cm1 f1 H1 → nOld s H1 → lv_has ls1 7 [(0, .ref bs), (1, .ref (b + 0)), (2, .ref (b + 219 + 0)), (3, .ref (b + 230)), (4, .int (nI i))] → W p l e room_1 s m #[Value.ref bs] below meth c H1 [] (cells + 8) (slots + 48) Q (F0 m 1037 ls1 [])) : W p l e room_1 s m #[Value.ref bs] below meth c H [] cells slots Q (F0 m 444 ls []) := by
  obtain ⟨hx, hb, hml, hown, hts, hst, hK, hE, hXs, hbl, hbb, hL⟩ := hC
  obtain ⟨nd, nt, mwt, mab, mbe, on1, ot2, lea, mos, hXM, hMG, hMH, hZR⟩ := hI
  obtain ⟨fs9, ls9, cn9, lf9, mb9, yrs, bv, hMV⟩ := id hMG
  refine lv_aload_n hx hb d_LA_law_444 rfl (lv_at hl 1 rfl) ?_
  refine lv_aload_n hx hb d_LA_law_445 rfl (lv_at hl 0 rfl) ?_
  refine lv_iload hx hb d_LA_law_446 (lv_at hl 4 rfl) ?_
  refine lv_iconst (v := nI 1) hx hb d_LA_law_448 (by decide) ?_
  refine lv_iadd hx hb d_LA_law_449 ?_
  refine ti (nI (i + 1)) (nI_add _ _) ?_
  refine xl_ld hx hb hXs hbl hS (show i + 1 < L by omega) hL d_LA_law_450 ?_
  refine lv_aload_n hx hb d_LA_law_451 rfl (lv_at hl 3 rfl) ?_
  refine xl_help (n := 3) (As := [.ref (b + 0), .int (xs (i + 1)), .ref (b + 230)]) (rest := []) (st0 := _) hx hb hml hown hts (c_LA_total l hst D ca b (b + 230) _ _ (xs (i + 1)) hXM hMH (fun z => absurd z.2 (by omega))) km_LA_total tb_475 tb_476 rfl (by decide +kernel) rfl rfl ⟨by decide, by decide⟩ hK hE hLS hS hbb rfl hl rfl (Nat.le_of_ble_eq_true rfl) d_LA_law_452 hcs (fun k C1 f1 H hx9 hLS hS => ?_)
  have hk3 : k < 3 := by rcases hx9 with ⟨h, -⟩ | ⟨h, -⟩ <;> omega
  refine lv_istore (lv' := [(5, .int (nI k)), (0, .ref bs), (1, .ref (b + 0)), (2, .ref (b + 219 + 0)), (3, .ref (b + 230)), (4, .int (nI i))]) hx hb d_LA_law_455 hl (by decide) rfl (fun ls hl => ?_)
  refine lv_aload_n hx hb d_LA_law_457 rfl (lv_at hl 3 rfl) ?_
  refine lv_aload_n hx hb d_LA_law_458 rfl (lv_at hl 1 rfl) ?_
  refine lv_iload hx hb d_LA_law_459 (lv_at hl 5 rfl) ?_
  refine lv_iconst (v := nI 1) hx hb d_LA_law_461 (by decide) ?_
  refine lv_iadd hx hb d_LA_law_462 ?_
  refine ti (nI (i + 1)) (nI_add _ _) ?_
  refine xl_ld hx hb hXs hbl hS (show i + 1 < L by omega) hL d_LA_law_463 ?_
  refine xl_mod (n := 1) (As := [.int (xs (i + 1))]) (rest := []) (st0 := _) hx hb hml hown hts (c_MO_total l D ca (b + 219) _ (xs (i + 1)) hMV hMH) km_MO_total tb_701 tb_702 tb_703 (by decide +kernel) rfl rfl ⟨by decide, by decide⟩ hK hLS hS hbb hMG.at0.choose_spec rfl hl rfl (Nat.le_of_ble_eq_true rfl) d_LA_law_464 hcs (fun r Cm1 H hm9 hLS hS => ?_)
  obtain ⟨hI, w, hre, hw⟩ := ag_total (bm := b + 219) hXM hMH hZR hx9 hm9
  subst hre
  refine lv_istore (lv' := [(6, .int w), (5, .int (nI k)), (0, .ref bs), (1, .ref (b + 0)), (2, .ref (b + 219 + 0)), (3, .ref (b + 230)), (4, .int (nI i))]) hx hb d_LA_law_467 hl (by decide) rfl (fun ls hl => ?_)
  refine lv_aload_n hx hb d_LA_law_469 rfl (lv_at hl 4 rfl) ?_
  obtain ⟨nd2, nt2, mwt2, mab2, mbe2, on2, ot3, lea2, mos2, hXM2, hMG2, hMH2, hZR2⟩ := hI
  refine xl_mod (n := 0) (As := []) (rest := []) (st0 := _) hx hb hml hown hts (c_MO_thrownG l D ca (b + 219) _ hMG2) km_MO_thrown tb_650 tb_651 tb_652 (by decide +kernel) rfl rfl ⟨by decide, by decide⟩ hK hLS hS hbb hMG2.at0.choose_spec rfl hl rfl (Nat.le_of_ble_eq_true rfl) d_LA_law_470 hcs (fun v Cm2 H hp hLS hS => ?_)
  obtain ⟨rfl, hMG3⟩ := hp
  refine lv_iload hx hb d_LA_law_473 (lv_at hl 1 rfl) ?_
  refine lv_icmp_eq (tgt := 480) hx hb d_LA_law_475 (by decide) (fun _ => ?_) (fun h => absurd rfl h)
  refine lv_iload hx hb d_LA_law_480 (lv_at hl 1 rfl) ?_
  refine xz_ne (tgt := 497) hx hb d_LA_law_482 (by decide) (by omega) (fun hk0 => ?_) (fun hk0 => ?_)
  · refine lv_goto (tgt := 1037) hx hb d_LA_law_497 (by decide) ?_
    exact cont _ _ _ _ _ _ ⟨nd2, nt2, mwt2, mab2, mbe2, on2, ot3, lea2, mos2, hXM2, hMG3, hMH2, hZR2⟩ hLS hS (lv_sub hl [2, 3, 4, 5, 6] rfl)
  · skip
    refine lv_aload_n hx hb d_LA_law_485 rfl (lv_at hl 5 rfl) ?_
    refine lv_iconst (v := nI 0) hx hb d_LA_law_486 (by decide) ?_
    refine xl_out hx hb hK hLS d_LA_law_487 ?_
    rw [hw hk0]
    refine lv_iload hx hb d_LA_law_488 (lv_at hl 0 rfl) ?_
    refine lv_i2l (v := w.toInt64) hx hb d_LA_law_490 rfl ?_
    refine W.lcmp hx hb d_LA_law_491 ?_
    refine lv_if_eq (tgt := 497) hx hb d_LA_law_492 (by decide) (fun _ => ?_) (fun h => absurd (lgs _) h)
    refine lv_goto (tgt := 1037) hx hb d_LA_law_497 (by decide) ?_
    exact cont _ _ _ _ _ _ ⟨nd2, nt2, mwt2, mab2, mbe2, on2, ot3, lea2, mos2, hXM2, hMG3, hMH2, hZR2⟩ hLS hS (lv_sub hl [2, 3, 4, 5, 6] rfl)
set_option maxHeartbeats 4000000 in
set_option maxRecDepth 100000 in
/-- the law's case answered -/
theorem law_6 (hC : LX p l s m c bs L xs D ca b) (hi : i + 6 ≤ L) (hI : INV ca b (b + 219) C Cm th) (hLS : LWS D ca b C Cm f H) (hS : nOld s H) (hl : lv_has ls 7 [(0, .ref bs), (1, .ref (b + 0)), (2, .ref (b + 219 + 0)), (3, .ref (b + 230)), (4, .int (nI i))]) (hcs : cells + 8 ≤ 601024 ∧ slots + 48 ≤ 7293034)
    (cont : ∀ (C1 Cm1 : Nat → va_E) (f1 : Nat → Int64) (th1 : Nat) (H1 : Heap) (ls1 : Array Slot), INV ca b (b + 219) C1 Cm1 th1 → LWS D ca b C1 Cm1 f1 H1 → nOld s H1 → lv_has ls1 7 [(0, .ref bs), (1, .ref (b + 0)), (2, .ref (b + 219 + 0)), (3, .ref (b + 230)), (4, .int (nI i))] → W p l e room_1 s m #[Value.ref bs] below meth c H1 [] (cells + 8) (slots + 48) Q (F0 m 1037 ls1 [])) : W p l e room_1 s m #[Value.ref bs] below meth c H [] cells slots Q (F0 m 500 ls []) := by
  obtain ⟨hx, hb, hml, hown, hts, hst, hK, hE, hXs, hbl, hbb, hL⟩ := hC
  obtain ⟨nd, nt, mwt, mab, mbe, on1, ot2, lea, mos, hXM, hMG, hMH, hZR⟩ := hI
  obtain ⟨fs9, ls9, cn9, lf9, mb9, yrs, bv, hMV⟩ := id hMG
  refine lv_aload_n hx hb d_LA_law_500 rfl (lv_at hl 1 rfl) ?_
  refine lv_aload_n hx hb d_LA_law_501 rfl (lv_at hl 0 rfl) ?_
  refine lv_iload hx hb d_LA_law_502 (lv_at hl 4 rfl) ?_
  refine lv_iconst (v := nI 1) hx hb d_LA_law_504 (by decide) ?_
  refine lv_iadd hx hb d_LA_law_505 ?_
  refine ti (nI (i + 1)) (nI_add _ _) ?_
  refine xl_ld hx hb hXs hbl hS (show i + 1 < L by omega) hL d_LA_law_506 ?_
  refine lv_aload_n hx hb d_LA_law_507 rfl (lv_at hl 0 rfl) ?_
  refine lv_iload hx hb d_LA_law_508 (lv_at hl 4 rfl) ?_
  refine lv_iconst (v := nI 2) hx hb d_LA_law_510 (by decide) ?_
  refine lv_iadd hx hb d_LA_law_511 ?_
  refine ti (nI (i + 2)) (nI_add _ _) ?_
  refine xl_ld hx hb hXs hbl hS (show i + 2 < L by omega) hL d_LA_law_512 ?_
  refine lv_aload_n hx hb d_LA_law_513 rfl (lv_at hl 0 rfl) ?_
  refine lv_iload hx hb d_LA_law_514 (lv_at hl 4 rfl) ?_
  refine lv_iconst (v := nI 3) hx hb d_LA_law_516 (by decide) ?_
  refine lv_iadd hx hb d_LA_law_517 ?_
  refine ti (nI (i + 3)) (nI_add _ _) ?_
  refine xl_ld hx hb hXs hbl hS (show i + 3 < L by omega) hL d_LA_law_518 ?_
  refine lv_aload_n hx hb d_LA_law_519 rfl (lv_at hl 3 rfl) ?_
  refine xl_help (n := 5) (As := [.ref (b + 0), .int (xs (i + 1)), .int (xs (i + 2)), .int (xs (i + 3)), .ref (b + 230)]) (rest := []) (st0 := _) hx hb hml hown hts (c_LA_answered l hst D ca b (b + 230) _ _ (xs (i + 1)) (xs (i + 2)) (xs (i + 3)) hXM hMH (fun z => absurd z.2 (by omega))) km_LA_answered tb_491 tb_492 rfl (by decide +kernel) rfl rfl ⟨by decide, by decide⟩ hK hE hLS hS hbb rfl hl rfl (Nat.le_of_ble_eq_true rfl) d_LA_law_520 hcs (fun k C1 f1 H hx9 hLS hS => ?_)
  have hk3 : k < 3 := by rcases hx9 with ⟨h, -⟩ | ⟨h, -⟩ <;> omega
  refine lv_istore (lv' := [(5, .int (nI k)), (0, .ref bs), (1, .ref (b + 0)), (2, .ref (b + 219 + 0)), (3, .ref (b + 230)), (4, .int (nI i))]) hx hb d_LA_law_523 hl (by decide) rfl (fun ls hl => ?_)
  refine lv_aload_n hx hb d_LA_law_525 rfl (lv_at hl 3 rfl) ?_
  refine lv_aload_n hx hb d_LA_law_526 rfl (lv_at hl 1 rfl) ?_
  refine lv_iload hx hb d_LA_law_527 (lv_at hl 5 rfl) ?_
  refine lv_iconst (v := nI 1) hx hb d_LA_law_529 (by decide) ?_
  refine lv_iadd hx hb d_LA_law_530 ?_
  refine ti (nI (i + 1)) (nI_add _ _) ?_
  refine xl_ld hx hb hXs hbl hS (show i + 1 < L by omega) hL d_LA_law_531 ?_
  refine lv_aload_n hx hb d_LA_law_532 rfl (lv_at hl 1 rfl) ?_
  refine lv_iload hx hb d_LA_law_533 (lv_at hl 5 rfl) ?_
  refine lv_iconst (v := nI 2) hx hb d_LA_law_535 (by decide) ?_
  refine lv_iadd hx hb d_LA_law_536 ?_
  refine ti (nI (i + 2)) (nI_add _ _) ?_
  refine xl_ld hx hb hXs hbl hS (show i + 2 < L by omega) hL d_LA_law_537 ?_
  refine lv_aload_n hx hb d_LA_law_538 rfl (lv_at hl 1 rfl) ?_
  refine lv_iload hx hb d_LA_law_539 (lv_at hl 5 rfl) ?_
  refine lv_iconst (v := nI 3) hx hb d_LA_law_541 (by decide) ?_
  refine lv_iadd hx hb d_LA_law_542 ?_
  refine ti (nI (i + 3)) (nI_add _ _) ?_
  refine xl_ld hx hb hXs hbl hS (show i + 3 < L by omega) hL d_LA_law_543 ?_
  refine xl_mod (n := 3) (As := [.int (xs (i + 1)), .int (xs (i + 2)), .int (xs (i + 3))]) (rest := []) (st0 := _) hx hb hml hown hts (c_MO_answered l D ca (b + 219) _ (xs (i + 1)) (xs (i + 2)) (xs (i + 3)) hMV hMH) km_MO_answered tb_768 tb_769 tb_770 (by decide +kernel) rfl rfl ⟨by decide, by decide⟩ hK hLS hS hbb hMG.at0.choose_spec rfl hl rfl (Nat.le_of_ble_eq_true rfl) d_LA_law_544 hcs (fun r Cm1 H hm9 hLS hS => ?_)
  obtain ⟨hI, w, hre, hw⟩ := ag_answered (bm := b + 219) hXM hMH hZR hx9 hm9
  subst hre
  refine lv_istore (lv' := [(6, .int w), (5, .int (nI k)), (0, .ref bs), (1, .ref (b + 0)), (2, .ref (b + 219 + 0)), (3, .ref (b + 230)), (4, .int (nI i))]) hx hb d_LA_law_547 hl (by decide) rfl (fun ls hl => ?_)
  refine lv_aload_n hx hb d_LA_law_549 rfl (lv_at hl 4 rfl) ?_
  obtain ⟨nd2, nt2, mwt2, mab2, mbe2, on2, ot3, lea2, mos2, hXM2, hMG2, hMH2, hZR2⟩ := hI
  refine xl_mod (n := 0) (As := []) (rest := []) (st0 := _) hx hb hml hown hts (c_MO_thrownG l D ca (b + 219) _ hMG2) km_MO_thrown tb_650 tb_651 tb_652 (by decide +kernel) rfl rfl ⟨by decide, by decide⟩ hK hLS hS hbb hMG2.at0.choose_spec rfl hl rfl (Nat.le_of_ble_eq_true rfl) d_LA_law_550 hcs (fun v Cm2 H hp hLS hS => ?_)
  obtain ⟨rfl, hMG3⟩ := hp
  refine lv_iload hx hb d_LA_law_553 (lv_at hl 1 rfl) ?_
  refine lv_icmp_eq (tgt := 560) hx hb d_LA_law_555 (by decide) (fun _ => ?_) (fun h => absurd rfl h)
  refine lv_iload hx hb d_LA_law_560 (lv_at hl 1 rfl) ?_
  refine xz_ne (tgt := 577) hx hb d_LA_law_562 (by decide) (by omega) (fun hk0 => ?_) (fun hk0 => ?_)
  · refine lv_goto (tgt := 1037) hx hb d_LA_law_577 (by decide) ?_
    exact cont _ _ _ _ _ _ ⟨nd2, nt2, mwt2, mab2, mbe2, on2, ot3, lea2, mos2, hXM2, hMG3, hMH2, hZR2⟩ hLS hS (lv_sub hl [2, 3, 4, 5, 6] rfl)
  · skip
    refine lv_aload_n hx hb d_LA_law_565 rfl (lv_at hl 5 rfl) ?_
    refine lv_iconst (v := nI 0) hx hb d_LA_law_566 (by decide) ?_
    refine xl_out hx hb hK hLS d_LA_law_567 ?_
    rw [hw hk0]
    refine lv_iload hx hb d_LA_law_568 (lv_at hl 0 rfl) ?_
    refine lv_i2l (v := w.toInt64) hx hb d_LA_law_570 rfl ?_
    refine W.lcmp hx hb d_LA_law_571 ?_
    refine lv_if_eq (tgt := 577) hx hb d_LA_law_572 (by decide) (fun _ => ?_) (fun h => absurd (lgs _) h)
    refine lv_goto (tgt := 1037) hx hb d_LA_law_577 (by decide) ?_
    exact cont _ _ _ _ _ _ ⟨nd2, nt2, mwt2, mab2, mbe2, on2, ot3, lea2, mos2, hXM2, hMG3, hMH2, hZR2⟩ hLS hS (lv_sub hl [2, 3, 4, 5, 6] rfl)
set_option maxHeartbeats 4000000 in
set_option maxRecDepth 100000 in
/-- the law's case bound -/
theorem law_7 (hC : LX p l s m c bs L xs D ca b) (hi : i + 6 ≤ L) (hI : INV ca b (b + 219) C Cm th) (hLS : LWS D ca b C Cm f H) (hS : nOld s H) (hl : lv_has ls 7 [(0, .ref bs), (1, .ref (b + 0)), (2, .ref (b + 219 + 0)), (3, .ref (b + 230)), (4, .int (nI i))]) (hcs : cells + 8 ≤ 601024 ∧ slots + 48 ≤ 7293034)
    (cont : ∀ (C1 Cm1 : Nat → va_E) (f1 : Nat → Int64) (th1 : Nat) (H1 : Heap) (ls1 : Array Slot), INV ca b (b + 219) C1 Cm1 th1 → LWS D ca b C1 Cm1 f1 H1 → nOld s H1 → lv_has ls1 7 [(0, .ref bs), (1, .ref (b + 0)), (2, .ref (b + 219 + 0)), (3, .ref (b + 230)), (4, .int (nI i))] → W p l e room_1 s m #[Value.ref bs] below meth c H1 [] (cells + 8) (slots + 48) Q (F0 m 1037 ls1 [])) : W p l e room_1 s m #[Value.ref bs] below meth c H [] cells slots Q (F0 m 580 ls []) := by
  obtain ⟨hx, hb, hml, hown, hts, hst, hK, hE, hXs, hbl, hbb, hL⟩ := hC
  obtain ⟨nd, nt, mwt, mab, mbe, on1, ot2, lea, mos, hXM, hMG, hMH, hZR⟩ := hI
  obtain ⟨fs9, ls9, cn9, lf9, mb9, yrs, bv, hMV⟩ := id hMG
  refine lv_aload_n hx hb d_LA_law_580 rfl (lv_at hl 1 rfl) ?_
  refine lv_aload_n hx hb d_LA_law_581 rfl (lv_at hl 0 rfl) ?_
  refine lv_iload hx hb d_LA_law_582 (lv_at hl 4 rfl) ?_
  refine lv_iconst (v := nI 1) hx hb d_LA_law_584 (by decide) ?_
  refine lv_iadd hx hb d_LA_law_585 ?_
  refine ti (nI (i + 1)) (nI_add _ _) ?_
  refine xl_ld hx hb hXs hbl hS (show i + 1 < L by omega) hL d_LA_law_586 ?_
  refine lv_aload_n hx hb d_LA_law_587 rfl (lv_at hl 0 rfl) ?_
  refine lv_iload hx hb d_LA_law_588 (lv_at hl 4 rfl) ?_
  refine lv_iconst (v := nI 2) hx hb d_LA_law_590 (by decide) ?_
  refine lv_iadd hx hb d_LA_law_591 ?_
  refine ti (nI (i + 2)) (nI_add _ _) ?_
  refine xl_ld hx hb hXs hbl hS (show i + 2 < L by omega) hL d_LA_law_592 ?_
  refine lv_aload_n hx hb d_LA_law_593 rfl (lv_at hl 0 rfl) ?_
  refine lv_iload hx hb d_LA_law_594 (lv_at hl 4 rfl) ?_
  refine lv_iconst (v := nI 3) hx hb d_LA_law_596 (by decide) ?_
  refine lv_iadd hx hb d_LA_law_597 ?_
  refine ti (nI (i + 3)) (nI_add _ _) ?_
  refine xl_ld hx hb hXs hbl hS (show i + 3 < L by omega) hL d_LA_law_598 ?_
  refine lv_aload_n hx hb d_LA_law_599 rfl (lv_at hl 3 rfl) ?_
  refine xl_help (n := 5) (As := [.ref (b + 0), .int (xs (i + 1)), .int (xs (i + 2)), .int (xs (i + 3)), .ref (b + 230)]) (rest := []) (st0 := _) hx hb hml hown hts (c_LA_bound l hst D ca b (b + 230) _ _ (xs (i + 1)) (xs (i + 2)) (xs (i + 3)) hXM hMH (fun z => absurd z.2 (by omega))) km_LA_bound tb_499 tb_500 rfl (by decide +kernel) rfl rfl ⟨by decide, by decide⟩ hK hE hLS hS hbb rfl hl rfl (Nat.le_of_ble_eq_true rfl) d_LA_law_600 hcs (fun k C1 f1 H hx9 hLS hS => ?_)
  have hk3 : k < 3 := by rcases hx9 with ⟨h, -⟩ | ⟨h, -⟩ | ⟨h, -⟩ <;> omega
  refine lv_istore (lv' := [(5, .int (nI k)), (0, .ref bs), (1, .ref (b + 0)), (2, .ref (b + 219 + 0)), (3, .ref (b + 230)), (4, .int (nI i))]) hx hb d_LA_law_603 hl (by decide) rfl (fun ls hl => ?_)
  refine lv_aload_n hx hb d_LA_law_605 rfl (lv_at hl 3 rfl) ?_
  refine lv_aload_n hx hb d_LA_law_606 rfl (lv_at hl 1 rfl) ?_
  refine lv_iload hx hb d_LA_law_607 (lv_at hl 5 rfl) ?_
  refine lv_iconst (v := nI 1) hx hb d_LA_law_609 (by decide) ?_
  refine lv_iadd hx hb d_LA_law_610 ?_
  refine ti (nI (i + 1)) (nI_add _ _) ?_
  refine xl_ld hx hb hXs hbl hS (show i + 1 < L by omega) hL d_LA_law_611 ?_
  refine lv_aload_n hx hb d_LA_law_612 rfl (lv_at hl 1 rfl) ?_
  refine lv_iload hx hb d_LA_law_613 (lv_at hl 5 rfl) ?_
  refine lv_iconst (v := nI 2) hx hb d_LA_law_615 (by decide) ?_
  refine lv_iadd hx hb d_LA_law_616 ?_
  refine ti (nI (i + 2)) (nI_add _ _) ?_
  refine xl_ld hx hb hXs hbl hS (show i + 2 < L by omega) hL d_LA_law_617 ?_
  refine lv_aload_n hx hb d_LA_law_618 rfl (lv_at hl 1 rfl) ?_
  refine lv_iload hx hb d_LA_law_619 (lv_at hl 5 rfl) ?_
  refine lv_iconst (v := nI 3) hx hb d_LA_law_621 (by decide) ?_
  refine lv_iadd hx hb d_LA_law_622 ?_
  refine ti (nI (i + 3)) (nI_add _ _) ?_
  refine xl_ld hx hb hXs hbl hS (show i + 3 < L by omega) hL d_LA_law_623 ?_
  refine xl_mod (n := 3) (As := [.int (xs (i + 1)), .int (xs (i + 2)), .int (xs (i + 3))]) (rest := []) (st0 := _) hx hb hml hown hts (c_MO_bound l D ca (b + 219) _ (xs (i + 1)) (xs (i + 2)) (xs (i + 3)) hMV hMH) km_MO_bound tb_772 tb_773 tb_774 (by decide +kernel) rfl rfl ⟨by decide, by decide⟩ hK hLS hS hbb hMG.at0.choose_spec rfl hl rfl (Nat.le_of_ble_eq_true rfl) d_LA_law_624 hcs (fun r Cm1 H hm9 hLS hS => ?_)
  obtain ⟨hI, w, hre, hw⟩ := ag_bound (bm := b + 219) hXM hMH hZR hx9 hm9
  subst hre
  refine lv_istore (lv' := [(6, .int w), (5, .int (nI k)), (0, .ref bs), (1, .ref (b + 0)), (2, .ref (b + 219 + 0)), (3, .ref (b + 230)), (4, .int (nI i))]) hx hb d_LA_law_627 hl (by decide) rfl (fun ls hl => ?_)
  refine lv_aload_n hx hb d_LA_law_629 rfl (lv_at hl 4 rfl) ?_
  obtain ⟨nd2, nt2, mwt2, mab2, mbe2, on2, ot3, lea2, mos2, hXM2, hMG2, hMH2, hZR2⟩ := hI
  refine xl_mod (n := 0) (As := []) (rest := []) (st0 := _) hx hb hml hown hts (c_MO_thrownG l D ca (b + 219) _ hMG2) km_MO_thrown tb_650 tb_651 tb_652 (by decide +kernel) rfl rfl ⟨by decide, by decide⟩ hK hLS hS hbb hMG2.at0.choose_spec rfl hl rfl (Nat.le_of_ble_eq_true rfl) d_LA_law_630 hcs (fun v Cm2 H hp hLS hS => ?_)
  obtain ⟨rfl, hMG3⟩ := hp
  refine lv_iload hx hb d_LA_law_633 (lv_at hl 1 rfl) ?_
  refine lv_icmp_eq (tgt := 640) hx hb d_LA_law_635 (by decide) (fun _ => ?_) (fun h => absurd rfl h)
  refine lv_iload hx hb d_LA_law_640 (lv_at hl 1 rfl) ?_
  refine xz_ne (tgt := 657) hx hb d_LA_law_642 (by decide) (by omega) (fun hk0 => ?_) (fun hk0 => ?_)
  · refine lv_goto (tgt := 1037) hx hb d_LA_law_657 (by decide) ?_
    exact cont _ _ _ _ _ _ ⟨nd2, nt2, mwt2, mab2, mbe2, on2, ot3, lea2, mos2, hXM2, hMG3, hMH2, hZR2⟩ hLS hS (lv_sub hl [2, 3, 4, 5, 6] rfl)
  · skip
    refine lv_aload_n hx hb d_LA_law_645 rfl (lv_at hl 5 rfl) ?_
    refine lv_iconst (v := nI 0) hx hb d_LA_law_646 (by decide) ?_
    refine xl_out hx hb hK hLS d_LA_law_647 ?_
    rw [hw hk0]
    refine lv_iload hx hb d_LA_law_648 (lv_at hl 0 rfl) ?_
    refine lv_i2l (v := w.toInt64) hx hb d_LA_law_650 rfl ?_
    refine W.lcmp hx hb d_LA_law_651 ?_
    refine lv_if_eq (tgt := 657) hx hb d_LA_law_652 (by decide) (fun _ => ?_) (fun h => absurd (lgs _) h)
    refine lv_goto (tgt := 1037) hx hb d_LA_law_657 (by decide) ?_
    exact cont _ _ _ _ _ _ ⟨nd2, nt2, mwt2, mab2, mbe2, on2, ot3, lea2, mos2, hXM2, hMG3, hMH2, hZR2⟩ hLS hS (lv_sub hl [2, 3, 4, 5, 6] rfl)
set_option maxHeartbeats 4000000 in
set_option maxRecDepth 100000 in
/-- the law's case both -/
theorem law_8 (hC : LX p l s m c bs L xs D ca b) (hi : i + 6 ≤ L) (hI : INV ca b (b + 219) C Cm th) (hLS : LWS D ca b C Cm f H) (hS : nOld s H) (hl : lv_has ls 7 [(0, .ref bs), (1, .ref (b + 0)), (2, .ref (b + 219 + 0)), (3, .ref (b + 230)), (4, .int (nI i))]) (hcs : cells + 8 ≤ 601024 ∧ slots + 48 ≤ 7293034)
    (cont : ∀ (C1 Cm1 : Nat → va_E) (f1 : Nat → Int64) (th1 : Nat) (H1 : Heap) (ls1 : Array Slot), INV ca b (b + 219) C1 Cm1 th1 → LWS D ca b C1 Cm1 f1 H1 → nOld s H1 → lv_has ls1 7 [(0, .ref bs), (1, .ref (b + 0)), (2, .ref (b + 219 + 0)), (3, .ref (b + 230)), (4, .int (nI i))] → W p l e room_1 s m #[Value.ref bs] below meth c H1 [] (cells + 8) (slots + 48) Q (F0 m 1037 ls1 [])) : W p l e room_1 s m #[Value.ref bs] below meth c H [] cells slots Q (F0 m 660 ls []) := by
  obtain ⟨hx, hb, hml, hown, hts, hst, hK, hE, hXs, hbl, hbb, hL⟩ := hC
  obtain ⟨nd, nt, mwt, mab, mbe, on1, ot2, lea, mos, hXM, hMG, hMH, hZR⟩ := hI
  obtain ⟨fs9, ls9, cn9, lf9, mb9, yrs, bv, hMV⟩ := id hMG
  refine lv_aload_n hx hb d_LA_law_660 rfl (lv_at hl 1 rfl) ?_
  refine lv_aload_n hx hb d_LA_law_661 rfl (lv_at hl 0 rfl) ?_
  refine lv_iload hx hb d_LA_law_662 (lv_at hl 4 rfl) ?_
  refine lv_iconst (v := nI 1) hx hb d_LA_law_664 (by decide) ?_
  refine lv_iadd hx hb d_LA_law_665 ?_
  refine ti (nI (i + 1)) (nI_add _ _) ?_
  refine xl_ld hx hb hXs hbl hS (show i + 1 < L by omega) hL d_LA_law_666 ?_
  refine lv_aload_n hx hb d_LA_law_667 rfl (lv_at hl 0 rfl) ?_
  refine lv_iload hx hb d_LA_law_668 (lv_at hl 4 rfl) ?_
  refine lv_iconst (v := nI 2) hx hb d_LA_law_670 (by decide) ?_
  refine lv_iadd hx hb d_LA_law_671 ?_
  refine ti (nI (i + 2)) (nI_add _ _) ?_
  refine xl_ld hx hb hXs hbl hS (show i + 2 < L by omega) hL d_LA_law_672 ?_
  refine lv_aload_n hx hb d_LA_law_673 rfl (lv_at hl 0 rfl) ?_
  refine lv_iload hx hb d_LA_law_674 (lv_at hl 4 rfl) ?_
  refine lv_iconst (v := nI 3) hx hb d_LA_law_676 (by decide) ?_
  refine lv_iadd hx hb d_LA_law_677 ?_
  refine ti (nI (i + 3)) (nI_add _ _) ?_
  refine xl_ld hx hb hXs hbl hS (show i + 3 < L by omega) hL d_LA_law_678 ?_
  refine lv_aload_n hx hb d_LA_law_679 rfl (lv_at hl 0 rfl) ?_
  refine lv_iload hx hb d_LA_law_680 (lv_at hl 4 rfl) ?_
  refine lv_iconst (v := nI 4) hx hb d_LA_law_682 (by decide) ?_
  refine lv_iadd hx hb d_LA_law_683 ?_
  refine ti (nI (i + 4)) (nI_add _ _) ?_
  refine xl_ld hx hb hXs hbl hS (show i + 4 < L by omega) hL d_LA_law_684 ?_
  refine lv_aload_n hx hb d_LA_law_685 rfl (lv_at hl 0 rfl) ?_
  refine lv_iload hx hb d_LA_law_686 (lv_at hl 4 rfl) ?_
  refine lv_iconst (v := nI 5) hx hb d_LA_law_688 (by decide) ?_
  refine lv_iadd hx hb d_LA_law_689 ?_
  refine ti (nI (i + 5)) (nI_add _ _) ?_
  refine xl_ld hx hb hXs hbl hS (show i + 5 < L by omega) hL d_LA_law_690 ?_
  refine lv_aload_n hx hb d_LA_law_691 rfl (lv_at hl 3 rfl) ?_
  refine xl_help (n := 7) (As := [.ref (b + 0), .int (xs (i + 1)), .int (xs (i + 2)), .int (xs (i + 3)), .int (xs (i + 4)), .int (xs (i + 5)), .ref (b + 230)]) (rest := []) (st0 := _) hx hb hml hown hts (c_LA_both l hst D ca b (b + 230) _ _ (xs (i + 1)) (xs (i + 2)) (xs (i + 3)) (xs (i + 4)) (xs (i + 5)) hXM hMH (fun z => absurd z.2 (by omega))) km_LA_both tb_519 tb_520 rfl (by decide +kernel) rfl rfl ⟨by decide, by decide⟩ hK hE hLS hS hbb rfl hl rfl (Nat.le_of_ble_eq_true rfl) d_LA_law_692 hcs (fun k C1 f1 H hx9 hLS hS => ?_)
  have hk3 : k < 3 := by rcases hx9 with ⟨h, -⟩ | ⟨h, -⟩ <;> omega
  refine lv_istore (lv' := [(5, .int (nI k)), (0, .ref bs), (1, .ref (b + 0)), (2, .ref (b + 219 + 0)), (3, .ref (b + 230)), (4, .int (nI i))]) hx hb d_LA_law_695 hl (by decide) rfl (fun ls hl => ?_)
  refine lv_aload_n hx hb d_LA_law_697 rfl (lv_at hl 3 rfl) ?_
  refine lv_aload_n hx hb d_LA_law_698 rfl (lv_at hl 1 rfl) ?_
  refine lv_iload hx hb d_LA_law_699 (lv_at hl 5 rfl) ?_
  refine lv_iconst (v := nI 1) hx hb d_LA_law_701 (by decide) ?_
  refine lv_iadd hx hb d_LA_law_702 ?_
  refine ti (nI (i + 1)) (nI_add _ _) ?_
  refine xl_ld hx hb hXs hbl hS (show i + 1 < L by omega) hL d_LA_law_703 ?_
  refine lv_aload_n hx hb d_LA_law_704 rfl (lv_at hl 1 rfl) ?_
  refine lv_iload hx hb d_LA_law_705 (lv_at hl 5 rfl) ?_
  refine lv_iconst (v := nI 2) hx hb d_LA_law_707 (by decide) ?_
  refine lv_iadd hx hb d_LA_law_708 ?_
  refine ti (nI (i + 2)) (nI_add _ _) ?_
  refine xl_ld hx hb hXs hbl hS (show i + 2 < L by omega) hL d_LA_law_709 ?_
  refine lv_aload_n hx hb d_LA_law_710 rfl (lv_at hl 1 rfl) ?_
  refine lv_iload hx hb d_LA_law_711 (lv_at hl 5 rfl) ?_
  refine lv_iconst (v := nI 3) hx hb d_LA_law_713 (by decide) ?_
  refine lv_iadd hx hb d_LA_law_714 ?_
  refine ti (nI (i + 3)) (nI_add _ _) ?_
  refine xl_ld hx hb hXs hbl hS (show i + 3 < L by omega) hL d_LA_law_715 ?_
  refine lv_aload_n hx hb d_LA_law_716 rfl (lv_at hl 1 rfl) ?_
  refine lv_iload hx hb d_LA_law_717 (lv_at hl 5 rfl) ?_
  refine lv_iconst (v := nI 4) hx hb d_LA_law_719 (by decide) ?_
  refine lv_iadd hx hb d_LA_law_720 ?_
  refine ti (nI (i + 4)) (nI_add _ _) ?_
  refine xl_ld hx hb hXs hbl hS (show i + 4 < L by omega) hL d_LA_law_721 ?_
  refine lv_aload_n hx hb d_LA_law_722 rfl (lv_at hl 1 rfl) ?_
  refine lv_iload hx hb d_LA_law_723 (lv_at hl 5 rfl) ?_
  refine lv_iconst (v := nI 5) hx hb d_LA_law_725 (by decide) ?_
  refine lv_iadd hx hb d_LA_law_726 ?_
  refine ti (nI (i + 5)) (nI_add _ _) ?_
  refine xl_ld hx hb hXs hbl hS (show i + 5 < L by omega) hL d_LA_law_727 ?_
  refine xl_mod (n := 5) (As := [.int (xs (i + 1)), .int (xs (i + 2)), .int (xs (i + 3)), .int (xs (i + 4)), .int (xs (i + 5))]) (rest := []) (st0 := _) hx hb hml hown hts (c_MO_both l D ca (b + 219) _ (xs (i + 1)) (xs (i + 2)) (xs (i + 3)) (xs (i + 4)) (xs (i + 5)) hMV hMH) km_MO_both tb_780 tb_781 tb_782 (by decide +kernel) rfl rfl ⟨by decide, by decide⟩ hK hLS hS hbb hMG.at0.choose_spec rfl hl rfl (Nat.le_of_ble_eq_true rfl) d_LA_law_728 hcs (fun r Cm1 H hm9 hLS hS => ?_)
  obtain ⟨hI, w, hre, hw⟩ := ag_both (bm := b + 219) hXM hMH hZR hx9 hm9
  subst hre
  refine lv_istore (lv' := [(6, .int w), (5, .int (nI k)), (0, .ref bs), (1, .ref (b + 0)), (2, .ref (b + 219 + 0)), (3, .ref (b + 230)), (4, .int (nI i))]) hx hb d_LA_law_731 hl (by decide) rfl (fun ls hl => ?_)
  refine lv_aload_n hx hb d_LA_law_733 rfl (lv_at hl 4 rfl) ?_
  obtain ⟨nd2, nt2, mwt2, mab2, mbe2, on2, ot3, lea2, mos2, hXM2, hMG2, hMH2, hZR2⟩ := hI
  refine xl_mod (n := 0) (As := []) (rest := []) (st0 := _) hx hb hml hown hts (c_MO_thrownG l D ca (b + 219) _ hMG2) km_MO_thrown tb_650 tb_651 tb_652 (by decide +kernel) rfl rfl ⟨by decide, by decide⟩ hK hLS hS hbb hMG2.at0.choose_spec rfl hl rfl (Nat.le_of_ble_eq_true rfl) d_LA_law_734 hcs (fun v Cm2 H hp hLS hS => ?_)
  obtain ⟨rfl, hMG3⟩ := hp
  refine lv_iload hx hb d_LA_law_737 (lv_at hl 1 rfl) ?_
  refine lv_icmp_eq (tgt := 744) hx hb d_LA_law_739 (by decide) (fun _ => ?_) (fun h => absurd rfl h)
  refine lv_iload hx hb d_LA_law_744 (lv_at hl 1 rfl) ?_
  refine xz_ne (tgt := 761) hx hb d_LA_law_746 (by decide) (by omega) (fun hk0 => ?_) (fun hk0 => ?_)
  · refine lv_goto (tgt := 1037) hx hb d_LA_law_761 (by decide) ?_
    exact cont _ _ _ _ _ _ ⟨nd2, nt2, mwt2, mab2, mbe2, on2, ot3, lea2, mos2, hXM2, hMG3, hMH2, hZR2⟩ hLS hS (lv_sub hl [2, 3, 4, 5, 6] rfl)
  · skip
    refine lv_aload_n hx hb d_LA_law_749 rfl (lv_at hl 5 rfl) ?_
    refine lv_iconst (v := nI 0) hx hb d_LA_law_750 (by decide) ?_
    refine xl_out hx hb hK hLS d_LA_law_751 ?_
    rw [hw hk0]
    refine lv_iload hx hb d_LA_law_752 (lv_at hl 0 rfl) ?_
    refine lv_i2l (v := w.toInt64) hx hb d_LA_law_754 rfl ?_
    refine W.lcmp hx hb d_LA_law_755 ?_
    refine lv_if_eq (tgt := 761) hx hb d_LA_law_756 (by decide) (fun _ => ?_) (fun h => absurd (lgs _) h)
    refine lv_goto (tgt := 1037) hx hb d_LA_law_761 (by decide) ?_
    exact cont _ _ _ _ _ _ ⟨nd2, nt2, mwt2, mab2, mbe2, on2, ot3, lea2, mos2, hXM2, hMG3, hMH2, hZR2⟩ hLS hS (lv_sub hl [2, 3, 4, 5, 6] rfl)
set_option maxHeartbeats 4000000 in
set_option maxRecDepth 100000 in
/-- the law's case span -/
theorem law_9 (hC : LX p l s m c bs L xs D ca b) (hi : i + 6 ≤ L) (hI : INV ca b (b + 219) C Cm th) (hLS : LWS D ca b C Cm f H) (hS : nOld s H) (hl : lv_has ls 7 [(0, .ref bs), (1, .ref (b + 0)), (2, .ref (b + 219 + 0)), (3, .ref (b + 230)), (4, .int (nI i))]) (hcs : cells + 8 ≤ 601024 ∧ slots + 48 ≤ 7293034)
    (cont : ∀ (C1 Cm1 : Nat → va_E) (f1 : Nat → Int64) (th1 : Nat) (H1 : Heap) (ls1 : Array Slot), INV ca b (b + 219) C1 Cm1 th1 → LWS D ca b C1 Cm1 f1 H1 → nOld s H1 → lv_has ls1 7 [(0, .ref bs), (1, .ref (b + 0)), (2, .ref (b + 219 + 0)), (3, .ref (b + 230)), (4, .int (nI i))] → W p l e room_1 s m #[Value.ref bs] below meth c H1 [] (cells + 8) (slots + 48) Q (F0 m 1037 ls1 [])) : W p l e room_1 s m #[Value.ref bs] below meth c H [] cells slots Q (F0 m 764 ls []) := by
  obtain ⟨hx, hb, hml, hown, hts, hst, hK, hE, hXs, hbl, hbb, hL⟩ := hC
  obtain ⟨nd, nt, mwt, mab, mbe, on1, ot2, lea, mos, hXM, hMG, hMH, hZR⟩ := hI
  obtain ⟨fs9, ls9, cn9, lf9, mb9, yrs, bv, hMV⟩ := id hMG
  refine lv_aload_n hx hb d_LA_law_764 rfl (lv_at hl 1 rfl) ?_
  refine lv_aload_n hx hb d_LA_law_765 rfl (lv_at hl 0 rfl) ?_
  refine lv_iload hx hb d_LA_law_766 (lv_at hl 4 rfl) ?_
  refine lv_iconst (v := nI 1) hx hb d_LA_law_768 (by decide) ?_
  refine lv_iadd hx hb d_LA_law_769 ?_
  refine ti (nI (i + 1)) (nI_add _ _) ?_
  refine xl_ld hx hb hXs hbl hS (show i + 1 < L by omega) hL d_LA_law_770 ?_
  refine lv_aload_n hx hb d_LA_law_771 rfl (lv_at hl 0 rfl) ?_
  refine lv_iload hx hb d_LA_law_772 (lv_at hl 4 rfl) ?_
  refine lv_iconst (v := nI 2) hx hb d_LA_law_774 (by decide) ?_
  refine lv_iadd hx hb d_LA_law_775 ?_
  refine ti (nI (i + 2)) (nI_add _ _) ?_
  refine xl_ld hx hb hXs hbl hS (show i + 2 < L by omega) hL d_LA_law_776 ?_
  refine lv_aload_n hx hb d_LA_law_777 rfl (lv_at hl 3 rfl) ?_
  refine xl_help (n := 4) (As := [.ref (b + 0), .int (xs (i + 1)), .int (xs (i + 2)), .ref (b + 230)]) (rest := []) (st0 := _) hx hb hml hown hts (c_LA_span l hst D ca b (b + 230) _ _ (xs (i + 1)) (xs (i + 2)) hXM hMH (fun z => absurd z.2 (by omega))) km_LA_span tb_530 tb_531 rfl (by decide +kernel) rfl rfl ⟨by decide, by decide⟩ hK hE hLS hS hbb rfl hl rfl (Nat.le_of_ble_eq_true rfl) d_LA_law_778 hcs (fun k C1 f1 H hx9 hLS hS => ?_)
  have hk3 : k < 3 := by rcases hx9 with ⟨h, -⟩ | ⟨h, -⟩ <;> omega
  refine lv_istore (lv' := [(5, .int (nI k)), (0, .ref bs), (1, .ref (b + 0)), (2, .ref (b + 219 + 0)), (3, .ref (b + 230)), (4, .int (nI i))]) hx hb d_LA_law_781 hl (by decide) rfl (fun ls hl => ?_)
  refine lv_aload_n hx hb d_LA_law_783 rfl (lv_at hl 3 rfl) ?_
  refine lv_aload_n hx hb d_LA_law_784 rfl (lv_at hl 1 rfl) ?_
  refine lv_iload hx hb d_LA_law_785 (lv_at hl 5 rfl) ?_
  refine lv_iconst (v := nI 1) hx hb d_LA_law_787 (by decide) ?_
  refine lv_iadd hx hb d_LA_law_788 ?_
  refine ti (nI (i + 1)) (nI_add _ _) ?_
  refine xl_ld hx hb hXs hbl hS (show i + 1 < L by omega) hL d_LA_law_789 ?_
  refine lv_aload_n hx hb d_LA_law_790 rfl (lv_at hl 1 rfl) ?_
  refine lv_iload hx hb d_LA_law_791 (lv_at hl 5 rfl) ?_
  refine lv_iconst (v := nI 2) hx hb d_LA_law_793 (by decide) ?_
  refine lv_iadd hx hb d_LA_law_794 ?_
  refine ti (nI (i + 2)) (nI_add _ _) ?_
  refine xl_ld hx hb hXs hbl hS (show i + 2 < L by omega) hL d_LA_law_795 ?_
  refine xl_mod (n := 2) (As := [.int (xs (i + 1)), .int (xs (i + 2))]) (rest := []) (st0 := _) hx hb hml hown hts (c_MO_span l D ca (b + 219) _ (xs (i + 1)) (xs (i + 2)) hMV hMH) km_MO_span tb_784 tb_785 tb_786 (by decide +kernel) rfl rfl ⟨by decide, by decide⟩ hK hLS hS hbb hMG.at0.choose_spec rfl hl rfl (Nat.le_of_ble_eq_true rfl) d_LA_law_796 hcs (fun r Cm1 H hm9 hLS hS => ?_)
  obtain ⟨hI, w, hre, hw⟩ := ag_span (bm := b + 219) hXM hMH hZR hx9 hm9
  subst hre
  refine lv_istore (lv' := [(6, .int w), (5, .int (nI k)), (0, .ref bs), (1, .ref (b + 0)), (2, .ref (b + 219 + 0)), (3, .ref (b + 230)), (4, .int (nI i))]) hx hb d_LA_law_799 hl (by decide) rfl (fun ls hl => ?_)
  refine lv_aload_n hx hb d_LA_law_801 rfl (lv_at hl 4 rfl) ?_
  obtain ⟨nd2, nt2, mwt2, mab2, mbe2, on2, ot3, lea2, mos2, hXM2, hMG2, hMH2, hZR2⟩ := hI
  refine xl_mod (n := 0) (As := []) (rest := []) (st0 := _) hx hb hml hown hts (c_MO_thrownG l D ca (b + 219) _ hMG2) km_MO_thrown tb_650 tb_651 tb_652 (by decide +kernel) rfl rfl ⟨by decide, by decide⟩ hK hLS hS hbb hMG2.at0.choose_spec rfl hl rfl (Nat.le_of_ble_eq_true rfl) d_LA_law_802 hcs (fun v Cm2 H hp hLS hS => ?_)
  obtain ⟨rfl, hMG3⟩ := hp
  refine lv_iload hx hb d_LA_law_805 (lv_at hl 1 rfl) ?_
  refine lv_icmp_eq (tgt := 812) hx hb d_LA_law_807 (by decide) (fun _ => ?_) (fun h => absurd rfl h)
  refine lv_iload hx hb d_LA_law_812 (lv_at hl 1 rfl) ?_
  refine xz_ne (tgt := 829) hx hb d_LA_law_814 (by decide) (by omega) (fun hk0 => ?_) (fun hk0 => ?_)
  · refine lv_goto (tgt := 1037) hx hb d_LA_law_829 (by decide) ?_
    exact cont _ _ _ _ _ _ ⟨nd2, nt2, mwt2, mab2, mbe2, on2, ot3, lea2, mos2, hXM2, hMG3, hMH2, hZR2⟩ hLS hS (lv_sub hl [2, 3, 4, 5, 6] rfl)
  · skip
    refine lv_aload_n hx hb d_LA_law_817 rfl (lv_at hl 5 rfl) ?_
    refine lv_iconst (v := nI 0) hx hb d_LA_law_818 (by decide) ?_
    refine xl_out hx hb hK hLS d_LA_law_819 ?_
    rw [hw hk0]
    refine lv_iload hx hb d_LA_law_820 (lv_at hl 0 rfl) ?_
    refine lv_i2l (v := w.toInt64) hx hb d_LA_law_822 rfl ?_
    refine W.lcmp hx hb d_LA_law_823 ?_
    refine lv_if_eq (tgt := 829) hx hb d_LA_law_824 (by decide) (fun _ => ?_) (fun h => absurd (lgs _) h)
    refine lv_goto (tgt := 1037) hx hb d_LA_law_829 (by decide) ?_
    exact cont _ _ _ _ _ _ ⟨nd2, nt2, mwt2, mab2, mbe2, on2, ot3, lea2, mos2, hXM2, hMG3, hMH2, hZR2⟩ hLS hS (lv_sub hl [2, 3, 4, 5, 6] rfl)
set_option maxHeartbeats 4000000 in
set_option maxRecDepth 100000 in
/-- the law's case narrow -/
theorem law_10 (hC : LX p l s m c bs L xs D ca b) (hi : i + 6 ≤ L) (hI : INV ca b (b + 219) C Cm th) (hLS : LWS D ca b C Cm f H) (hS : nOld s H) (hl : lv_has ls 7 [(0, .ref bs), (1, .ref (b + 0)), (2, .ref (b + 219 + 0)), (3, .ref (b + 230)), (4, .int (nI i))]) (hcs : cells + 8 ≤ 601024 ∧ slots + 48 ≤ 7293034)
    (cont : ∀ (C1 Cm1 : Nat → va_E) (f1 : Nat → Int64) (th1 : Nat) (H1 : Heap) (ls1 : Array Slot), INV ca b (b + 219) C1 Cm1 th1 → LWS D ca b C1 Cm1 f1 H1 → nOld s H1 → lv_has ls1 7 [(0, .ref bs), (1, .ref (b + 0)), (2, .ref (b + 219 + 0)), (3, .ref (b + 230)), (4, .int (nI i))] → W p l e room_1 s m #[Value.ref bs] below meth c H1 [] (cells + 8) (slots + 48) Q (F0 m 1037 ls1 [])) : W p l e room_1 s m #[Value.ref bs] below meth c H [] cells slots Q (F0 m 832 ls []) := by
  obtain ⟨hx, hb, hml, hown, hts, hst, hK, hE, hXs, hbl, hbb, hL⟩ := hC
  obtain ⟨nd, nt, mwt, mab, mbe, on1, ot2, lea, mos, hXM, hMG, hMH, hZR⟩ := hI
  obtain ⟨fs9, ls9, cn9, lf9, mb9, yrs, bv, hMV⟩ := id hMG
  refine lv_aload_n hx hb d_LA_law_832 rfl (lv_at hl 1 rfl) ?_
  refine lv_aload_n hx hb d_LA_law_833 rfl (lv_at hl 0 rfl) ?_
  refine lv_iload hx hb d_LA_law_834 (lv_at hl 4 rfl) ?_
  refine lv_iconst (v := nI 1) hx hb d_LA_law_836 (by decide) ?_
  refine lv_iadd hx hb d_LA_law_837 ?_
  refine ti (nI (i + 1)) (nI_add _ _) ?_
  refine xl_ld hx hb hXs hbl hS (show i + 1 < L by omega) hL d_LA_law_838 ?_
  refine lv_aload_n hx hb d_LA_law_839 rfl (lv_at hl 0 rfl) ?_
  refine lv_iload hx hb d_LA_law_840 (lv_at hl 4 rfl) ?_
  refine lv_iconst (v := nI 2) hx hb d_LA_law_842 (by decide) ?_
  refine lv_iadd hx hb d_LA_law_843 ?_
  refine ti (nI (i + 2)) (nI_add _ _) ?_
  refine xl_ld hx hb hXs hbl hS (show i + 2 < L by omega) hL d_LA_law_844 ?_
  refine lv_aload_n hx hb d_LA_law_845 rfl (lv_at hl 0 rfl) ?_
  refine lv_iload hx hb d_LA_law_846 (lv_at hl 4 rfl) ?_
  refine lv_iconst (v := nI 3) hx hb d_LA_law_848 (by decide) ?_
  refine lv_iadd hx hb d_LA_law_849 ?_
  refine ti (nI (i + 3)) (nI_add _ _) ?_
  refine xl_ld hx hb hXs hbl hS (show i + 3 < L by omega) hL d_LA_law_850 ?_
  refine lv_aload_n hx hb d_LA_law_851 rfl (lv_at hl 3 rfl) ?_
  refine xl_help (n := 5) (As := [.ref (b + 0), .int (xs (i + 1)), .int (xs (i + 2)), .int (xs (i + 3)), .ref (b + 230)]) (rest := []) (st0 := _) hx hb hml hown hts (c_LA_narrow l hst D ca b (b + 230) _ _ (xs (i + 1)) (xs (i + 2)) (xs (i + 3)) hXM hMH (fun z => absurd z.2 (by omega))) km_LA_narrow tb_537 tb_538 rfl (by decide +kernel) rfl rfl ⟨by decide, by decide⟩ hK hE hLS hS hbb rfl hl rfl (Nat.le_of_ble_eq_true rfl) d_LA_law_852 hcs (fun k C1 f1 H hx9 hLS hS => ?_)
  have hk3 : k < 3 := by rcases hx9 with ⟨h, -⟩ | ⟨h, -⟩ | ⟨h, -⟩ <;> omega
  refine lv_istore (lv' := [(5, .int (nI k)), (0, .ref bs), (1, .ref (b + 0)), (2, .ref (b + 219 + 0)), (3, .ref (b + 230)), (4, .int (nI i))]) hx hb d_LA_law_855 hl (by decide) rfl (fun ls hl => ?_)
  refine lv_aload_n hx hb d_LA_law_857 rfl (lv_at hl 3 rfl) ?_
  refine lv_aload_n hx hb d_LA_law_858 rfl (lv_at hl 1 rfl) ?_
  refine lv_iload hx hb d_LA_law_859 (lv_at hl 5 rfl) ?_
  refine lv_iconst (v := nI 1) hx hb d_LA_law_861 (by decide) ?_
  refine lv_iadd hx hb d_LA_law_862 ?_
  refine ti (nI (i + 1)) (nI_add _ _) ?_
  refine xl_ld hx hb hXs hbl hS (show i + 1 < L by omega) hL d_LA_law_863 ?_
  refine lv_aload_n hx hb d_LA_law_864 rfl (lv_at hl 1 rfl) ?_
  refine lv_iload hx hb d_LA_law_865 (lv_at hl 5 rfl) ?_
  refine lv_iconst (v := nI 2) hx hb d_LA_law_867 (by decide) ?_
  refine lv_iadd hx hb d_LA_law_868 ?_
  refine ti (nI (i + 2)) (nI_add _ _) ?_
  refine xl_ld hx hb hXs hbl hS (show i + 2 < L by omega) hL d_LA_law_869 ?_
  refine lv_aload_n hx hb d_LA_law_870 rfl (lv_at hl 1 rfl) ?_
  refine lv_iload hx hb d_LA_law_871 (lv_at hl 5 rfl) ?_
  refine lv_iconst (v := nI 3) hx hb d_LA_law_873 (by decide) ?_
  refine lv_iadd hx hb d_LA_law_874 ?_
  refine ti (nI (i + 3)) (nI_add _ _) ?_
  refine xl_ld hx hb hXs hbl hS (show i + 3 < L by omega) hL d_LA_law_875 ?_
  refine xl_mod (n := 3) (As := [.int (xs (i + 1)), .int (xs (i + 2)), .int (xs (i + 3))]) (rest := []) (st0 := _) hx hb hml hown hts (c_MO_narrow l D ca (b + 219) _ (xs (i + 1)) (xs (i + 2)) (xs (i + 3)) hMV hMH) km_MO_narrow tb_792 tb_793 tb_794 (by decide +kernel) rfl rfl ⟨by decide, by decide⟩ hK hLS hS hbb hMG.at0.choose_spec rfl hl rfl (Nat.le_of_ble_eq_true rfl) d_LA_law_876 hcs (fun r Cm1 H hm9 hLS hS => ?_)
  obtain ⟨hI, w, hre, hw⟩ := ag_narrow (bm := b + 219) hXM hMH hZR hx9 hm9
  subst hre
  refine lv_istore (lv' := [(6, .int w), (5, .int (nI k)), (0, .ref bs), (1, .ref (b + 0)), (2, .ref (b + 219 + 0)), (3, .ref (b + 230)), (4, .int (nI i))]) hx hb d_LA_law_879 hl (by decide) rfl (fun ls hl => ?_)
  refine lv_aload_n hx hb d_LA_law_881 rfl (lv_at hl 4 rfl) ?_
  obtain ⟨nd2, nt2, mwt2, mab2, mbe2, on2, ot3, lea2, mos2, hXM2, hMG2, hMH2, hZR2⟩ := hI
  refine xl_mod (n := 0) (As := []) (rest := []) (st0 := _) hx hb hml hown hts (c_MO_thrownG l D ca (b + 219) _ hMG2) km_MO_thrown tb_650 tb_651 tb_652 (by decide +kernel) rfl rfl ⟨by decide, by decide⟩ hK hLS hS hbb hMG2.at0.choose_spec rfl hl rfl (Nat.le_of_ble_eq_true rfl) d_LA_law_882 hcs (fun v Cm2 H hp hLS hS => ?_)
  obtain ⟨rfl, hMG3⟩ := hp
  refine lv_iload hx hb d_LA_law_885 (lv_at hl 1 rfl) ?_
  refine lv_icmp_eq (tgt := 892) hx hb d_LA_law_887 (by decide) (fun _ => ?_) (fun h => absurd rfl h)
  refine lv_iload hx hb d_LA_law_892 (lv_at hl 1 rfl) ?_
  refine xz_ne (tgt := 909) hx hb d_LA_law_894 (by decide) (by omega) (fun hk0 => ?_) (fun hk0 => ?_)
  · refine lv_goto (tgt := 1037) hx hb d_LA_law_909 (by decide) ?_
    exact cont _ _ _ _ _ _ ⟨nd2, nt2, mwt2, mab2, mbe2, on2, ot3, lea2, mos2, hXM2, hMG3, hMH2, hZR2⟩ hLS hS (lv_sub hl [2, 3, 4, 5, 6] rfl)
  · skip
    refine lv_aload_n hx hb d_LA_law_897 rfl (lv_at hl 5 rfl) ?_
    refine lv_iconst (v := nI 0) hx hb d_LA_law_898 (by decide) ?_
    refine xl_out hx hb hK hLS d_LA_law_899 ?_
    rw [hw hk0]
    refine lv_iload hx hb d_LA_law_900 (lv_at hl 0 rfl) ?_
    refine lv_i2l (v := w.toInt64) hx hb d_LA_law_902 rfl ?_
    refine W.lcmp hx hb d_LA_law_903 ?_
    refine lv_if_eq (tgt := 909) hx hb d_LA_law_904 (by decide) (fun _ => ?_) (fun h => absurd (lgs _) h)
    refine lv_goto (tgt := 1037) hx hb d_LA_law_909 (by decide) ?_
    exact cont _ _ _ _ _ _ ⟨nd2, nt2, mwt2, mab2, mbe2, on2, ot3, lea2, mos2, hXM2, hMG3, hMH2, hZR2⟩ hLS hS (lv_sub hl [2, 3, 4, 5, 6] rfl)
set_option maxHeartbeats 4000000 in
set_option maxRecDepth 100000 in
/-- the law's case fits -/
theorem law_11 (hC : LX p l s m c bs L xs D ca b) (hi : i + 6 ≤ L) (hI : INV ca b (b + 219) C Cm th) (hLS : LWS D ca b C Cm f H) (hS : nOld s H) (hl : lv_has ls 7 [(0, .ref bs), (1, .ref (b + 0)), (2, .ref (b + 219 + 0)), (3, .ref (b + 230)), (4, .int (nI i))]) (hcs : cells + 8 ≤ 601024 ∧ slots + 48 ≤ 7293034)
    (cont : ∀ (C1 Cm1 : Nat → va_E) (f1 : Nat → Int64) (th1 : Nat) (H1 : Heap) (ls1 : Array Slot), INV ca b (b + 219) C1 Cm1 th1 → LWS D ca b C1 Cm1 f1 H1 → nOld s H1 → lv_has ls1 7 [(0, .ref bs), (1, .ref (b + 0)), (2, .ref (b + 219 + 0)), (3, .ref (b + 230)), (4, .int (nI i))] → W p l e room_1 s m #[Value.ref bs] below meth c H1 [] (cells + 8) (slots + 48) Q (F0 m 1037 ls1 [])) : W p l e room_1 s m #[Value.ref bs] below meth c H [] cells slots Q (F0 m 912 ls []) := by
  obtain ⟨hx, hb, hml, hown, hts, hst, hK, hE, hXs, hbl, hbb, hL⟩ := hC
  obtain ⟨nd, nt, mwt, mab, mbe, on1, ot2, lea, mos, hXM, hMG, hMH, hZR⟩ := hI
  obtain ⟨fs9, ls9, cn9, lf9, mb9, yrs, bv, hMV⟩ := id hMG
  refine lv_aload_n hx hb d_LA_law_912 rfl (lv_at hl 1 rfl) ?_
  obtain ⟨wt, ab, be, fr, tt, le, mo, nf, tr, nm, fy, fb, kq, im, hm, S, I, P, pt, ap, fa, wh, st, hX, hR, hnf, hfy0, hfb0⟩ := id hXM
  refine xl_own (n := 0) (As := []) (rest := []) (st0 := _) hx hb hml hown hts (c_OP_fits l D ca b _ hX hMH hR hnf hfy0 hfb0) km_OP_fits tb_165 tb_166 tb_167 (by decide +kernel) rfl rfl ⟨by decide, by decide⟩ hK hLS hS hbb hXM.at0.choose_spec rfl hl rfl (Nat.le_of_ble_eq_true rfl) d_LA_law_913 ⟨by show _ ≤ 601024; omega, by show _ ≤ 7293034; omega⟩ (fun v C1 H hp hLS hS => ?_)
  obtain ⟨z, rfl, hz, hXM1⟩ := hp
  refine lv_aload_n hx hb d_LA_law_916 rfl (lv_at hl 2 rfl) ?_
  refine xl_mod (n := 0) (As := []) (rest := [.int (nI z.toNat)]) (st0 := _) hx hb hml hown hts (c_MO_fits l D ca (b + 219) _  hMV hMH) km_MO_fits tb_800 tb_801 tb_802 (by decide +kernel) rfl rfl ⟨by decide, by decide⟩ hK hLS hS hbb hMG.at0.choose_spec rfl hl rfl (Nat.le_of_ble_eq_true rfl) d_LA_law_917 ⟨by show _ ≤ 601024; omega, by show _ ≤ 7293034; omega⟩ (fun r Cm1 H hm9 hLS hS => ?_)
  obtain ⟨z1, rfl, hz1, hMG1⟩ := hm9
  have hzz : z = z1 := Bool.eq_iff_iff.mpr (hz.trans (by rw [hz1, mSum_o hMH.D.1]))
  refine lv_icmp_eq (tgt := 1037) hx hb d_LA_law_920 (by decide) (fun _ => ?_) (fun h => absurd (by rw [hzz]) h)
  refine W.widen (k := cells + 8) (n := slots + 48) (by omega) (by omega) ?_
  exact cont _ _ _ _ _ _ ⟨nd, nt, mwt, mab, mbe, on1, ot2, lea, mos, hXM1, hMG1, hMH, hZR⟩ hLS hS hl
set_option maxHeartbeats 4000000 in
set_option maxRecDepth 100000 in
/-- the law's case fitless -/
theorem law_12 (hC : LX p l s m c bs L xs D ca b) (hi : i + 6 ≤ L) (hI : INV ca b (b + 219) C Cm th) (hLS : LWS D ca b C Cm f H) (hS : nOld s H) (hl : lv_has ls 7 [(0, .ref bs), (1, .ref (b + 0)), (2, .ref (b + 219 + 0)), (3, .ref (b + 230)), (4, .int (nI i))]) (hcs : cells + 8 ≤ 601024 ∧ slots + 48 ≤ 7293034)
    (cont : ∀ (C1 Cm1 : Nat → va_E) (f1 : Nat → Int64) (th1 : Nat) (H1 : Heap) (ls1 : Array Slot), INV ca b (b + 219) C1 Cm1 th1 → LWS D ca b C1 Cm1 f1 H1 → nOld s H1 → lv_has ls1 7 [(0, .ref bs), (1, .ref (b + 0)), (2, .ref (b + 219 + 0)), (3, .ref (b + 230)), (4, .int (nI i))] → W p l e room_1 s m #[Value.ref bs] below meth c H1 [] (cells + 8) (slots + 48) Q (F0 m 1037 ls1 [])) : W p l e room_1 s m #[Value.ref bs] below meth c H [] cells slots Q (F0 m 925 ls []) := by
  obtain ⟨hx, hb, hml, hown, hts, hst, hK, hE, hXs, hbl, hbb, hL⟩ := hC
  obtain ⟨nd, nt, mwt, mab, mbe, on1, ot2, lea, mos, hXM, hMG, hMH, hZR⟩ := hI
  obtain ⟨fs9, ls9, cn9, lf9, mb9, yrs, bv, hMV⟩ := id hMG
  refine lv_aload_n hx hb d_LA_law_925 rfl (lv_at hl 1 rfl) ?_
  refine lv_aload_n hx hb d_LA_law_926 rfl (lv_at hl 0 rfl) ?_
  refine lv_iload hx hb d_LA_law_927 (lv_at hl 4 rfl) ?_
  refine lv_iconst (v := nI 1) hx hb d_LA_law_929 (by decide) ?_
  refine lv_iadd hx hb d_LA_law_930 ?_
  refine ti (nI (i + 1)) (nI_add _ _) ?_
  refine xl_ld hx hb hXs hbl hS (show i + 1 < L by omega) hL d_LA_law_931 ?_
  refine lv_aload_n hx hb d_LA_law_932 rfl (lv_at hl 3 rfl) ?_
  refine xl_help (n := 3) (As := [.ref (b + 0), .int (xs (i + 1)), .ref (b + 230)]) (rest := []) (st0 := _) hx hb hml hown hts (c_LA_fitless l hst D ca b (b + 230) _ _ (xs (i + 1)) hXM hMH (fun z => absurd z.2 (by omega))) km_LA_fitless tb_560 tb_561 rfl (by decide +kernel) rfl rfl ⟨by decide, by decide⟩ hK hE hLS hS hbb rfl hl rfl (Nat.le_of_ble_eq_true rfl) d_LA_law_933 hcs (fun k C1 f1 H hx9 hLS hS => ?_)
  have hk3 : k < 3 := by rcases hx9 with ⟨h, -⟩ | ⟨h, -⟩ <;> omega
  refine lv_istore (lv' := [(5, .int (nI k)), (0, .ref bs), (1, .ref (b + 0)), (2, .ref (b + 219 + 0)), (3, .ref (b + 230)), (4, .int (nI i))]) hx hb d_LA_law_936 hl (by decide) rfl (fun ls hl => ?_)
  refine lv_aload_n hx hb d_LA_law_938 rfl (lv_at hl 3 rfl) ?_
  refine lv_aload_n hx hb d_LA_law_939 rfl (lv_at hl 1 rfl) ?_
  refine lv_iload hx hb d_LA_law_940 (lv_at hl 5 rfl) ?_
  refine lv_iconst (v := nI 1) hx hb d_LA_law_942 (by decide) ?_
  refine lv_iadd hx hb d_LA_law_943 ?_
  refine ti (nI (i + 1)) (nI_add _ _) ?_
  refine xl_ld hx hb hXs hbl hS (show i + 1 < L by omega) hL d_LA_law_944 ?_
  refine xl_mod (n := 1) (As := [.int (xs (i + 1))]) (rest := []) (st0 := _) hx hb hml hown hts (c_MO_fitless l D ca (b + 219) _ (xs (i + 1)) hMV hMH) km_MO_fitless tb_804 tb_805 tb_806 (by decide +kernel) rfl rfl ⟨by decide, by decide⟩ hK hLS hS hbb hMG.at0.choose_spec rfl hl rfl (Nat.le_of_ble_eq_true rfl) d_LA_law_945 hcs (fun r Cm1 H hm9 hLS hS => ?_)
  obtain ⟨hI, w, hre, hw⟩ := ag_fitless (bm := b + 219) hXM hMH hZR hx9 hm9
  subst hre
  refine lv_istore (lv' := [(6, .int w), (5, .int (nI k)), (0, .ref bs), (1, .ref (b + 0)), (2, .ref (b + 219 + 0)), (3, .ref (b + 230)), (4, .int (nI i))]) hx hb d_LA_law_948 hl (by decide) rfl (fun ls hl => ?_)
  refine lv_aload_n hx hb d_LA_law_950 rfl (lv_at hl 4 rfl) ?_
  obtain ⟨nd2, nt2, mwt2, mab2, mbe2, on2, ot3, lea2, mos2, hXM2, hMG2, hMH2, hZR2⟩ := hI
  refine xl_mod (n := 0) (As := []) (rest := []) (st0 := _) hx hb hml hown hts (c_MO_thrownG l D ca (b + 219) _ hMG2) km_MO_thrown tb_650 tb_651 tb_652 (by decide +kernel) rfl rfl ⟨by decide, by decide⟩ hK hLS hS hbb hMG2.at0.choose_spec rfl hl rfl (Nat.le_of_ble_eq_true rfl) d_LA_law_951 hcs (fun v Cm2 H hp hLS hS => ?_)
  obtain ⟨rfl, hMG3⟩ := hp
  refine lv_iload hx hb d_LA_law_954 (lv_at hl 1 rfl) ?_
  refine lv_icmp_eq (tgt := 961) hx hb d_LA_law_956 (by decide) (fun _ => ?_) (fun h => absurd rfl h)
  refine lv_iload hx hb d_LA_law_961 (lv_at hl 1 rfl) ?_
  refine xz_ne (tgt := 978) hx hb d_LA_law_963 (by decide) (by omega) (fun hk0 => ?_) (fun hk0 => ?_)
  · refine lv_goto (tgt := 1037) hx hb d_LA_law_978 (by decide) ?_
    exact cont _ _ _ _ _ _ ⟨nd2, nt2, mwt2, mab2, mbe2, on2, ot3, lea2, mos2, hXM2, hMG3, hMH2, hZR2⟩ hLS hS (lv_sub hl [2, 3, 4, 5, 6] rfl)
  · skip
    refine lv_aload_n hx hb d_LA_law_966 rfl (lv_at hl 5 rfl) ?_
    refine lv_iconst (v := nI 0) hx hb d_LA_law_967 (by decide) ?_
    refine xl_out hx hb hK hLS d_LA_law_968 ?_
    rw [hw hk0]
    refine lv_iload hx hb d_LA_law_969 (lv_at hl 0 rfl) ?_
    refine lv_i2l (v := w.toInt64) hx hb d_LA_law_971 rfl ?_
    refine W.lcmp hx hb d_LA_law_972 ?_
    refine lv_if_eq (tgt := 978) hx hb d_LA_law_973 (by decide) (fun _ => ?_) (fun h => absurd (lgs _) h)
    refine lv_goto (tgt := 1037) hx hb d_LA_law_978 (by decide) ?_
    exact cont _ _ _ _ _ _ ⟨nd2, nt2, mwt2, mab2, mbe2, on2, ot3, lea2, mos2, hXM2, hMG3, hMH2, hZR2⟩ hLS hS (lv_sub hl [2, 3, 4, 5, 6] rfl)
set_option maxHeartbeats 4000000 in
set_option maxRecDepth 100000 in
/-- the law's case count -/
theorem law_13 (hC : LX p l s m c bs L xs D ca b) (hi : i + 6 ≤ L) (hI : INV ca b (b + 219) C Cm th) (hLS : LWS D ca b C Cm f H) (hS : nOld s H) (hl : lv_has ls 7 [(0, .ref bs), (1, .ref (b + 0)), (2, .ref (b + 219 + 0)), (3, .ref (b + 230)), (4, .int (nI i))]) (hcs : cells + 8 ≤ 601024 ∧ slots + 48 ≤ 7293034)
    (cont : ∀ (C1 Cm1 : Nat → va_E) (f1 : Nat → Int64) (th1 : Nat) (H1 : Heap) (ls1 : Array Slot), INV ca b (b + 219) C1 Cm1 th1 → LWS D ca b C1 Cm1 f1 H1 → nOld s H1 → lv_has ls1 7 [(0, .ref bs), (1, .ref (b + 0)), (2, .ref (b + 219 + 0)), (3, .ref (b + 230)), (4, .int (nI i))] → W p l e room_1 s m #[Value.ref bs] below meth c H1 [] (cells + 8) (slots + 48) Q (F0 m 1037 ls1 [])) : W p l e room_1 s m #[Value.ref bs] below meth c H [] cells slots Q (F0 m 981 ls []) := by
  obtain ⟨hx, hb, hml, hown, hts, hst, hK, hE, hXs, hbl, hbb, hL⟩ := hC
  obtain ⟨nd, nt, mwt, mab, mbe, on1, ot2, lea, mos, hXM, hMG, hMH, hZR⟩ := hI
  obtain ⟨fs9, ls9, cn9, lf9, mb9, yrs, bv, hMV⟩ := id hMG
  refine lv_aload_n hx hb d_LA_law_981 rfl (lv_at hl 1 rfl) ?_
  refine lv_aload_n hx hb d_LA_law_982 rfl (lv_at hl 0 rfl) ?_
  refine lv_iload hx hb d_LA_law_983 (lv_at hl 4 rfl) ?_
  refine lv_iconst (v := nI 1) hx hb d_LA_law_985 (by decide) ?_
  refine lv_iadd hx hb d_LA_law_986 ?_
  refine ti (nI (i + 1)) (nI_add _ _) ?_
  refine xl_ld hx hb hXs hbl hS (show i + 1 < L by omega) hL d_LA_law_987 ?_
  refine lv_aload_n hx hb d_LA_law_988 rfl (lv_at hl 3 rfl) ?_
  refine xl_help (n := 3) (As := [.ref (b + 0), .int (xs (i + 1)), .ref (b + 230)]) (rest := []) (st0 := _) hx hb hml hown hts (c_LA_count l hst D ca b (b + 230) _ _ (xs (i + 1)) hXM hMH (fun z => absurd z.2 (by omega))) km_LA_count tb_581 tb_582 rfl (by decide +kernel) rfl rfl ⟨by decide, by decide⟩ hK hE hLS hS hbb rfl hl rfl (Nat.le_of_ble_eq_true rfl) d_LA_law_989 hcs (fun k C1 f1 H hx9 hLS hS => ?_)
  have hk3 : k < 3 := by rcases hx9 with ⟨h, -⟩ | ⟨h, -⟩ <;> omega
  refine lv_istore (lv' := [(5, .int (nI k)), (0, .ref bs), (1, .ref (b + 0)), (2, .ref (b + 219 + 0)), (3, .ref (b + 230)), (4, .int (nI i))]) hx hb d_LA_law_992 hl (by decide) rfl (fun ls hl => ?_)
  refine lv_aload_n hx hb d_LA_law_994 rfl (lv_at hl 3 rfl) ?_
  refine lv_aload_n hx hb d_LA_law_995 rfl (lv_at hl 1 rfl) ?_
  refine lv_iload hx hb d_LA_law_996 (lv_at hl 5 rfl) ?_
  refine lv_iconst (v := nI 1) hx hb d_LA_law_998 (by decide) ?_
  refine lv_iadd hx hb d_LA_law_999 ?_
  refine ti (nI (i + 1)) (nI_add _ _) ?_
  refine xl_ld hx hb hXs hbl hS (show i + 1 < L by omega) hL d_LA_law_1000 ?_
  refine xl_mod (n := 1) (As := [.int (xs (i + 1))]) (rest := []) (st0 := _) hx hb hml hown hts (c_MO_count l D ca (b + 219) _ (xs (i + 1)) hMV hMH) km_MO_count tb_808 tb_809 tb_810 (by decide +kernel) rfl rfl ⟨by decide, by decide⟩ hK hLS hS hbb hMG.at0.choose_spec rfl hl rfl (Nat.le_of_ble_eq_true rfl) d_LA_law_1001 hcs (fun r Cm1 H hm9 hLS hS => ?_)
  obtain ⟨hI, w, hre, hw⟩ := ag_count (bm := b + 219) hXM hMH hZR hx9 hm9
  subst hre
  refine lv_istore (lv' := [(6, .int w), (5, .int (nI k)), (0, .ref bs), (1, .ref (b + 0)), (2, .ref (b + 219 + 0)), (3, .ref (b + 230)), (4, .int (nI i))]) hx hb d_LA_law_1004 hl (by decide) rfl (fun ls hl => ?_)
  refine lv_aload_n hx hb d_LA_law_1006 rfl (lv_at hl 4 rfl) ?_
  obtain ⟨nd2, nt2, mwt2, mab2, mbe2, on2, ot3, lea2, mos2, hXM2, hMG2, hMH2, hZR2⟩ := hI
  refine xl_mod (n := 0) (As := []) (rest := []) (st0 := _) hx hb hml hown hts (c_MO_thrownG l D ca (b + 219) _ hMG2) km_MO_thrown tb_650 tb_651 tb_652 (by decide +kernel) rfl rfl ⟨by decide, by decide⟩ hK hLS hS hbb hMG2.at0.choose_spec rfl hl rfl (Nat.le_of_ble_eq_true rfl) d_LA_law_1007 hcs (fun v Cm2 H hp hLS hS => ?_)
  obtain ⟨rfl, hMG3⟩ := hp
  refine lv_iload hx hb d_LA_law_1010 (lv_at hl 1 rfl) ?_
  refine lv_icmp_eq (tgt := 1017) hx hb d_LA_law_1012 (by decide) (fun _ => ?_) (fun h => absurd rfl h)
  refine lv_iload hx hb d_LA_law_1017 (lv_at hl 1 rfl) ?_
  refine xz_ne (tgt := 1034) hx hb d_LA_law_1019 (by decide) (by omega) (fun hk0 => ?_) (fun hk0 => ?_)
  · refine lv_goto (tgt := 1037) hx hb d_LA_law_1034 (by decide) ?_
    exact cont _ _ _ _ _ _ ⟨nd2, nt2, mwt2, mab2, mbe2, on2, ot3, lea2, mos2, hXM2, hMG3, hMH2, hZR2⟩ hLS hS (lv_sub hl [2, 3, 4, 5, 6] rfl)
  · skip
    refine lv_aload_n hx hb d_LA_law_1022 rfl (lv_at hl 5 rfl) ?_
    refine lv_iconst (v := nI 0) hx hb d_LA_law_1023 (by decide) ?_
    refine xl_out hx hb hK hLS d_LA_law_1024 ?_
    rw [hw hk0]
    refine lv_iload hx hb d_LA_law_1025 (lv_at hl 0 rfl) ?_
    refine lv_i2l (v := w.toInt64) hx hb d_LA_law_1027 rfl ?_
    refine W.lcmp hx hb d_LA_law_1028 ?_
    refine lv_if_eq (tgt := 1034) hx hb d_LA_law_1029 (by decide) (fun _ => ?_) (fun h => absurd (lgs _) h)
    refine lv_goto (tgt := 1037) hx hb d_LA_law_1034 (by decide) ?_
    exact cont _ _ _ _ _ _ ⟨nd2, nt2, mwt2, mab2, mbe2, on2, ot3, lea2, mos2, hXM2, hMG3, hMH2, hZR2⟩ hLS hS (lv_sub hl [2, 3, 4, 5, 6] rfl)
end LC
