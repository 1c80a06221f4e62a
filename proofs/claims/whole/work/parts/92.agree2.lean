/-! The class's sums and the reference's -/
section AGS
variable {ca : Nat → ClassId} {b bm : Nat} {C0 C1 Cm1 : Nat → va_E} {f1 : Nat → Int64} {k : Nat} {r : Option Value} {nd nt : Nat} {mwt mab mbe on1 ot2 lea mos yrs : Nat → Nat}
theorem ag_total (hM : XM ca b C0 nd nt mwt mab mbe on1 ot2 lea mos) (hH : MH on1 ot2 lea mos mwt mab mbe nt nd) (hZ : ZR nd mwt mab) {dg : Int32}
    (hx : (k = 0 ∧ ∃ w : Int32, P_OP_total ca b nd nt mwt mab mbe on1 ot2 lea mos dg (some (.int w)) C1 ∧ f1 0 = w.toInt64) ∨ (k = 1 ∧ T_OP_total nd nt mwt mab mbe on1 ot2 lea mos dg nNSE ∧ C1 = C0))
    (hm : (∃ k9, k9 < 48 ∧ dg = nI k9 ∧ r = some (.int (nI (mSum on1 ot2 lea mos mwt mab mbe nt nd (2 ^ nt - 1) 4095 4095 (upto 6 (fun _ => 4095) yrs) / 10 ^ k9 % 10))) ∧ MG ca bm Cm1 0 nd nt mwt mab mbe on1 ot2 lea mos) ∨ (¬ isN dg 48 ∧ r = some (.int (nI 0)) ∧ MG ca bm Cm1 1 nd nt mwt mab mbe on1 ot2 lea mos)) : AG ca b bm k r C1 Cm1 f1 := by
  have hd6 := hH.D.1
  rcases hx with ⟨rfl, w, ⟨k9, h1, h2, h3, h4⟩, h9⟩ | ⟨rfl, ⟨-, h⟩, rfl⟩
  · rcases hm with ⟨k1, q1, q2, q3, q4⟩ | ⟨q, -, -⟩
    · obtain rfl := nIi (by omega) (by omega) h2 q2
      exact ⟨⟨_, _, _, _, _, _, _, _, _, h4, q4, hH, hZ⟩, _, q3, fun _ => by rw [h9, sii h3, mSum_o hd6]⟩
    · exact absurd ⟨k9, h1, h2⟩ q
  · rcases hm with ⟨k1, q1, q2, -⟩ | ⟨q, g2, g3⟩
    · exact absurd ⟨k1, q1, q2⟩ h
    · exact ⟨⟨_, _, _, _, _, _, _, _, _, hM, g3, hH, hZ⟩, _, g2, fun q => by cases q⟩
theorem ag_answered (hM : XM ca b C0 nd nt mwt mab mbe on1 ot2 lea mos) (hH : MH on1 ot2 lea mos mwt mab mbe nt nd) (hZ : ZR nd mwt mab) {d y dg : Int32}
    (hx : (k = 0 ∧ ∃ w : Int32, P_OP_answered ca b nd nt mwt mab mbe on1 ot2 lea mos d y dg (some (.int w)) C1 ∧ f1 0 = w.toInt64) ∨ (k = 1 ∧ T_OP_answered nd nt mwt mab mbe on1 ot2 lea mos d y dg nNSE ∧ C1 = C0))
    (hm : (∃ d9 y9 k9, d9 < nd ∧ y9 < 12 ∧ k9 < 48 ∧ d = nI d9 ∧ y = nI y9 ∧ dg = nI k9 ∧ r = some (.int (nI (mSum on1 ot2 lea mos mwt mab mbe nt nd (2 ^ nt - 1) 4095 4095 (va_up (upto 6 (fun _ => 4095) yrs) d9 (2 ^ y9)) / 10 ^ k9 % 10))) ∧ MG ca bm Cm1 0 nd nt mwt mab mbe on1 ot2 lea mos) ∨ (¬ (isN d nd ∧ isN y 12 ∧ isN dg 48) ∧ r = some (.int (nI 0)) ∧ MG ca bm Cm1 1 nd nt mwt mab mbe on1 ot2 lea mos)) : AG ca b bm k r C1 Cm1 f1 := by
  have hd6 := hH.D.1
  rcases hx with ⟨rfl, w, ⟨d9, y9, k9, h1, h2, h3, h4, h5, h6, h7, h8⟩, h9⟩ | ⟨rfl, ⟨-, h⟩, rfl⟩
  · rcases hm with ⟨d1, y1, k1, q1, q2, q3, q4, q5, q6, q7, q8⟩ | ⟨q, -, -⟩
    · obtain rfl := nIi (by omega) (by omega) h4 q4
      obtain rfl := nIi (by omega) (by omega) h5 q5
      obtain rfl := nIi (by omega) (by omega) h6 q6
      exact ⟨⟨_, _, _, _, _, _, _, _, _, h8, q8, hH, hZ⟩, _, q7, fun _ => by rw [h9, sii h7, mSum_oy hd6]⟩
    · exact absurd ⟨⟨d9, h1, h4⟩, ⟨y9, h2, h5⟩, ⟨k9, h3, h6⟩⟩ q
  · rcases hm with ⟨d1, y1, k1, q1, q2, q3, q4, q5, q6, q7, q8⟩ | ⟨q, g2, g3⟩
    · exact absurd ⟨⟨d1, q1, q4⟩, ⟨y1, q2, q5⟩, ⟨k1, q3, q6⟩⟩ h
    · exact ⟨⟨_, _, _, _, _, _, _, _, _, hM, g3, hH, hZ⟩, _, g2, fun q => by cases q⟩
theorem ag_bound (hM : XM ca b C0 nd nt mwt mab mbe on1 ot2 lea mos) (hH : MH on1 ot2 lea mos mwt mab mbe nt nd) (hZ : ZR nd mwt mab) {x y dg : Int32}
    (hx : (k = 0 ∧ ∃ w : Int32, P_OP_bound ca b nd nt mwt mab mbe on1 ot2 lea mos x y dg (some (.int w)) C1 ∧ f1 0 = w.toInt64) ∨ (k = 1 ∧ T_OP_bound nd nt mwt mab mbe on1 ot2 lea mos x y dg nNSE ∧ C1 = C0) ∨ (k = 2 ∧ T_OP_bound nd nt mwt mab mbe on1 ot2 lea mos x y dg nISE ∧ C1 = C0))
    (hm : (∃ x9 y9 k9, x9 < 2 ∧ y9 < 12 ∧ k9 < 48 ∧ x = nI x9 ∧ y = nI y9 ∧ dg = nI k9 ∧ (∃ i, i < nt ∧ (2 ^ nt - 1).testBit i = true ∧ on1 i = ot2 i) ∧ r = some (.int (nI (mSum on1 ot2 lea mos mwt mab mbe nt nd (2 ^ nt - 1) (if x9 = 0 then 2 ^ y9 else 4095) (if x9 = 1 then 2 ^ y9 else 4095) (fun _ => 4095) / 10 ^ k9 % 10))) ∧ MG ca bm Cm1 0 nd nt mwt mab mbe on1 ot2 lea mos) ∨ (∃ t, ((¬ (isN x 2 ∧ isN y 12 ∧ isN dg 48) ∧ t = 1) ∨ ((isN x 2 ∧ isN y 12 ∧ isN dg 48) ∧ ¬ (∃ i, i < nt ∧ (2 ^ nt - 1).testBit i = true ∧ on1 i = ot2 i) ∧ t = 2)) ∧ r = some (.int (nI 0)) ∧ MG ca bm Cm1 t nd nt mwt mab mbe on1 ot2 lea mos)) : AG ca b bm k r C1 Cm1 f1 := by
  rcases hx with ⟨rfl, w, ⟨x9, y9, k9, h1, h2, h3, h4, h5, h6, hme, h7, h8⟩, h9⟩ | ⟨rfl, h, rfl⟩ | ⟨rfl, h, rfl⟩
  · rcases hm with ⟨d1, y1, k1, q1, q2, q3, q4, q5, q6, qme, q7, q8⟩ | ⟨t, g1, g2, g3⟩
    · obtain rfl := nIi (by omega) (by omega) h4 q4
      obtain rfl := nIi (by omega) (by omega) h5 q5
      obtain rfl := nIi (by omega) (by omega) h6 q6
      exact ⟨⟨_, _, _, _, _, _, _, _, _, h8, q8, hH, hZ⟩, _, q7, fun _ => by rw [h9, sii h7]⟩
    · rcases g1 with ⟨q, -⟩ | ⟨-, q, -⟩
      · exact absurd ⟨⟨x9, h1, h4⟩, ⟨y9, h2, h5⟩, ⟨k9, h3, h6⟩⟩ q
      · exact absurd hme q
  · rcases h with ⟨-, h⟩ | ⟨h, -⟩
    · rcases hm with ⟨d1, y1, k1, q1, q2, q3, q4, q5, q6, qme, q7, q8⟩ | ⟨t, ⟨q, rfl⟩ | ⟨q, -, rfl⟩, g2, g3⟩
      · exact absurd ⟨⟨d1, q1, q4⟩, ⟨y1, q2, q5⟩, ⟨k1, q3, q6⟩⟩ h
      · exact ⟨⟨_, _, _, _, _, _, _, _, _, hM, g3, hH, hZ⟩, _, g2, fun q => by cases q⟩
      · exact absurd q h
    · exact absurd h (by decide)
  · rcases h with ⟨h, -⟩ | ⟨-, h, h2⟩
    · exact absurd h (by decide)
    · rcases hm with ⟨d1, y1, k1, q1, q2, q3, q4, q5, q6, qme, q7, q8⟩ | ⟨t, ⟨q, rfl⟩ | ⟨q, -, rfl⟩, g2, g3⟩
      · exact absurd qme h2
      · exact absurd h q
      · exact ⟨⟨_, _, _, _, _, _, _, _, _, hM, g3, hH, hZ⟩, _, g2, fun q => by cases q⟩
theorem ag_both (hM : XM ca b C0 nd nt mwt mab mbe on1 ot2 lea mos) (hH : MH on1 ot2 lea mos mwt mab mbe nt nd) (hZ : ZR nd mwt mab) {a x g y dg : Int32}
    (hx : (k = 0 ∧ ∃ w : Int32, P_OP_both ca b nd nt mwt mab mbe on1 ot2 lea mos a x g y dg (some (.int w)) C1 ∧ f1 0 = w.toInt64) ∨ (k = 1 ∧ T_OP_both nd nt mwt mab mbe on1 ot2 lea mos a x g y dg nNSE ∧ C1 = C0))
    (hm : (∃ a9 x9 g9 y9 k9, a9 < nd ∧ x9 < 12 ∧ g9 < nd ∧ y9 < 12 ∧ k9 < 48 ∧ a = nI a9 ∧ x = nI x9 ∧ g = nI g9 ∧ y = nI y9 ∧ dg = nI k9 ∧ r = some (.int (nI (mSum on1 ot2 lea mos mwt mab mbe nt nd (2 ^ nt - 1) 4095 4095 (va_up (va_up (upto 6 (fun _ => 4095) yrs) a9 (2 ^ x9)) g9 (va_up (upto 6 (fun _ => 4095) yrs) a9 (2 ^ x9) g9 &&& 2 ^ y9)) / 10 ^ k9 % 10))) ∧ MG ca bm Cm1 0 nd nt mwt mab mbe on1 ot2 lea mos) ∨ (¬ (isN a nd ∧ isN x 12 ∧ isN g nd ∧ isN y 12 ∧ isN dg 48) ∧ r = some (.int (nI 0)) ∧ MG ca bm Cm1 1 nd nt mwt mab mbe on1 ot2 lea mos)) : AG ca b bm k r C1 Cm1 f1 := by
  have hd6 := hH.D.1
  rcases hx with ⟨rfl, w, ⟨a9, x9, g9, y9, k9, h1, h2, h3, h4, h5, h6, h7, h8, h10, h11, h12, h13⟩, h9⟩ | ⟨rfl, ⟨-, h⟩, rfl⟩
  · rcases hm with ⟨a1, x1, g1, y1, k1, q1, q2, q3, q4, q5, q6, q7, q8, q10, q11, q12, q13⟩ | ⟨q, -, -⟩
    · obtain rfl := nIi (by omega) (by omega) h6 q6
      obtain rfl := nIi (by omega) (by omega) h7 q7
      obtain rfl := nIi (by omega) (by omega) h8 q8
      obtain rfl := nIi (by omega) (by omega) h10 q10
      obtain rfl := nIi (by omega) (by omega) h11 q11
      have e1 : va_up (upto 6 (fun _ => 4095) yrs) a9 (2 ^ x9) g9 = if g9 = a9 then 2 ^ x9 else 4095 := by
        by_cases q : g9 = a9
        · rw [if_pos q, q, va_up_self]
        · rw [if_neg q, va_up_ne _ _ q, upto_lt _ _ (by omega)]
      rw [e1, mSum_oy2 hd6] at q12
      exact ⟨⟨_, _, _, _, _, _, _, _, _, h13, q13, hH, hZ⟩, _, q12, fun _ => by rw [h9, sii h12]⟩
    · exact absurd ⟨⟨a9, h1, h6⟩, ⟨x9, h2, h7⟩, ⟨g9, h3, h8⟩, ⟨y9, h4, h10⟩, ⟨k9, h5, h11⟩⟩ q
  · rcases hm with ⟨a1, x1, g1, y1, k1, q1, q2, q3, q4, q5, q6, q7, q8, q10, q11, q12, q13⟩ | ⟨q, g2, g3⟩
    · exact absurd ⟨⟨a1, q1, q6⟩, ⟨x1, q2, q7⟩, ⟨g1, q3, q8⟩, ⟨y1, q4, q10⟩, ⟨k1, q5, q11⟩⟩ h
    · exact ⟨⟨_, _, _, _, _, _, _, _, _, hM, g3, hH, hZ⟩, _, g2, fun q => by cases q⟩
theorem ag_span (hM : XM ca b C0 nd nt mwt mab mbe on1 ot2 lea mos) (hH : MH on1 ot2 lea mos mwt mab mbe nt nd) (hZ : ZR nd mwt mab) {d x : Int32}
    (hx : (k = 0 ∧ ∃ w : Int32, P_OP_span ca b nd nt mwt mab mbe on1 ot2 lea mos d x (some (.int w)) C1 ∧ f1 0 = w.toInt64) ∨ (k = 1 ∧ T_OP_span nd nt mwt mab mbe on1 ot2 lea mos d x nNSE ∧ C1 = C0))
    (hm : (∃ d9 x9, d9 < nd ∧ x9 < 2 ∧ d = nI d9 ∧ x = nI x9 ∧ r = some (.int (eo (spR (fun y => mSum on1 ot2 lea mos mwt mab mbe nt nd (2 ^ nt - 1) 4095 4095 (va_up (fun _ => 4095) d9 (2 ^ y))) x9 12))) ∧ MG ca bm Cm1 0 nd nt mwt mab mbe on1 ot2 lea mos) ∨ (¬ (isN d nd ∧ isN x 2) ∧ r = some (.int (nI 0)) ∧ MG ca bm Cm1 1 nd nt mwt mab mbe on1 ot2 lea mos)) : AG ca b bm k r C1 Cm1 f1 := by
  have hd6 := hH.D.1
  rcases hx with ⟨rfl, w, ⟨d9, x9, h1, h2, h3, h4, h5, h6⟩, h9⟩ | ⟨rfl, ⟨-, h⟩, rfl⟩
  · rcases hm with ⟨d1, x1, q1, q2, q3, q4, q5, q6⟩ | ⟨q, -, -⟩
    · obtain rfl := nIi (by omega) (by omega) h3 q3
      obtain rfl := nIi (by omega) (by omega) h4 q4
      exact ⟨⟨_, _, _, _, _, _, _, _, _, h6, q6, hH, hZ⟩, _, q5, fun _ => by rw [h9, sii h5]⟩
    · exact absurd ⟨⟨d9, h1, h3⟩, ⟨x9, h2, h4⟩⟩ q
  · rcases hm with ⟨d1, x1, q1, q2, q3, q4, q5, q6⟩ | ⟨q, g2, g3⟩
    · exact absurd ⟨⟨d1, q1, q3⟩, ⟨x1, q2, q4⟩⟩ h
    · exact ⟨⟨_, _, _, _, _, _, _, _, _, hM, g3, hH, hZ⟩, _, g2, fun q => by cases q⟩
theorem ag_narrow (hM : XM ca b C0 nd nt mwt mab mbe on1 ot2 lea mos) (hH : MH on1 ot2 lea mos mwt mab mbe nt nd) (hZ : ZR nd mwt mab) {d a x : Int32}
    (hx : (k = 0 ∧ ∃ w : Int32, P_OP_narrow ca b nd nt mwt mab mbe on1 ot2 lea mos d a x (some (.int w)) C1 ∧ f1 0 = w.toInt64) ∨ (k = 1 ∧ T_OP_narrow nd nt mwt mab mbe on1 ot2 lea mos d a x nNSE ∧ C1 = C0) ∨ (k = 2 ∧ T_OP_narrow nd nt mwt mab mbe on1 ot2 lea mos d a x nIAE ∧ C1 = C0))
    (hm : (∃ d9 a9 b9, d9 < nd ∧ 1 ≤ a9 ∧ a9 ≤ b9 ∧ b9 ≤ 1000 ∧ d = nI d9 ∧ a = nI a9 ∧ x = nI b9 ∧ ((mSum on1 ot2 lea mos mwt mab mbe nt nd (2 ^ nt - 1) 4095 4095 (fun _ => 4095) = 0 ∧ r = some (.int (-1))) ∨ (mSum on1 ot2 lea mos mwt mab mbe nt nd (2 ^ nt - 1) 4095 4095 (fun _ => 4095) ≠ 0 ∧ ∃ z, r = some (.int (eo z)) ∧ nrwP (fun f n => mSum on1 ot2 lea mos mwt mab mbe nt nd (2 ^ nt - 1) 4095 4095 (fun _ => 4095) * a9 ≤ sm (fun j => mSum on1 ot2 lea mos mwt mab mbe nt nd (2 ^ nt - 1) 4095 4095 (va_up (fun _ => 4095) d9 (2 ^ (f + j))) * b9) (n + 1)) z)) ∧ MG ca bm Cm1 0 nd nt mwt mab mbe on1 ot2 lea mos) ∨ (∃ t, ((¬ isN d nd ∧ t = 1) ∨ (isN d nd ∧ ¬ (∃ a9 b9, 1 ≤ a9 ∧ a9 ≤ b9 ∧ b9 ≤ 1000 ∧ a = nI a9 ∧ x = nI b9) ∧ t = 2)) ∧ r = some (.int (nI 0)) ∧ MG ca bm Cm1 t nd nt mwt mab mbe on1 ot2 lea mos)) : AG ca b bm k r C1 Cm1 f1 := by
  have hd6 := hH.D.1
  rcases hx with ⟨rfl, w, ⟨d9, a9, b9, h1, h2, h3, h4, h5, h6, h7, hh, h8⟩, h9⟩ | ⟨rfl, h, rfl⟩ | ⟨rfl, h, rfl⟩
  · rcases hm with ⟨d1, a1, b1, q1, q2, q3, q4, q5, q6, q7, qq, q8⟩ | ⟨t, g1, g2, g3⟩
    · obtain rfl := nIi (by omega) (by omega) h5 q5
      obtain rfl := nIi (by omega) (by omega) h6 q6
      obtain rfl := nIi (by omega) (by omega) h7 q7
      rcases hh with ⟨i1, i2⟩ | ⟨i1, z, i2, i3⟩ <;> rcases qq with ⟨j1, j2⟩ | ⟨j1, z1, j2, j3⟩
      · exact ⟨⟨_, _, _, _, _, _, _, _, _, h8, q8, hH, hZ⟩, _, j2, fun _ => by rw [h9, sii i2]⟩
      · exact absurd i1 j1
      · exact absurd j1 i1
      · exact ⟨⟨_, _, _, _, _, _, _, _, _, h8, q8, hH, hZ⟩, _, j2, fun _ => by rw [h9, sii i2, nrw_un i3 j3]⟩
    · rcases g1 with ⟨q, -⟩ | ⟨-, q, -⟩
      · exact absurd ⟨d9, h1, h5⟩ q
      · exact absurd ⟨a9, b9, h2, h3, h4, h6, h7⟩ q
  · rcases h with ⟨-, h⟩ | ⟨h, -⟩
    · rcases hm with ⟨d1, a1, b1, q1, q2, q3, q4, q5, q6, q7, qq, q8⟩ | ⟨t, ⟨q, rfl⟩ | ⟨q, -, rfl⟩, g2, g3⟩
      · exact absurd ⟨d1, q1, q5⟩ h
      · exact ⟨⟨_, _, _, _, _, _, _, _, _, hM, g3, hH, hZ⟩, _, g2, fun q => by cases q⟩
      · exact absurd q h
    · exact absurd h (by decide)
  · rcases h with ⟨h, -⟩ | ⟨-, h, h2⟩
    · exact absurd h (by decide)
    · rcases hm with ⟨d1, a1, b1, q1, q2, q3, q4, q5, q6, q7, qq, q8⟩ | ⟨t, ⟨q, rfl⟩ | ⟨q, -, rfl⟩, g2, g3⟩
      · exact absurd ⟨a1, b1, q2, q3, q4, q6, q7⟩ h2
      · exact absurd h q
      · exact ⟨⟨_, _, _, _, _, _, _, _, _, hM, g3, hH, hZ⟩, _, g2, fun q => by cases q⟩
theorem ag_fitless (hM : XM ca b C0 nd nt mwt mab mbe on1 ot2 lea mos) (hH : MH on1 ot2 lea mos mwt mab mbe nt nd) (hZ : ZR nd mwt mab) {kx : Int32}
    (hx : (k = 0 ∧ ∃ w : Int32, P_OP_fitless ca b nd nt mwt mab mbe on1 ot2 lea mos kx (some (.int w)) C1 ∧ f1 0 = w.toInt64) ∨ (k = 1 ∧ T_OP_fitless nd nt mwt mab mbe on1 ot2 lea mos kx nNSE ∧ C1 = C0))
    (hm : (∃ k9, k9 < 2 ^ 31 ∧ kx = nI k9 ∧ ((mSum on1 ot2 lea mos mwt mab mbe nt nd (2 ^ nt - 1) 4095 4095 (fun _ => 4095) ≠ 0 ∧ r = some (.int (-1))) ∨ (mSum on1 ot2 lea mos mwt mab mbe nt nd (2 ^ nt - 1) 4095 4095 (fun _ => 4095) = 0 ∧ ∃ z, r = some (.int (eo z)) ∧ kthP (fun j => (ftR (fun c => mSum on1 ot2 lea mos mwt mab mbe nt nd c 4095 4095 (fun _ => 4095)) nt nt).testBit j) nt k9 z)) ∧ MG ca bm Cm1 0 nd nt mwt mab mbe on1 ot2 lea mos) ∨ (kx < 0 ∧ r = some (.int (nI 0)) ∧ MG ca bm Cm1 1 nd nt mwt mab mbe on1 ot2 lea mos)) : AG ca b bm k r C1 Cm1 f1 := by
  rcases hx with ⟨rfl, w, ⟨k9, h1, h2, hh, h8⟩, h9⟩ | ⟨rfl, ⟨-, h⟩, rfl⟩
  · rcases hm with ⟨k1, q1, q2, qq, q8⟩ | ⟨q, -, -⟩
    · obtain rfl := nIi h1 q1 h2 q2
      rcases hh with ⟨i1, i2⟩ | ⟨i1, z, i2, i3⟩ <;> rcases qq with ⟨j1, j2⟩ | ⟨j1, z1, j2, j3⟩
      · exact ⟨⟨_, _, _, _, _, _, _, _, _, h8, q8, hH, hZ⟩, _, j2, fun _ => by rw [h9, sii i2]⟩
      · exact absurd j1 i1
      · exact absurd i1 j1
      · exact ⟨⟨_, _, _, _, _, _, _, _, _, h8, q8, hH, hZ⟩, _, j2, fun _ => by rw [h9, sii i2, kth_un i3 j3]⟩
    · rw [h2] at q; exact absurd q (nI_pos h1)
  · rcases hm with ⟨k1, q1, q2, -⟩ | ⟨q, g2, g3⟩
    · rw [q2] at h; exact absurd h (nI_pos q1)
    · exact ⟨⟨_, _, _, _, _, _, _, _, _, hM, g3, hH, hZ⟩, _, g2, fun q => by cases q⟩
theorem ag_count (hM : XM ca b C0 nd nt mwt mab mbe on1 ot2 lea mos) (hH : MH on1 ot2 lea mos mwt mab mbe nt nd) (hZ : ZR nd mwt mab) {x : Int32}
    (hx : (k = 0 ∧ ∃ w : Int32, P_OP_count ca b nd nt mwt mab mbe on1 ot2 lea mos x (some (.int w)) C1 ∧ f1 0 = w.toInt64) ∨ (k = 1 ∧ T_OP_count nd nt mwt mab mbe on1 ot2 lea mos x nNSE ∧ C1 = C0))
    (hm : (∃ x9, x9 < 3 ∧ x = nI x9 ∧ r = some (.int (nI (if x9 = 0 then nd else if x9 = 1 then nt - mct on1 ot2 nt else mct on1 ot2 nt))) ∧ MG ca bm Cm1 0 nd nt mwt mab mbe on1 ot2 lea mos) ∨ (¬ isN x 3 ∧ r = some (.int (nI 0)) ∧ MG ca bm Cm1 1 nd nt mwt mab mbe on1 ot2 lea mos)) : AG ca b bm k r C1 Cm1 f1 := by
  rcases hx with ⟨rfl, w, ⟨x9, h1, h2, h3, h4⟩, h9⟩ | ⟨rfl, ⟨-, h⟩, rfl⟩
  · rcases hm with ⟨k1, q1, q2, q3, q4⟩ | ⟨q, -, -⟩
    · obtain rfl := nIi (by omega) (by omega) h2 q2
      exact ⟨⟨_, _, _, _, _, _, _, _, _, h4, q4, hH, hZ⟩, _, q3, fun _ => by rw [h9, sii h3]⟩
    · exact absurd ⟨x9, h1, h2⟩ q
  · rcases hm with ⟨k1, q1, q2, -⟩ | ⟨q, g2, g3⟩
    · exact absurd ⟨k1, q1, q2⟩ h
    · exact ⟨⟨_, _, _, _, _, _, _, _, _, hM, g3, hH, hZ⟩, _, g2, fun q => by cases q⟩
end AGS
