/-! The class's answer and the reference's are one -/
theorem nIi {a b : Nat} {x : Int32} (ha : a < 2 ^ 31) (hb : b < 2 ^ 31) (h1 : x = nI a) (h2 : x = nI b) : a = b := (nI_eq ha hb).mp (h1.symm.trans h2)
abbrev ZR (nd : Nat) (mwt mab : Nat → Nat) : Prop := (∀ d, nd ≤ d → mab d = 0) ∧ ∀ d y, nd ≤ d → y < 12 → mwt (12 * d + y) = 0
/-- class and reference stand alike -/
def INV (ca : Nat → ClassId) (b bm : Nat) (C Cm : Nat → va_E) (th : Nat) : Prop := ∃ (nd nt : Nat) (mwt mab mbe on1 ot2 lea mos : Nat → Nat), XM ca b C nd nt mwt mab mbe on1 ot2 lea mos ∧ MG ca bm Cm th nd nt mwt mab mbe on1 ot2 lea mos ∧ MH on1 ot2 lea mos mwt mab mbe nt nd ∧ ZR nd mwt mab
def AG (ca : Nat → ClassId) (b bm : Nat) (k : Nat) (r : Option Value) (C1 Cm1 : Nat → va_E) (f1 : Nat → Int64) : Prop := INV ca b bm C1 Cm1 k ∧ ∃ w : Int32, r = some (.int w) ∧ (k = 0 → f1 0 = w.toInt64)
section AGR
variable {ca : Nat → ClassId} {b bm : Nat} {C0 C1 Cm1 : Nat → va_E} {f1 : Nat → Int64} {k : Nat} {r : Option Value} {nd nt : Nat} {mwt mab mbe on1 ot2 lea mos yrs bv : Nat → Nat} {fs9 ls9 cn9 lf9 mb9 : Nat}
theorem sii {w v : Int32} (h : some (Value.int w) = some (.int v)) : w = v := by cases h; rfl
theorem ag_date (hM : XM ca b C0 nd nt mwt mab mbe on1 ot2 lea mos) (hH : MH on1 ot2 lea mos mwt mab mbe nt nd) (hZ : ZR nd mwt mab)
    (hx : (k = 0 ∧ ∃ w : Int32, P_OP_date ca b nd nt mwt mab mbe on1 ot2 lea mos (some (.int w)) C1 ∧ f1 0 = w.toInt64) ∨ (k = 1 ∧ T_OP_date nd nt mwt mab mbe on1 ot2 lea mos nISE ∧ C1 = C0))
    (hm : (nd < 6 ∧ r = some (.int (nI nd)) ∧ MV ca bm Cm1 0 (nd + 1) nt fs9 ls9 cn9 lf9 mb9 mwt mab (va_up mbe nd 1) on1 ot2 lea mos yrs bv) ∨ (6 ≤ nd ∧ r = some (.int (nI 0)) ∧ MV ca bm Cm1 1 nd nt fs9 ls9 cn9 lf9 mb9 mwt mab mbe on1 ot2 lea mos yrs bv)) : AG ca b bm k r C1 Cm1 f1 := by
  rcases hx with ⟨rfl, w, ⟨h1, h2, h3⟩, h4⟩ | ⟨rfl, ⟨-, h1⟩, rfl⟩ <;> rcases hm with ⟨g1, g2, g3⟩ | ⟨g1, g2, g3⟩
  · exact ⟨⟨_, _, _, _, _, _, _, _, _, h3, g3.g, MH_date hH h1 (hZ.1 nd (Nat.le_refl _)) (fun y hy => hZ.2 nd y (Nat.le_refl _) hy), fun d hd => hZ.1 d (by omega), fun d y hd hy => hZ.2 d y (by omega) hy⟩, _, g2, fun _ => by rw [h4, sii h2]⟩
  · omega
  · omega
  · exact ⟨⟨_, _, _, _, _, _, _, _, _, hM, g3.g, hH, hZ⟩, _, g2, fun q => by cases q⟩
theorem ag_weight (hM : XM ca b C0 nd nt mwt mab mbe on1 ot2 lea mos) (hH : MH on1 ot2 lea mos mwt mab mbe nt nd) (hZ : ZR nd mwt mab) {d y x : Int32}
    (hx : (k = 0 ∧ ∃ w : Int32, P_OP_weight ca b nd nt mwt mab mbe on1 ot2 lea mos d y x (some (.int w)) C1 ∧ f1 0 = w.toInt64) ∨ (k = 1 ∧ T_OP_weight nd nt mwt mab mbe on1 ot2 lea mos d y x nNSE ∧ C1 = C0) ∨ (k = 2 ∧ T_OP_weight nd nt mwt mab mbe on1 ot2 lea mos d y x nIAE ∧ C1 = C0))
    (hm : (∃ d9 y9 x9, d9 < nd ∧ y9 < 12 ∧ x9 < 1000 ∧ d = nI d9 ∧ y = nI y9 ∧ x = nI x9 ∧ r = some (.int (nI (mwt (12 * d9 + y9)))) ∧ MV ca bm Cm1 0 nd nt fs9 ls9 cn9 lf9 mb9 (va_up mwt (12 * d9 + y9) x9) mab mbe on1 ot2 lea mos yrs bv) ∨ (∃ t, ((¬ (isN d nd ∧ isN y 12) ∧ t = 1) ∨ ((isN d nd ∧ isN y 12) ∧ ¬ isN x 1000 ∧ t = 2)) ∧ r = some (.int (nI 0)) ∧ MV ca bm Cm1 t nd nt fs9 ls9 cn9 lf9 mb9 mwt mab mbe on1 ot2 lea mos yrs bv)) : AG ca b bm k r C1 Cm1 f1 := by
  have hd6 := hH.D.1
  rcases hx with ⟨rfl, w, ⟨d9, y9, x9, h1, h2, h3, h4, h5, h6, h7, h8⟩, h9⟩ | ⟨rfl, h, rfl⟩ | ⟨rfl, h, rfl⟩
  · rcases hm with ⟨d1, y1, x1, g1, g2, g3, g4, g5, g6, g7, g8⟩ | ⟨t, g1, g2, g3⟩
    · obtain rfl := nIi (by omega) (by omega) h4 g4
      obtain rfl := nIi (by omega) (by omega) h5 g5
      obtain rfl := nIi (by omega) (by omega) h6 g6
      refine ⟨⟨_, _, _, _, _, _, _, _, _, h8, g8.g, MH_weight hH h2 h3, hZ.1, fun e z he hz => ?_⟩, _, g7, fun _ => by rw [h9, sii h7]⟩
      rw [va_up_ne _ _ (by omega)]; exact hZ.2 e z he hz
    · rcases g1 with ⟨q, -⟩ | ⟨-, q, -⟩
      · exact absurd ⟨⟨d9, h1, h4⟩, ⟨y9, h2, h5⟩⟩ q
      · exact absurd ⟨x9, h3, h6⟩ q
  · rcases h with ⟨-, h⟩ | ⟨h, -⟩
    · rcases hm with ⟨d1, y1, x1, g1, g2, g3, g4, g5, g6, g7, g8⟩ | ⟨t, ⟨q, rfl⟩ | ⟨q, -, rfl⟩, g2, g3⟩
      · exact absurd ⟨⟨d1, g1, g4⟩, ⟨y1, g2, g5⟩⟩ h
      · exact ⟨⟨_, _, _, _, _, _, _, _, _, hM, g3.g, hH, hZ⟩, _, g2, fun q => by cases q⟩
      · exact absurd q h
    · exact absurd h (by decide)
  · rcases h with ⟨h, -⟩ | ⟨-, h, h2⟩
    · exact absurd h (by decide)
    · rcases hm with ⟨d1, y1, x1, g1, g2, g3, g4, g5, g6, g7, g8⟩ | ⟨t, ⟨q, rfl⟩ | ⟨q, -, rfl⟩, g2, g3⟩
      · exact absurd ⟨x1, g3, g6⟩ h2
      · exact absurd h q
      · exact ⟨⟨_, _, _, _, _, _, _, _, _, hM, g3.g, hH, hZ⟩, _, g2, fun q => by cases q⟩
theorem ag_outlier (hM : XM ca b C0 nd nt mwt mab mbe on1 ot2 lea mos) (hH : MH on1 ot2 lea mos mwt mab mbe nt nd) (hZ : ZR nd mwt mab) {d a x : Int32}
    (hx : (k = 0 ∧ P_OP_outlier ca b nd nt mwt mab mbe on1 ot2 lea mos d a x none C1) ∨ (k = 1 ∧ T_OP_outlier nd nt mwt mab mbe on1 ot2 lea mos d a x nNSE ∧ C1 = C0) ∨ (k = 2 ∧ T_OP_outlier nd nt mwt mab mbe on1 ot2 lea mos d a x nIAE ∧ C1 = C0))
    (hm : r = none ∧ ((∃ d9 a9 b9, d9 < nd ∧ 1 ≤ b9 ∧ b9 ≤ 10 ∧ a9 ≤ b9 ∧ d = nI d9 ∧ a = nI a9 ∧ x = nI b9 ∧ MV ca bm Cm1 0 nd nt fs9 ls9 cn9 lf9 mb9 mwt (va_up mab d9 a9) (va_up mbe d9 b9) on1 ot2 lea mos yrs bv) ∨ (∃ t, ((¬ isN d nd ∧ t = 1) ∨ (isN d nd ∧ ¬ (∃ a9 b9, 1 ≤ b9 ∧ b9 ≤ 10 ∧ a9 ≤ b9 ∧ a = nI a9 ∧ x = nI b9) ∧ t = 2)) ∧ MV ca bm Cm1 t nd nt fs9 ls9 cn9 lf9 mb9 mwt mab mbe on1 ot2 lea mos yrs bv))) : INV ca b bm C1 Cm1 k ∧ r = none := by
  have hd6 := hH.D.1
  obtain ⟨hr, hm⟩ := hm
  refine ⟨?_, hr⟩
  rcases hx with ⟨rfl, -, d9, a9, b9, h1, h2, h3, h4, h5, h6, h7, h8⟩ | ⟨rfl, h, rfl⟩ | ⟨rfl, h, rfl⟩
  · rcases hm with ⟨d1, a1, b1, g1, g2, g3, g4, g5, g6, g7, g8⟩ | ⟨t, g1, g3⟩
    · obtain rfl := nIi (by omega) (by omega) h5 g5
      obtain rfl := nIi (by omega) (by omega) h6 g6
      obtain rfl := nIi (by omega) (by omega) h7 g7
      refine ⟨_, _, _, _, _, _, _, _, _, h8, g8.g, MH_share hH h4 h3, fun e he => ?_, hZ.2⟩
      rw [va_up_ne _ _ (by omega)]; exact hZ.1 e he
    · rcases g1 with ⟨q, -⟩ | ⟨-, q, -⟩
      · exact absurd ⟨d9, h1, h5⟩ q
      · exact absurd ⟨a9, b9, h2, h3, h4, h6, h7⟩ q
  · rcases h with ⟨-, h⟩ | ⟨h, -⟩
    · rcases hm with ⟨d1, a1, b1, g1, g2, g3, g4, g5, g6, g7, g8⟩ | ⟨t, ⟨q, rfl⟩ | ⟨q, -, rfl⟩, g3⟩
      · exact absurd ⟨d1, g1, g5⟩ h
      · exact ⟨_, _, _, _, _, _, _, _, _, hM, g3.g, hH, hZ⟩
      · exact absurd q h
    · exact absurd h (by decide)
  · rcases h with ⟨h, -⟩ | ⟨-, h, h2⟩
    · exact absurd h (by decide)
    · rcases hm with ⟨d1, a1, b1, g1, g2, g3, g4, g5, g6, g7, g8⟩ | ⟨t, ⟨q, rfl⟩ | ⟨q, -, rfl⟩, g3⟩
      · exact absurd ⟨a1, b1, g2, g3, g4, g6, g7⟩ h2
      · exact absurd h q
      · exact ⟨_, _, _, _, _, _, _, _, _, hM, g3.g, hH, hZ⟩
theorem ag_row (hM : XM ca b C0 nd nt mwt mab mbe on1 ot2 lea mos) (hH : MH on1 ot2 lea mos mwt mab mbe nt nd) (hZ : ZR nd mwt mab) {d g lo hi : Int32}
    (hx : (k = 0 ∧ ∃ w : Int32, P_OP_row ca b nd nt mwt mab mbe on1 ot2 lea mos d g lo hi (some (.int w)) C1 ∧ f1 0 = w.toInt64) ∨ (k = 1 ∧ T_OP_row nd nt mwt mab mbe on1 ot2 lea mos d g lo hi nNSE ∧ C1 = C0) ∨ (k = 2 ∧ T_OP_row nd nt mwt mab mbe on1 ot2 lea mos d g lo hi nIAE ∧ C1 = C0))
    (hm : (∃ d9 g9 lo9 hi9, d9 < nd ∧ g9 < nd ∧ lo9 ≤ hi9 ∧ hi9 < 12 ∧ d = nI d9 ∧ g = nI g9 ∧ lo = nI lo9 ∧ hi = nI hi9 ∧ (((tOr on1 ot2 nt 6 (2 ^ d9) = tOr on1 ot2 nt 6 (2 ^ g9) ∨ (exM on1 ot2 nt d9 ∧ exM on1 ot2 nt g9)) ∧ r = some (.int (-1)) ∧ MV ca bm Cm1 0 nd nt fs9 ls9 cn9 lf9 mb9 mwt mab mbe on1 ot2 lea mos yrs bv) ∨ (¬ (tOr on1 ot2 nt 6 (2 ^ d9) = tOr on1 ot2 nt 6 (2 ^ g9) ∨ (exM on1 ot2 nt d9 ∧ exM on1 ot2 nt g9)) ∧ r = some (.int (nI nt)) ∧ MV ca bm Cm1 0 nd (nt + 1) fs9 ls9 cn9 lf9 mb9 mwt mab mbe (va_up on1 nt d9) (va_up ot2 nt g9) (va_up lea nt lo9) (va_up mos nt hi9) yrs bv))) ∨ (∃ t, ((¬ (isN d nd ∧ isN g nd) ∧ t = 1) ∨ ((isN d nd ∧ isN g nd) ∧ ¬ (∃ lo9 hi9, lo9 ≤ hi9 ∧ hi9 < 12 ∧ lo = nI lo9 ∧ hi = nI hi9) ∧ t = 2)) ∧ r = some (.int (nI 0)) ∧ MV ca bm Cm1 t nd nt fs9 ls9 cn9 lf9 mb9 mwt mab mbe on1 ot2 lea mos yrs bv)) : AG ca b bm k r C1 Cm1 f1 := by
  have hd6 := hH.D.1
  rcases hx with ⟨rfl, w, ⟨d9, g9, lo9, hi9, h1, h2, h3, h4, h5, h6, h7, h8, hh⟩, h9⟩ | ⟨rfl, h, rfl⟩ | ⟨rfl, h, rfl⟩
  · rcases hm with ⟨d1, g1, lo1, hi1, q1, q2, q3, q4, q5, q6, q7, q8, qq⟩ | ⟨t, q1, q2, q3⟩
    · obtain rfl := nIi (by omega) (by omega) h5 q5
      obtain rfl := nIi (by omega) (by omega) h6 q6
      obtain rfl := nIi (by omega) (by omega) h7 q7
      obtain rfl := nIi (by omega) (by omega) h8 q8
      rcases hh with ⟨i1, i2, i3⟩ | ⟨i1, i2, i3⟩ <;> rcases qq with ⟨j1, j2, j3⟩ | ⟨j1, j2, j3⟩
      · exact ⟨⟨_, _, _, _, _, _, _, _, _, i3, j3.g, hH, hZ⟩, _, j2, fun _ => by rw [h9, sii i2]⟩
      · exact absurd i1 j1
      · exact absurd j1 i1
      · exact ⟨⟨_, _, _, _, _, _, _, _, _, i3, j3.g, (MH_row hH h1 h2 (by omega) h4 i1).2, hZ⟩, _, j2, fun _ => by rw [h9, sii i2]⟩
    · rcases q1 with ⟨q, -⟩ | ⟨-, q, -⟩
      · exact absurd ⟨⟨d9, h1, h5⟩, ⟨g9, h2, h6⟩⟩ q
      · exact absurd ⟨lo9, hi9, h3, h4, h7, h8⟩ q
  · rcases h with ⟨-, h⟩ | ⟨h, -⟩
    · rcases hm with ⟨d1, g1, lo1, hi1, q1, q2, q3, q4, q5, q6, q7, q8, qq⟩ | ⟨t, ⟨q, rfl⟩ | ⟨q, -, rfl⟩, g2, g3⟩
      · exact absurd ⟨⟨d1, q1, q5⟩, ⟨g1, q2, q6⟩⟩ h
      · exact ⟨⟨_, _, _, _, _, _, _, _, _, hM, g3.g, hH, hZ⟩, _, g2, fun q => by cases q⟩
      · exact absurd q h
    · exact absurd h (by decide)
  · rcases h with ⟨h, -⟩ | ⟨-, h, h2⟩
    · exact absurd h (by decide)
    · rcases hm with ⟨d1, g1, lo1, hi1, q1, q2, q3, q4, q5, q6, q7, q8, qq⟩ | ⟨t, ⟨q, rfl⟩ | ⟨q, -, rfl⟩, g2, g3⟩
      · exact absurd ⟨lo1, hi1, q3, q4, q7, q8⟩ h2
      · exact absurd h q
      · exact ⟨⟨_, _, _, _, _, _, _, _, _, hM, g3.g, hH, hZ⟩, _, g2, fun q => by cases q⟩
theorem ag_member (hM : XM ca b C0 nd nt mwt mab mbe on1 ot2 lea mos) (hH : MH on1 ot2 lea mos mwt mab mbe nt nd) (hZ : ZR nd mwt mab) {d : Int32}
    (hx : (k = 0 ∧ ∃ w : Int32, P_OP_member ca b nd nt mwt mab mbe on1 ot2 lea mos d (some (.int w)) C1 ∧ f1 0 = w.toInt64) ∨ (k = 1 ∧ T_OP_member nd nt mwt mab mbe on1 ot2 lea mos d nNSE ∧ C1 = C0))
    (hm : (∃ d9, d9 < nd ∧ d = nI d9 ∧ ((exM on1 ot2 nt d9 ∧ r = some (.int (-1)) ∧ MV ca bm Cm1 0 nd nt fs9 ls9 cn9 lf9 mb9 mwt mab mbe on1 ot2 lea mos yrs bv) ∨ (¬ exM on1 ot2 nt d9 ∧ r = some (.int (nI nt)) ∧ MV ca bm Cm1 0 nd (nt + 1) fs9 ls9 cn9 lf9 mb9 mwt mab mbe (va_up on1 nt d9) (va_up ot2 nt d9) (va_up lea nt 0) (va_up mos nt 0) yrs bv))) ∨ (¬ isN d nd ∧ r = some (.int (nI 0)) ∧ MV ca bm Cm1 1 nd nt fs9 ls9 cn9 lf9 mb9 mwt mab mbe on1 ot2 lea mos yrs bv)) : AG ca b bm k r C1 Cm1 f1 := by
  have hd6 := hH.D.1
  rcases hx with ⟨rfl, w, ⟨d9, h1, h2, hh⟩, h9⟩ | ⟨rfl, ⟨-, h⟩, rfl⟩
  · rcases hm with ⟨d1, q1, q2, qq⟩ | ⟨q, -, -⟩
    · obtain rfl := nIi (by omega) (by omega) h2 q2
      rcases hh with ⟨i1, i2, i3⟩ | ⟨i1, i2, i3⟩ <;> rcases qq with ⟨j1, j2, j3⟩ | ⟨j1, j2, j3⟩
      · exact ⟨⟨_, _, _, _, _, _, _, _, _, i3, j3.g, hH, hZ⟩, _, j2, fun _ => by rw [h9, sii i2]⟩
      · exact absurd i1 j1
      · exact absurd j1 i1
      · exact ⟨⟨_, _, _, _, _, _, _, _, _, i3, j3.g, (MH_mem hH h1 i1).2, hZ⟩, _, j2, fun _ => by rw [h9, sii i2]⟩
    · exact absurd ⟨d9, h1, h2⟩ q
  · rcases hm with ⟨d1, q1, q2, -⟩ | ⟨q, g2, g3⟩
    · exact absurd ⟨d1, q1, q2⟩ h
    · exact ⟨⟨_, _, _, _, _, _, _, _, _, hM, g3.g, hH, hZ⟩, _, g2, fun q => by cases q⟩
end AGR
