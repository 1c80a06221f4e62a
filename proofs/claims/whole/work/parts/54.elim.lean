/-! What is asked of all: the sum over all ways; and the sums passed to a date -/
def anyM (mem : Nat → Bool) : Nat → Bool
  | 0 => false
  | n + 1 => mem n || anyM mem n
theorem anyM_iff {mem : Nat → Bool} {N : Nat} : anyM mem N = true ↔ ∃ d, d < N ∧ mem d = true := by
  induction N with
  | zero => exact ⟨fun h => (by cases h), fun ⟨d, h, _⟩ => (by omega)⟩
  | succ N ih =>
    show (mem N || anyM mem N) = true ↔ _
    rw [Bool.or_eq_true, ih]
    constructor
    · rintro (h | ⟨d, h1, h2⟩)
      · exact ⟨N, by omega, h⟩
      · exact ⟨d, by omega, h2⟩
    · rintro ⟨d, h1, h2⟩
      by_cases q : d = N
      · exact Or.inl (q ▸ h2)
      · exact Or.inr ⟨d, by omega, h2⟩
/-- a pair of bounds that is asked for -/
abbrev cB (o0 o1 : Nat → Bool) (p : Nat) : Prop := p / 12 ≤ p % 12 ∧ o0 (p / 12) = true ∧ o1 (p % 12) = true
def inB (g : Nat → Nat) (p d : Nat) : Nat := if p / 12 ≤ g d ∧ g d ≤ p % 12 then 1 else 0
def phi (mem o0 o1 : Nat → Bool) (N : Nat) (g : Nat → Nat) : Nat := if anyM mem N = true then sm (fun p => if cB o0 o1 p then pr (fun d => if mem d = true then inB g p d else 1) N else 0) 144 else 1
theorem phi_up {mem o0 o1 : Nat → Bool} {N : Nat} {g : Nat → Nat} {d y : Nat} (h : mem d = false) : phi mem o0 o1 N (va_up g d y) = phi mem o0 o1 N g := by
  unfold phi
  by_cases q : anyM mem N = true
  · rw [if_pos q, if_pos q]
    refine sm_congr (fun p _ => ?_)
    by_cases q2 : cB o0 o1 p
    · rw [if_pos q2, if_pos q2]
      refine pr_congr (fun i _ => ?_)
      by_cases q3 : mem i = true
      · rw [if_pos q3, if_pos q3]
        have : i ≠ d := fun e => by rw [e, h] at q3; cases q3
        unfold inB; rw [va_up_ne _ _ this]
      · rw [if_neg q3, if_neg q3]
    · rw [if_neg q2, if_neg q2]
  · rw [if_neg q, if_neg q]
/-- THE SUM OVER ALL WAYS -/
def WS (u v le mo : Nat → Nat) (R : Nat → Bool) (N nt : Nat) (mem o0 o1 : Nat → Bool) (W : Nat → Nat → Nat) : Nat := EE u v le mo N nt (fun _ => true) W R (phi mem o0 o1 N) Z0
def fixW (W : Nat → Nat → Nat) (x y : Nat) : Nat → Nat → Nat := fun d z => if d = x ∧ z ≠ y then 0 else W d z
def iot (x y : Nat) (g : Nat → Nat) : Nat := if g x = y then 1 else 0
theorem iot_up {x y d z : Nat} {g : Nat → Nat} (h : d ≠ x) : iot x y (va_up g d z) = iot x y g := by
  unfold iot; rw [va_up_ne _ _ (fun e => h e.symm)]
theorem yOk_Z0 : yOk Z0 := fun _ => (by decide : (0 : Nat) < 12)
theorem WS_fix {u v le mo : Nat → Nat} {R : Nat → Bool} {N nt : Nat} {mem o0 o1 : Nat → Bool} {W : Nat → Nat → Nat} {x y : Nat} (hx : x < N) : WS u v le mo R N nt mem o0 o1 (fixW W x y) = EE u v le mo N nt (fun _ => true) W R (fun g => phi mem o0 o1 N g * iot x y g) Z0 := by
  unfold WS EE
  refine asum_congr yOk_Z0 (fun g hg => ?_)
  have e : pS (fun _ => true) (fixW W x y) g N = pS (fun _ => true) W g N * iot x y g := by
    rw [pS_out (d := x) hx rfl, pS_out (S := W) (d := x) hx rfl]
    have e1 : pS (va_up (fun _ => true) x false) (fixW W x y) g N = pS (va_up (fun _ => true) x false) W g N := by
      refine pr_congr (fun i _ => ?_)
      by_cases q : i = x
      · rw [q, va_up_self]; rfl
      · unfold fixW; rw [if_neg (fun (q2 : i = x ∧ _) => q q2.1)]
    rw [e1, Nat.mul_assoc]
    congr 1
    unfold fixW iot
    by_cases q : g x = y
    · rw [if_neg (fun q2 => q2.2 q), if_pos q, Nat.mul_one]
    · rw [if_pos ⟨rfl, q⟩, if_neg q, Nat.mul_zero]
  rw [e]
  show _ = pS (fun _ => true) W g N * pR u v le mo R g nt * (phi mem o0 o1 N g * iot x y g)
  ac_rfl
/-- the ends of a row, and the rows in force -/
abbrev xv (tt : Nat → Option Nat) (i : Nat) : Nat := (tt i).getD 0
abbrev xR (tt : Nat → Option Nat) (nf : Nat → Bool) (i : Nat) : Bool := nf i && (tt i).isSome
theorem oth_ends {fr : Nat → Nat} {tt : Nat → Option Nat} {nf : Nat → Bool} {i d e : Nat} (h : oth fr tt nf i e = some d) : ((fr i = d ∧ xv tt i = e) ∨ (fr i = e ∧ xv tt i = d)) ∧ xR tt nf i = true := by
  obtain ⟨h1, c, h2, h3⟩ := oth_iff.mp h
  refine ⟨?_, by simp [xR, h1, h2]⟩
  rcases h3 with ⟨a1, a2⟩ | ⟨a0, a1, a2⟩
  · exact Or.inr ⟨a1, by simp [xv, h2, a2]⟩
  · exact Or.inl ⟨a2, by simp [xv, h2, a1]⟩
theorem mS_rng {fr le mo : Nat → Nat} {S : Nat → Nat → Nat} {i d e z : Nat} (hz : z < 12) (hde : d ≠ e) (h : fr i = d ∨ fr i = e) : rng (S d) (loA fr le mo i e z) (hiA fr le mo i e z) = mS fr le mo S i d z := by
  rw [← sm_rng12 _ (hiA_le hz)]
  unfold mS
  refine sm_congr (fun y hy => ?_)
  unfold loA hiA
  by_cases q : fr i = e
  · have q2 : fr i ≠ d := fun q3 => hde (q3.symm.trans q)
    simp only [if_pos q]
    by_cases q3 : z + le i ≤ y ∧ y ≤ z + mo i
    · rw [if_pos (by omega), if_pos (Or.inr ⟨q2, q3⟩)]
    · rw [if_neg (fun q4 => q3 (by omega)), if_neg (fun q4 => q4.elim (fun q5 => q2 q5.1) (fun q5 => q3 q5.2))]
  · have q2 : fr i = d := h.elim id (fun q3 => absurd q3 q)
    simp only [if_neg q]
    by_cases q3 : y + le i ≤ z ∧ z ≤ y + mo i
    · rw [if_pos (by omega), if_pos (Or.inl ⟨q2, q3⟩)]
    · rw [if_neg (fun q4 => q3 (by omega)), if_neg (fun q4 => q4.elim (fun q5 => q3 q5.2) (fun q5 => q5.1 q2))]
section
variable {fr le mo : Nat → Nat} {tt : Nat → Option Nat} {nf : Nat → Bool} {nt N x hm : Nat} {k : KQ}
/-- below place j the dates still stand, and their rows -/
abbrev IX (fr le mo : Nat → Nat) (tt : Nat → Option Nat) (nf : Nat → Bool) (nt N : Nat) (k : KQ) (j : Nat) (A R : Nat → Bool) : Prop :=
  (∀ t, t < j → A (k.2.2.2.1 t) = true) ∧
  (∀ i, i < nt → R i = true → xR tt nf i = true ∧ ∃ t p, t < j ∧ k.2.1 (k.2.2.2.1 t) = some p ∧ k.2.2.1 (k.2.2.2.1 t) = some i) ∧
  (∀ t p i, t < j → k.2.1 (k.2.2.2.1 t) = some p → k.2.2.1 (k.2.2.2.1 t) = some i → R i = true)
theorem IX.a1 {fr le mo : Nat → Nat} {tt : Nat → Option Nat} {nf : Nat → Bool} {nt N : Nat} {k : KQ} {j : Nat} {A R : Nat → Bool} (h : IX fr le mo tt nf nt N k j A R) : ∀ t, t < j → A (k.2.2.2.1 t) = true := h.1
theorem IX.r1 {fr le mo : Nat → Nat} {tt : Nat → Option Nat} {nf : Nat → Bool} {nt N : Nat} {k : KQ} {j : Nat} {A R : Nat → Bool} (h : IX fr le mo tt nf nt N k j A R) : ∀ i, i < nt → R i = true → xR tt nf i = true ∧ ∃ t p, t < j ∧ k.2.1 (k.2.2.2.1 t) = some p ∧ k.2.2.1 (k.2.2.2.1 t) = some i := h.2.1
theorem IX.r2 {fr le mo : Nat → Nat} {tt : Nat → Option Nat} {nf : Nat → Bool} {nt N : Nat} {k : KQ} {j : Nat} {A R : Nat → Bool} (h : IX fr le mo tt nf nt N k j A R) : ∀ t p i, t < j → k.2.1 (k.2.2.2.1 t) = some p → k.2.2.1 (k.2.2.2.1 t) = some i → R i = true := h.2.2
theorem IX.free (hO : FO fr tt nf nt N x k hm) {j : Nat} {A R : Nat → Bool} (h : IX fr le mo tt nf nt N k (j + 1) A R) (hj : j < N) {i : Nat} (hi : i < nt) (hR : R i = true) (hne : ∀ p, k.2.1 (k.2.2.2.1 j) = some p → k.2.2.1 (k.2.2.2.1 j) ≠ some i) : fr i ≠ k.2.2.2.1 j ∧ xv tt i ≠ k.2.2.2.1 j := by
  obtain ⟨-, t, p, ht, hp, hr⟩ := h.r1 i hi hR
  obtain ⟨j1, hj1, he, i1, hi1, hr1, ho⟩ := hO.pa t (by omega) p hp
  rw [hr] at hr1
  cases hr1
  have h1 : k.2.2.2.1 t ≠ k.2.2.2.1 j := fun e => by
    have := hO.inj t j (by omega) hj e
    subst this
    exact hne p hp hr
  have h2 : p ≠ k.2.2.2.1 j := fun e => by
    have := hO.inj j1 j (by omega) hj (he.trans e)
    omega
  rcases (oth_ends ho).1 with ⟨a, b⟩ | ⟨a, b⟩
  · rw [a, b]; exact ⟨h1, h2⟩
  · rw [a, b]; exact ⟨h2, h1⟩
/-- a date with a parent hands on -/
theorem IX.hand (hO : FO fr tt nf nt N x k hm) (hT : TN fr tt nt N) {j : Nat} {A R : Nat → Bool} (h : IX fr le mo tt nf nt N k (j + 1) A R) (hj : j < N) {p : Nat} (hp : k.2.1 (k.2.2.2.1 j) = some p) {S : Nat → Nat → Nat} {φ : (Nat → Nat) → Nat} {f : Nat → Nat} (hf : yOk f) (hφ : ∀ g y, yOk g → y < 12 → φ (va_up g (k.2.2.2.1 j) y) = φ g) : ∃ i, k.2.2.1 (k.2.2.2.1 j) = some i ∧ IX fr le mo tt nf nt N k j (va_up A (k.2.2.2.1 j) false) (va_up R i false) ∧ EE fr (xv tt) le mo N nt A S R φ f = EE fr (xv tt) le mo N nt (va_up A (k.2.2.2.1 j) false) (hdS fr le mo S (k.2.2.2.1 j) p i) (va_up R i false) φ f := by
  obtain ⟨j1, hj1, he, i, hi, hr, ho⟩ := hO.pa j hj p hp
  obtain ⟨o1, o2, o3⟩ := oth_ltN hT hi ho
  obtain ⟨hen, hxr⟩ := oth_ends ho
  refine ⟨i, hr, ⟨fun t ht => ?_, fun i1 hi1 hR => ?_, fun t p1 i1 ht hp1 hr1 => ?_⟩, ?_⟩
  · rw [va_up_ne _ _ (fun e => by have := hO.inj t j (by omega) hj e; omega)]; exact h.a1 t (by omega)
  · have q1 : i1 ≠ i := fun q2 => by rw [q2, va_up_self] at hR; cases hR
    rw [va_up_ne _ _ q1] at hR
    obtain ⟨h1, t, p1, ht, h2, h3⟩ := h.r1 i1 hi1 hR
    refine ⟨h1, t, p1, ?_, h2, h3⟩
    have : t ≠ j := fun e => by rw [e, hr] at h3; cases h3; exact q1 rfl
    omega
  · have q1 : i1 ≠ i := fun q2 => by
      subst q2
      obtain ⟨j2, hj2, he2, i2, hi2, hr2, ho2⟩ := hO.pa t (by omega) p1 hp1
      rw [hr1] at hr2
      cases hr2
      have n1 : k.2.2.2.1 t ≠ k.2.2.2.1 j := fun e => by have := hO.inj t j (by omega) hj e; omega
      have n2 : p1 ≠ k.2.2.2.1 j := fun e => by have := hO.inj j2 j (by omega) hj (he2.trans e); omega
      rcases hen with ⟨a, b⟩ | ⟨a, b⟩ <;> rcases (oth_ends ho2).1 with ⟨a2, b2⟩ | ⟨a2, b2⟩
      · exact n1 (a2.symm.trans a)
      · exact n2 (a2.symm.trans a)
      · exact n2 (b2.symm.trans b)
      · exact n1 (b2.symm.trans b)
    rw [va_up_ne _ _ q1]; exact h.r2 t p1 i1 (by omega) hp1 hr1
  · refine EE_take hf o1 (h.a1 j (by omega)) o2 (he ▸ h.a1 j1 (by omega)) o3 hi (h.r2 j p i (by omega) hp hr) hen (fun i1 hi1 hR1 hne => h.free hO hj hi1 hR1 (fun p2 _ e => hne (by rw [hr] at e; cases e; rfl))) hφ (fun z hz => ?_) (fun y hy _ h1 h2 z hz => ?_)
    · show rowS S p 12 _ p z = _
      unfold rowS
      rw [va_up_self, if_pos hz]
      show S p z * _ = _
      rw [mS_rng hz o3 (hen.elim (fun q => Or.inl q.1) (fun q => Or.inr q.1))]
    · show rowS S p 12 _ y z = _
      unfold rowS
      rw [va_up_ne _ _ h2]
/-- the trees that are not at home -/
theorem hDn_1 (hO : FO fr tt nf nt N x k hm) (hT : TN fr tt nt N) {im : Nat → Bool} (him : ∀ d, d < N → (im d = true ↔ ∃ i, i < nt ∧ memO fr tt nf i = some d)) {φ : (Nat → Nat) → Nat} {f : Nat → Nat} (hf : yOk f) (hφ : ∀ d, im d = false → d ≠ x → ∀ g y, yOk g → y < 12 → φ (va_up g d y) = φ g) : ∀ (n : Nat) (S : Nat → Nat → Nat) (fa : Nat) (A R : Nat → Bool), hm + n ≤ N → IX fr le mo tt nf nt N k (hm + n) A R → (∀ t, hm + n ≤ t → t < N → A (k.2.2.2.1 t) = im (k.2.2.2.1 t)) → ∃ A1 R1, IX fr le mo tt nf nt N k hm A1 R1 ∧ (∀ t, hm ≤ t → t < N → A1 (k.2.2.2.1 t) = im (k.2.2.2.1 t)) ∧ EE fr (xv tt) le mo N nt A S R φ f * fa = EE fr (xv tt) le mo N nt A1 (hDn fr le mo k.2.1 k.2.2.1 im k.2.2.2.1 hm n (S, fa)).1 R1 φ f * (hDn fr le mo k.2.1 k.2.2.1 im k.2.2.2.1 hm n (S, fa)).2 := by
  intro n
  induction n with
  | zero => intro S fa A R _ h1 h2; exact ⟨A, R, h1, h2, rfl⟩
  | succ n ih =>
    intro S fa A R hn h1 h2
    have h1 : IX fr le mo tt nf nt N k ((hm + n) + 1) A R := h1
    have hj : hm + n < N := by omega
    have hh1 := hO.h1
    have hnx : k.2.2.2.1 (hm + n) ≠ x := fun e => by
      have := hO.inj (hm + n) 0 hj (by omega) (e.trans hO.r0.1.symm)
      omega
    have hAk : ∀ (t : Nat) (v : Bool), hm + n ≤ t → t < N → im (k.2.2.2.1 (hm + n)) = v → va_up A (k.2.2.2.1 (hm + n)) v (k.2.2.2.1 t) = im (k.2.2.2.1 t) := fun t v h3 h4 h5 => by
      by_cases q : t = hm + n
      · rw [q, va_up_self]; exact h5.symm
      · rw [va_up_ne _ _ (fun e => q (hO.inj t (hm + n) h4 hj e))]; exact h2 t (by omega) h4
    cases hp : k.2.1 (k.2.2.2.1 (hm + n)) with
    | some p =>
      have hi0 : im (k.2.2.2.1 (hm + n)) = false := by
        cases q : im (k.2.2.2.1 (hm + n)) with
        | false => rfl
        | true =>
          obtain ⟨i, hi, hm1⟩ := (him _ (hO.lt _ hj)).mp q
          have := hO.mem i (hm + n) hi (by omega) hj hm1
          rw [hp] at this; cases this
      obtain ⟨i, hr, g1, g2⟩ := h1.hand hO hT hj hp (S := S) hf (hφ _ hi0 hnx)
      obtain ⟨A1, R1, e1, e2, e3⟩ := ih (hdS fr le mo S (k.2.2.2.1 (hm + n)) p i) fa _ _ (by omega) g1 (fun t h3 h4 => hAk t false h3 h4 hi0)
      refine ⟨A1, R1, e1, e2, ?_⟩
      rw [g2, e3]
      show _ = EE fr (xv tt) le mo N nt A1 (hDn fr le mo k.2.1 k.2.2.1 im k.2.2.2.1 hm n (hdO fr le mo k.2.1 k.2.2.1 im (k.2.2.2.1 (hm + n)) (S, fa))).1 R1 φ f * (hDn fr le mo k.2.1 k.2.2.1 im k.2.2.2.1 hm n (hdO fr le mo k.2.1 k.2.2.1 im (k.2.2.2.1 (hm + n)) (S, fa))).2
      rw [hdO_some hp hr]
    | none =>
      have hno : ∀ t, t < hm + n + 1 → ∀ p, k.2.1 (k.2.2.2.1 t) = some p → t < hm + n := fun t ht p hp1 => by
        have : t ≠ hm + n := fun e => by rw [e, hp] at hp1; cases hp1
        omega
      cases hi : im (k.2.2.2.1 (hm + n)) with
      | true =>
        obtain ⟨A1, R1, e1, e2, e3⟩ := ih S fa A R (by omega) ⟨fun t ht => h1.a1 t (by omega), fun i hi1 hR => by
          obtain ⟨g1, t, p, g2, g3, g4⟩ := h1.r1 i hi1 hR
          exact ⟨g1, t, p, hno t g2 p g3, g3, g4⟩, fun t p i ht => h1.r2 t p i (by omega)⟩ (fun t h3 h4 => by
          by_cases q : t = hm + n
          · rw [q, hi]; exact h1.a1 _ (by omega)
          · exact h2 t (by omega) h4)
        refine ⟨A1, R1, e1, e2, ?_⟩
        rw [e3]
        show _ = EE fr (xv tt) le mo N nt A1 (hDn fr le mo k.2.1 k.2.2.1 im k.2.2.2.1 hm n (hdO fr le mo k.2.1 k.2.2.1 im (k.2.2.2.1 (hm + n)) (S, fa))).1 R1 φ f * (hDn fr le mo k.2.1 k.2.2.1 im k.2.2.2.1 hm n (hdO fr le mo k.2.1 k.2.2.1 im (k.2.2.2.1 (hm + n)) (S, fa))).2
        rw [hdO_mem hp hi]
      | false =>
        obtain ⟨A1, R1, e1, e2, e3⟩ := ih S (fa * tot S (k.2.2.2.1 (hm + n))) (va_up A (k.2.2.2.1 (hm + n)) false) R (by omega) ⟨fun t ht => by
            rw [va_up_ne _ _ (fun e => by have := hO.inj t (hm + n) (by omega) hj e; omega)]; exact h1.a1 t (by omega), fun i hi1 hR => by
          obtain ⟨g1, t, p, g2, g3, g4⟩ := h1.r1 i hi1 hR
          exact ⟨g1, t, p, hno t g2 p g3, g3, g4⟩, fun t p i ht => h1.r2 t p i (by omega)⟩ (fun t h3 h4 => hAk t false h3 h4 hi)
        refine ⟨A1, R1, e1, e2, ?_⟩
        rw [EE_drop hf (hO.lt _ hj) (h1.a1 _ (by omega)) (fun i hi1 hR => h1.free hO hj hi1 hR (fun p q => by rw [hp] at q; cases q)) (hφ _ hi hnx), Nat.mul_assoc, Nat.mul_comm (sm _ 12) fa, e3]
        show _ = EE fr (xv tt) le mo N nt A1 (hDn fr le mo k.2.1 k.2.2.1 im k.2.2.2.1 hm n (hdO fr le mo k.2.1 k.2.2.1 im (k.2.2.2.1 (hm + n)) (S, fa))).1 R1 φ f * (hDn fr le mo k.2.1 k.2.2.1 im k.2.2.2.1 hm n (hdO fr le mo k.2.1 k.2.2.1 im (k.2.2.2.1 (hm + n)) (S, fa))).2
        rw [hdO_fac hp hi]
/-- the tree at home -/
theorem hDn_2 (hO : FO fr tt nf nt N x k hm) (hT : TN fr tt nt N) {im : Nat → Bool} {φ : (Nat → Nat) → Nat} {f : Nat → Nat} (hf : yOk f) (hφ : ∀ d, d ≠ x → ∀ g y, yOk g → y < 12 → φ (va_up g d y) = φ g) : ∀ (n : Nat) (S : Nat → Nat → Nat) (fa : Nat) (A R : Nat → Bool), 1 + n ≤ hm → IX fr le mo tt nf nt N k (1 + n) A R → (∀ t, 1 + n ≤ t → t < N → A (k.2.2.2.1 t) = false) → ∃ A1 R1, IX fr le mo tt nf nt N k 1 A1 R1 ∧ (∀ t, 1 ≤ t → t < N → A1 (k.2.2.2.1 t) = false) ∧ EE fr (xv tt) le mo N nt A S R φ f = EE fr (xv tt) le mo N nt A1 (hDn fr le mo k.2.1 k.2.2.1 im k.2.2.2.1 1 n (S, fa)).1 R1 φ f ∧ (hDn fr le mo k.2.1 k.2.2.1 im k.2.2.2.1 1 n (S, fa)).2 = fa := by
  intro n
  induction n with
  | zero => intro S fa A R _ h1 h2; exact ⟨A, R, h1, h2, rfl, rfl⟩
  | succ n ih =>
    intro S fa A R hn h1 h2
    have h1 : IX fr le mo tt nf nt N k ((1 + n) + 1) A R := h1
    have hhN := hO.hN
    have hj : 1 + n < N := by omega
    have hnx : k.2.2.2.1 (1 + n) ≠ x := fun e => by
      have := hO.inj (1 + n) 0 hj (by omega) (e.trans hO.r0.1.symm)
      omega
    cases hp : k.2.1 (k.2.2.2.1 (1 + n)) with
    | none => exact absurd hp (hO.home (1 + n) (by omega) (by omega))
    | some p =>
      obtain ⟨i, hr, g1, g2⟩ := h1.hand hO hT hj hp (S := S) hf (hφ _ hnx)
      obtain ⟨A1, R1, e1, e2, e3, e4⟩ := ih (hdS fr le mo S (k.2.2.2.1 (1 + n)) p i) fa _ _ (by omega) g1 (fun t h3 h4 => by
        by_cases q : t = 1 + n
        · rw [q, va_up_self]
        · rw [va_up_ne _ _ (fun e => q (hO.inj t (1 + n) h4 hj e))]; exact h2 t (by omega) h4)
      have e : hDn fr le mo k.2.1 k.2.2.1 im k.2.2.2.1 1 (n + 1) (S, fa) = hDn fr le mo k.2.1 k.2.2.1 im k.2.2.2.1 1 n (hdS fr le mo S (k.2.2.2.1 (1 + n)) p i, fa) := by
        show hDn fr le mo k.2.1 k.2.2.1 im k.2.2.2.1 1 n (hdO fr le mo k.2.1 k.2.2.1 im (k.2.2.2.1 (1 + n)) (S, fa)) = _
        rw [hdO_some hp hr]
      rw [e]
      exact ⟨A1, R1, e1, e2, g2.trans e3, e4⟩
end
