theorem mz_e1 (S T p q r p1 q1 r1 : Int) : (T * S) * (p * (p1 * r1) + q * (q1 * r1) - r * (p1 * p1 + q1 * q1)) = S * (r1 * (T * (p * p1 + q * q1))) - (r * S * T) * (p1 * p1 + q1 * q1) := by grind
theorem mz_e2 (S T Tw r p1 q1 r1 : Int) : S * (r1 * (Tw * (p1 * p1 + q1 * q1))) - (r * S * T) * (p1 * p1 + q1 * q1) = (p1 * p1 + q1 * q1) * (r1 * S * Tw - r * S * T) := by grind
theorem mz_e3 {p q p1 q1 : Int} (X Y : Int) (h : p1 * q = q1 * p) : (p1 * p1 + q1 * q1) * (p * X + q * Y) = (p * p1 + q * q1) * (p1 * X + q1 * Y) := by
  have e : (p1 * p1 + q1 * q1) * (p * X + q * Y) - (p * p1 + q * q1) * (p1 * X + q1 * Y) = (p1 * q - q1 * p) * (p1 * Y - q1 * X) := by clear h; grind
  rw [show p1 * q - q1 * p = 0 by omega, Int.zero_mul] at e
  omega
theorem mz_e4 (D0 p q r p1 q1 r1 : Int) : D0 * (p * (p1 * r1) + q * (q1 * r1) - r * (p1 * p1 + q1 * q1)) = (p * p1 + q * q1) * (r1 * D0) - (p1 * p1 + q1 * q1) * (r * D0) := by grind
theorem mz_e5 {T S p q a b p1 q1 : Int} (ea : T * a = S * p1) (eb : T * b = S * q1) : T * mz_cr p q a b = S * mz_cr p q p1 q1 := by
  have x1 : T * mz_cr p q a b = p * (T * b) - q * (T * a) := by clear ea eb; unfold mz_cr; grind
  have x2 : S * mz_cr p q p1 q1 = p * (S * q1) - q * (S * p1) := by clear ea eb x1; unfold mz_cr; grind
  rw [x1, x2, ea, eb]
theorem mz_e6 {T S p q a b p1 q1 : Int} (ea : T * a = S * p1) (eb : T * b = S * q1) : T * (p * a + q * b) = S * (p * p1 + q * q1) := by
  have x1 : T * (p * a + q * b) = p * (T * a) + q * (T * b) := by clear ea eb; grind
  have x2 : S * (p * p1 + q * q1) = p * (S * p1) + q * (S * q1) := by clear ea eb x1; grind
  rw [x1, x2, ea, eb]
theorem mz_e7 {T S p q a b p1 q1 : Int} (ea : T * a = S * p1) (eb : T * b = S * q1) : T * mz_cr a b p q = S * mz_cr p1 q1 p q := by
  have x1 : T * mz_cr a b p q = (T * a) * q - (T * b) * p := by clear ea eb; unfold mz_cr; grind
  have x2 : S * mz_cr p1 q1 p q = (S * p1) * q - (S * q1) * p := by clear ea eb x1; unfold mz_cr; grind
  rw [x1, x2, ea, eb]
theorem mz_e8 (e p q r p1 q1 r1 p2 q2 r2 : Int) : (p1 * p1 + q1 * q1) * (p * (-e * (r1 * q2 - r2 * q1)) + q * (-e * (p1 * r2 - p2 * r1)) - r * (-e * mz_cr p1 q1 p2 q2)) = (-(e * mz_cr p1 q1 p2 q2)) * (p * (p1 * r1) + q * (q1 * r1) - r * (p1 * p1 + q1 * q1)) - (-(e * mz_cr p1 q1 p q)) * (p2 * (p1 * r1) + q2 * (q1 * r1) - r2 * (p1 * p1 + q1 * q1)) := by unfold mz_cr; grind
theorem mz_e9 (e p q r p1 q1 r1 p2 q2 r2 : Int) : (p1 * p1 + q1 * q1) * (r1 * (e * mz_cr p2 q2 p q)) - (p1 * p1 + q1 * q1) * (r2 * (e * mz_cr p1 q1 p q) - r * (e * mz_cr p1 q1 p2 q2)) = (-(e * mz_cr p1 q1 p2 q2)) * (p * (p1 * r1) + q * (q1 * r1) - r * (p1 * p1 + q1 * q1)) - (-(e * mz_cr p1 q1 p q)) * (p2 * (p1 * r1) + q2 * (q1 * r1) - r2 * (p1 * p1 + q1 * q1)) := by unfold mz_cr; grind
theorem mz_e10 (e p q p1 q1 p2 q2 X Y : Int) : e * mz_cr p2 q2 p q * (p1 * X + q1 * Y) = e * mz_cr p1 q1 p q * (p2 * X + q2 * Y) + -(e * mz_cr p1 q1 p2 q2) * (p * X + q * Y) := by unfold mz_cr; grind
theorem mz_e11 (e p q p1 q1 r r1 p2 q2 r2 D0 : Int) : e * mz_cr p1 q1 p q * (r2 * D0) + -(e * mz_cr p1 q1 p2 q2) * (r * D0) = D0 * (r2 * (e * mz_cr p1 q1 p q) - r * (e * mz_cr p1 q1 p2 q2)) := by grind
/-- a row that breaks the foot of the row of the least bound isn't parallel to it -/
theorem mz_edgeZ {G : mz_G} {a b : Int} (hF : mz_Feas G) {p1 q1 r1 : Int} (m1 : (p1, q1, r1) ∈ G) (hc : mz_cr p1 q1 a b = 0) (hdot : 0 < p1 * a + q1 * b)
    (hmin : ∀ t d, mz_DC G a b t d → (r1 * mz_n a b) * d ≤ t * mz_n p1 q1) {p q r : Int} (mw : (p, q, r) ∈ G) (he : 0 < p * (p1 * r1) + q * (q1 * r1) - r * (p1 * p1 + q1 * q1)) : mz_cr p1 q1 p q ≠ 0 := by
  obtain ⟨hS, hT, ea, eb⟩ := mz_par hc hdot
  have hN : 0 < p1 * p1 + q1 * q1 := mz_n2 (fun z => by rw [z.1, z.2] at hdot; omega)
  obtain ⟨X0, Y0, D0, hD0, hft⟩ := hF
  intro hz
  have hz' : p1 * q = q1 * p := by unfold mz_cr at hz; omega
  by_cases hd1 : 0 < p * p1 + q * q1
  · have hcr1 : mz_cr p q p1 q1 = 0 := by
      have := Int.mul_comm p q1
      have := Int.mul_comm q p1
      unfold mz_cr
      omega
    obtain ⟨-, hTw, fa, fb⟩ := mz_par hcr1 hd1
    have hcr : mz_cr p q a b = 0 := by
      have t1 := mz_e5 (p := p) (q := q) ea eb
      rw [hcr1, Int.mul_zero] at t1
      rcases Int.mul_eq_zero.mp t1 with z | z
      · omega
      · exact z
    have hd2 : 0 < p * a + q * b := by
      have := Int.mul_pos hS hd1
      rw [← mz_e6 ea eb] at this
      exact Int.pos_of_mul_pos_right this hT
    have hm := hmin _ _ (Or.inl ⟨_, _, _, mw, hcr, hd2, rfl, rfl⟩)
    have e1 : mz_n p q * (p1 * p1 + q1 * q1) = mz_n p1 q1 * (p * p1 + q * q1) := by
      have y1 : mz_n p q * (p1 * p1 + q1 * q1) = (mz_n p q * p1) * p1 + (mz_n p q * q1) * q1 := by grind
      have y2 : mz_n p1 q1 * (p * p1 + q * q1) = (mz_n p1 q1 * p) * p1 + (mz_n p1 q1 * q) * q1 := by grind
      rw [y1, y2, fa, fb]
    have x1 := Int.mul_pos (Int.mul_pos hT hS) he
    rw [mz_e1, ← e1, mz_e2] at x1
    have x4 := Int.pos_of_mul_pos_right x1 hN
    omega
  · have e1 := mz_e3 X0 Y0 hz'
    have i1 := Int.mul_le_mul_of_nonpos_left (show p * p1 + q * q1 ≤ 0 by omega) (hft _ _ _ m1)
    have i2 := Int.mul_le_mul_of_nonneg_left (hft _ _ _ mw) (Int.le_of_lt hN)
    have i3 := Int.mul_pos hD0 he
    rw [mz_e4] at i3
    omega
/-- a row that gives the least bound: its foot is a point of the guard, or its corner with another row is -/
theorem mz_edge {G : mz_G} {a b : Int} (hF : mz_Feas G) {p1 q1 r1 : Int} (m1 : (p1, q1, r1) ∈ G) (hc : mz_cr p1 q1 a b = 0) (hdot : 0 < p1 * a + q1 * b)
    (hmin : ∀ t d, mz_DC G a b t d → (r1 * mz_n a b) * d ≤ t * mz_n p1 q1) :
    mz_ft G (p1 * r1) (q1 * r1) (p1 * p1 + q1 * q1) ∨ ∃ p2 q2 r2 : Int, (p2, q2, r2) ∈ G ∧ ∃ g : Int, (g = 1 ∨ g = -1) ∧ 0 < g * mz_cr p1 q1 p2 q2 ∧ mz_ft G (g * (r1 * q2 - r2 * q1)) (g * (p1 * r2 - p2 * r1)) (g * mz_cr p1 q1 p2 q2) := by
  obtain ⟨hS, hT, ea, eb⟩ := mz_par hc hdot
  have hN : 0 < p1 * p1 + q1 * q1 := mz_n2 (fun z => by rw [z.1, z.2] at hdot; omega)
  have hZ : ∀ p q r : Int, (p, q, r) ∈ G → 0 < p * (p1 * r1) + q * (q1 * r1) - r * (p1 * p1 + q1 * q1) → mz_cr p1 q1 p q ≠ 0 := fun p q r mw he => mz_edgeZ hF m1 hc hdot hmin mw he
  obtain ⟨X0, Y0, D0, hD0, hft⟩ := hF
  by_cases hfoot : mz_ft G (p1 * r1) (q1 * r1) (p1 * p1 + q1 * q1)
  · exact Or.inl hfoot
  refine Or.inr ?_
  obtain ⟨p0, q0, r0, m0, h0⟩ : ∃ p q r : Int, (p, q, r) ∈ G ∧ ¬ p * (p1 * r1) + q * (q1 * r1) ≤ r * (p1 * p1 + q1 * q1) := by
    by_cases hx : ∃ p q r : Int, (p, q, r) ∈ G ∧ ¬ p * (p1 * r1) + q * (q1 * r1) ≤ r * (p1 * p1 + q1 * q1)
    · exact hx
    · exact absurd (fun p q r hw => Classical.byContradiction (fun z => hx ⟨p, q, r, hw, z⟩)) hfoot
  have hc0 := hZ p0 q0 r0 m0 (by omega)
  obtain ⟨ε, hε, hε0⟩ : ∃ ε : Int, (ε = 1 ∨ ε = -1) ∧ ε * mz_cr p1 q1 p0 q0 < 0 := by
    rcases Int.lt_or_gt_of_ne hc0 with z | z
    · exact ⟨1, Or.inl rfl, by omega⟩
    · exact ⟨-1, Or.inr rfl, by omega⟩
  obtain ⟨⟨p2, q2, r2⟩, m2, ⟨he2, hk2⟩, hbest⟩ := mz_best (fun w : Int × Int × Int => 0 < w.1 * (p1 * r1) + w.2.1 * (q1 * r1) - w.2.2 * (p1 * p1 + q1 * q1) ∧ ε * mz_cr p1 q1 w.1 w.2.1 < 0) (fun w => w.1 * (p1 * r1) + w.2.1 * (q1 * r1) - w.2.2 * (p1 * p1 + q1 * q1)) (fun w => -(ε * mz_cr p1 q1 w.1 w.2.1)) G (fun w _ h => by have := h.2; omega) ⟨(p0, q0, r0), m0, by dsimp only; omega, hε0⟩
  dsimp only at he2 hk2 hbest
  refine ⟨p2, q2, r2, m2, -ε, by omega, by rw [Int.neg_mul]; omega, ?_⟩
  intro p q r mw
  refine Int.not_lt.mp (fun hv => ?_)
  have hpos := Int.mul_pos hN (show 0 < p * (-ε * (r1 * q2 - r2 * q1)) + q * (-ε * (p1 * r2 - p2 * r1)) - r * (-ε * mz_cr p1 q1 p2 q2) by omega)
  rw [mz_e8] at hpos
  have hb := hbest (p, q, r) mw
  dsimp only at hb
  have hz := hZ p q r mw
  have hk2' : 0 < -(ε * mz_cr p1 q1 p2 q2) := by omega
  rcases Int.lt_trichotomy (ε * mz_cr p1 q1 p q) 0 with hs | hs | hs
  · have x1 := Int.mul_pos (show 0 < -(ε * mz_cr p1 q1 p q) by omega) he2
    have he : 0 < p * (p1 * r1) + q * (q1 * r1) - r * (p1 * p1 + q1 * q1) := by
      refine Int.pos_of_mul_pos_right (a := -(ε * mz_cr p1 q1 p2 q2)) (by omega) hk2'
    have hb := hb ⟨he, hs⟩
    have c1 := Int.mul_comm (p * (p1 * r1) + q * (q1 * r1) - r * (p1 * p1 + q1 * q1)) (-(ε * mz_cr p1 q1 p2 q2))
    have c2 := Int.mul_comm (p2 * (p1 * r1) + q2 * (q1 * r1) - r2 * (p1 * p1 + q1 * q1)) (-(ε * mz_cr p1 q1 p q))
    omega
  · rw [hs, Int.neg_zero, Int.zero_mul, Int.sub_zero] at hpos
    have he := Int.pos_of_mul_pos_right hpos hk2'
    have : mz_cr p1 q1 p q = 0 := by rcases hε with rfl | rfl <;> omega
    exact hz he this
  · have hm2 : r1 * (ε * mz_cr p2 q2 p q) ≤ r2 * (ε * mz_cr p1 q1 p q) - r * (ε * mz_cr p1 q1 p2 q2) := by
      by_cases hk : 0 < ε * mz_cr p2 q2 p q
      · have g1 := mz_e7 (p := p) (q := q) ea eb
        have g2 := mz_e7 (p := p2) (q := q2) ea eb
        have g1' : mz_n p1 q1 * (ε * mz_cr a b p q) = mz_n a b * (ε * mz_cr p1 q1 p q) := by
          rw [Int.mul_left_comm, g1, Int.mul_left_comm]
        have g2' : mz_n p1 q1 * (ε * mz_cr p2 q2 a b) = mz_n a b * (-(ε * mz_cr p1 q1 p2 q2)) := by
          rw [mz_sw, Int.mul_neg, Int.mul_left_comm, g2, Int.mul_left_comm, Int.mul_neg]
        have l1 : 0 < ε * mz_cr a b p q := by
          refine Int.pos_of_mul_pos_right (a := mz_n p1 q1) ?_ hT
          rw [g1']; exact Int.mul_pos hS hs
        have l2 : 0 < ε * mz_cr p2 q2 a b := by
          refine Int.pos_of_mul_pos_right (a := mz_n p1 q1) ?_ hT
          rw [g2']; exact Int.mul_pos hS hk2'
        have hm := hmin _ _ (Or.inr ⟨_, _, _, _, _, _, m2, mw, ε, hε, hk, Int.le_of_lt l1, Int.le_of_lt l2, rfl, rfl⟩)
        have x1 : (r2 * (ε * mz_cr a b p q) + r * (ε * mz_cr p2 q2 a b)) * mz_n p1 q1 = r2 * (mz_n p1 q1 * (ε * mz_cr a b p q)) + r * (mz_n p1 q1 * (ε * mz_cr p2 q2 a b)) := by
          generalize ε * mz_cr a b p q = A
          generalize ε * mz_cr p2 q2 a b = B
          generalize mz_n p1 q1 = C
          grind
        rw [x1, g1', g2'] at hm
        have x2 : r1 * mz_n a b * (ε * mz_cr p2 q2 p q) = mz_n a b * (r1 * (ε * mz_cr p2 q2 p q)) := by
          rw [Int.mul_comm r1, Int.mul_assoc]
        have x3 : r2 * (mz_n a b * (ε * mz_cr p1 q1 p q)) + r * (mz_n a b * -(ε * mz_cr p1 q1 p2 q2)) = mz_n a b * (r2 * (ε * mz_cr p1 q1 p q) - r * (ε * mz_cr p1 q1 p2 q2)) := by
          generalize ε * mz_cr p1 q1 p q = A
          generalize ε * mz_cr p1 q1 p2 q2 = B
          generalize mz_n a b = C
          grind
        rw [x2, x3] at hm
        exact Int.le_of_mul_le_mul_left hm hS
      · have i1 := Int.mul_le_mul_of_nonneg_left (hft _ _ _ m2) (Int.le_of_lt hs)
        have i2 := Int.mul_le_mul_of_nonneg_left (hft _ _ _ mw) (Int.le_of_lt hk2')
        have i3 := Int.mul_le_mul_of_nonpos_left (show ε * mz_cr p2 q2 p q ≤ 0 by omega) (hft _ _ _ m1)
        rw [mz_e10] at i3
        have e2 := mz_e11 ε p q p1 q1 r r1 p2 q2 r2 D0
        have e3 : ε * mz_cr p2 q2 p q * (r1 * D0) = D0 * (r1 * (ε * mz_cr p2 q2 p q)) := by
          rw [Int.mul_comm, Int.mul_comm r1, Int.mul_assoc]
        refine Int.le_of_mul_le_mul_left (a := D0) ?_ hD0
        omega
    have hm3 := Int.mul_le_mul_of_nonneg_left hm2 (Int.le_of_lt hN)
    have e4 := mz_e9 ε p q r p1 q1 r1 p2 q2 r2
    omega
/-- the points that the reference tries -/
def mz_MP (G : mz_G) (X Y D : Int) : Prop := (X = 0 ∧ Y = 0 ∧ D = 1) ∨ (∃ p q r : Int, (p, q, r) ∈ G ∧ 0 < p * p + q * q ∧ X = p * r ∧ Y = q * r ∧ D = p * p + q * q) ∨ ∃ p1 q1 r1 p2 q2 r2 g : Int, (p1, q1, r1) ∈ G ∧ (p2, q2, r2) ∈ G ∧ (g = 1 ∨ g = -1) ∧ 0 < g * mz_cr p1 q1 p2 q2 ∧ X = g * (r1 * q2 - r2 * q1) ∧ Y = g * (p1 * r2 - p2 * r1) ∧ D = g * mz_cr p1 q1 p2 q2
theorem mz_MPpos {G : mz_G} {X Y D : Int} (h : mz_MP G X Y D) : 0 < D := by
  rcases h with ⟨-, -, rfl⟩ | ⟨p, q, r, -, h, -, -, rfl⟩ | ⟨p1, q1, r1, p2, q2, r2, g, -, -, -, h, -, -, rfl⟩
  · omega
  · exact h
  · exact h
theorem mz_s1 (g p1 q1 r1 p2 q2 r2 : Int) : p1 * (g * (r1 * q2 - r2 * q1)) + q1 * (g * (p1 * r2 - p2 * r1)) = r1 * (g * mz_cr p1 q1 p2 q2) := by unfold mz_cr; grind
theorem mz_s2 (g p1 q1 r1 p2 q2 r2 : Int) : p2 * (g * (r1 * q2 - r2 * q1)) + q2 * (g * (p1 * r2 - p2 * r1)) = r2 * (g * mz_cr p1 q1 p2 q2) := by unfold mz_cr; grind
theorem mz_s3 {T S a b p q r X Y D : Int} (ea : T * a = S * p) (eb : T * b = S * q) (h : p * X + q * Y = r * D) : T * (a * X + b * Y) = r * S * D := by
  have x1 : T * (a * X + b * Y) = (T * a) * X + (T * b) * Y := by clear ea eb h; grind
  have x2 : (S * p) * X + (S * q) * Y = S * (p * X + q * Y) := by clear ea eb h x1; grind
  rw [x1, ea, eb, x2, h]
  clear ea eb h x1 x2
  grind
/-- the least bound, if it comes of one row -/
theorem mz_strong1 {G : mz_G} {a b : Int} (hF : mz_Feas G) {p q r : Int} (m : (p, q, r) ∈ G) (hc : mz_cr p q a b = 0) (hdot : 0 < p * a + q * b)
    (hmin : ∀ t d, mz_DC G a b t d → (r * mz_n a b) * d ≤ t * mz_n p q) : ∃ X Y D : Int, mz_MP G X Y D ∧ mz_ft G X Y D ∧ mz_n p q * (a * X + b * Y) = r * mz_n a b * D := by
  obtain ⟨hS, hT, ea, eb⟩ := mz_par hc hdot
  rcases mz_edge hF m hc hdot hmin with h | ⟨p2, q2, r2, m2, g, hg, hd, h⟩
  · have hN : 0 < p * p + q * q := mz_n2 (fun z => by rw [z.1, z.2] at hdot; omega)
    exact ⟨_, _, _, Or.inr (Or.inl ⟨p, q, r, m, hN, rfl, rfl, rfl⟩), h, mz_s3 ea eb (by grind)⟩
  · exact ⟨_, _, _, Or.inr (Or.inr ⟨p, q, r, p2, q2, r2, g, m, m2, hg, hd, rfl, rfl, rfl⟩), h, mz_s3 ea eb (mz_s1 g p q r p2 q2 r2)⟩
theorem mz_s4 {d l p q a b : Int} (ha : d * a = l * p) (hb : d * b = l * q) : d * (p * a + q * b) = l * (p * p + q * q) := by
  have x1 : d * (p * a + q * b) = p * (d * a) + q * (d * b) := by clear ha hb; grind
  rw [x1, ha, hb]
  clear ha hb x1
  grind
theorem mz_s5 {T S d l a p : Int} (h1 : T * a = S * p) (h2 : d * a = l * p) : (S * d) * p = (l * T) * p := by
  have x1 : (S * d) * p = d * (S * p) := by clear h1 h2; grind
  have x2 : (l * T) * p = T * (l * p) := by clear h1 h2 x1; grind
  rw [x1, x2, ← h1, ← h2]
  clear x1 x2
  grind
/-- two rows, one of which counts for nothing -/
theorem mz_strong2 {G : mz_G} {a b : Int} (hab : ¬ (a = 0 ∧ b = 0)) (hF : mz_Feas G) {p1 q1 r1 d l t : Int} (m1 : (p1, q1, r1) ∈ G) (hd : 0 < d) (hl : 0 ≤ l) (hc : mz_cr p1 q1 a b = 0) (ha : d * a = l * p1) (hb : d * b = l * q1) (ht : t = r1 * l)
    (hmin : ∀ t' d', mz_DC G a b t' d' → t * d' ≤ t' * d) : ∃ X Y D : Int, mz_MP G X Y D ∧ mz_ft G X Y D ∧ d * (a * X + b * Y) = t * D := by
  have hl' : 0 < l := by
    rcases Int.lt_or_eq_of_le hl with h | h
    · exact h
    · exfalso
      rw [← h, Int.zero_mul] at ha hb
      refine hab ⟨?_, ?_⟩
      · rcases Int.mul_eq_zero.mp ha with z | z
        · omega
        · exact z
      · rcases Int.mul_eq_zero.mp hb with z | z
        · omega
        · exact z
  have hp : ¬ (p1 = 0 ∧ q1 = 0) := by
    rintro ⟨rfl, rfl⟩
    rw [Int.mul_zero] at ha hb
    refine hab ⟨?_, ?_⟩
    · rcases Int.mul_eq_zero.mp ha with z | z
      · omega
      · exact z
    · rcases Int.mul_eq_zero.mp hb with z | z
      · omega
      · exact z
  have hdot : 0 < p1 * a + q1 * b := by
    have := Int.mul_pos hl' (mz_n2 hp)
    rw [← mz_s4 ha hb] at this
    exact Int.pos_of_mul_pos_right this hd
  obtain ⟨hS, hT, ea, eb⟩ := mz_par hc hdot
  have eK : mz_n a b * d = l * mz_n p1 q1 := by
    by_cases hz : p1 = 0
    · have hq : q1 ≠ 0 := fun z => hp ⟨hz, z⟩
      exact Int.eq_of_mul_eq_mul_right hq (mz_s5 eb hb)
    · exact Int.eq_of_mul_eq_mul_right hz (mz_s5 ea ha)
  have hmin1 : ∀ t' d', mz_DC G a b t' d' → (r1 * mz_n a b) * d' ≤ t' * mz_n p1 q1 := by
    intro t' d' h
    have h1 := Int.mul_le_mul_of_nonneg_left (hmin t' d' h) (Int.le_of_lt hT)
    refine Int.le_of_mul_le_mul_left (a := d) ?_ hd
    have x1 : mz_n p1 q1 * (t * d') = (l * mz_n p1 q1) * r1 * d' := by
      rw [ht]
      generalize mz_n p1 q1 = T
      grind
    have x2 : d * (r1 * mz_n a b * d') = (mz_n a b * d) * r1 * d' := by
      generalize mz_n a b = S
      grind
    have x3 : d * (t' * mz_n p1 q1) = mz_n p1 q1 * (t' * d) := by
      generalize mz_n p1 q1 = T
      grind
    rw [x2, x3, eK, ← x1]
    exact h1
  obtain ⟨X, Y, D, h1, h2, h3⟩ := mz_strong1 hF m1 hc hdot hmin1
  refine ⟨X, Y, D, h1, h2, ?_⟩
  refine Int.eq_of_mul_eq_mul_left (a := mz_n p1 q1) (by omega) ?_
  have x1 : mz_n p1 q1 * (d * (a * X + b * Y)) = d * (mz_n p1 q1 * (a * X + b * Y)) := Int.mul_left_comm _ _ _
  have x2 : d * (r1 * mz_n a b * D) = (mz_n a b * d) * r1 * D := by
    generalize mz_n a b = S
    grind
  have x3 : mz_n p1 q1 * (t * D) = (l * mz_n p1 q1) * r1 * D := by
    rw [ht]
    generalize mz_n p1 q1 = T
    grind
  rw [x1, h3, x2, x3, eK]
/-- the least bound is reached, at a point that the reference tries -/
theorem mz_strong {G : mz_G} {a b : Int} (hab : ¬ (a = 0 ∧ b = 0)) (hF : mz_Feas G) {t d : Int} (hDC : mz_DC G a b t d)
    (hmin : ∀ t' d', mz_DC G a b t' d' → t * d' ≤ t' * d) : ∃ X Y D : Int, mz_MP G X Y D ∧ mz_ft G X Y D ∧ d * (a * X + b * Y) = t * D := by
  rcases hDC with ⟨p, q, r, m, hc, hd, rfl, rfl⟩ | ⟨p1, q1, r1, p2, q2, r2, m1, m2, g, hg, hd, h1, h2, ht, hde⟩
  · exact mz_strong1 hF m hc hd hmin
  · have ha := mz_cra g p1 q1 p2 q2 a b
    have hb := mz_crb g p1 q1 p2 q2 a b
    rw [← hde] at ha hb hd
    rcases Int.lt_or_eq_of_le h2 with h2' | h2'
    · rcases Int.lt_or_eq_of_le h1 with h1' | h1'
      · subst ht
        subst hde
        refine ⟨_, _, _, Or.inr (Or.inr ⟨p1, q1, r1, p2, q2, r2, g, m1, m2, hg, hd, rfl, rfl, rfl⟩), mz_vertex hab hF m1 m2 hg hd h1' h2' hmin, ?_⟩
        have e1 := mz_s1 g p1 q1 r1 p2 q2 r2
        have e2 := mz_s2 g p1 q1 r1 p2 q2 r2
        generalize g * (r1 * q2 - r2 * q1) = X at *
        generalize g * (p1 * r2 - p2 * r1) = Y at *
        generalize g * mz_cr p1 q1 p2 q2 = D at *
        generalize g * mz_cr a b p2 q2 = L1 at *
        generalize g * mz_cr p1 q1 a b = L2 at *
        have x1 : D * (a * X + b * Y) = (D * a) * X + (D * b) * Y := by clear ha hb e1 e2 hmin h1 h2 h1' h2' hd; grind
        have x2 : (L1 * p1 + L2 * p2) * X + (L1 * q1 + L2 * q2) * Y = L1 * (p1 * X + q1 * Y) + L2 * (p2 * X + q2 * Y) := by clear ha hb e1 e2 hmin h1 h2 h1' h2' hd; grind
        rw [x1, ha, hb, x2, e1, e2]
        clear ha hb e1 e2 hmin h1 h2 h1' h2' hd x1 x2
        grind
      · have hc : mz_cr p2 q2 a b = 0 := by
          have := mz_sw g p2 q2 a b
          have h9 := mz_sw 1 a b p2 q2
          rcases hg with rfl | rfl <;> omega
        rw [← h1', Int.zero_mul, Int.zero_add] at ha hb
        exact mz_strong2 hab hF m2 hd h2 hc ha hb (by rw [ht, ← h1', Int.mul_zero, Int.zero_add]) hmin
    · have hc : mz_cr p1 q1 a b = 0 := by rcases hg with rfl | rfl <;> omega
      rw [← h2', Int.zero_mul, Int.add_zero] at ha hb
      exact mz_strong2 hab hF m1 hd h1 hc ha hb (by rw [ht, ← h2', Int.mul_zero, Int.add_zero]) hmin
theorem mz_w1 (a b p q u v : Int) : (a * a + b * b) * mz_cr p q u v = (p * a + q * b) * mz_cr a b u v - mz_cr a b p q * (u * a + v * b) := by unfold mz_cr; grind
/-- no bound at all: a direction that the reference tries -/
theorem mz_way {G : mz_G} {a b : Int} (hab : ¬ (a = 0 ∧ b = 0)) (hno : ∀ t d, ¬ mz_DC G a b t d) : mz_ft G a b 0 ∧ 0 < a * a + b * b ∨ ∃ p q r e : Int, (p, q, r) ∈ G ∧ (e = 1 ∨ e = -1) ∧ 0 < a * (e * q) + b * (-(e * p)) ∧ mz_ft G (e * q) (-(e * p)) 0 := by
  have hN := mz_n2 hab
  by_cases hall : mz_ft G a b 0
  · exact Or.inl ⟨hall, hN⟩
  refine Or.inr ?_
  obtain ⟨p0, q0, r0, m0, h0⟩ : ∃ p q r : Int, (p, q, r) ∈ G ∧ 0 < p * a + q * b := by
    by_cases hx : ∃ p q r : Int, (p, q, r) ∈ G ∧ 0 < p * a + q * b
    · exact hx
    · refine absurd (fun p q r hw => ?_) hall
      rw [Int.mul_zero]
      exact Int.not_lt.mp (fun z => hx ⟨p, q, r, hw, z⟩)
  have hc0 : mz_cr a b p0 q0 ≠ 0 := by
    intro hz
    refine hno _ _ (Or.inl ⟨p0, q0, r0, m0, ?_, h0, rfl, rfl⟩)
    have := mz_sw 1 a b p0 q0
    omega
  obtain ⟨ε, hε, hε0⟩ : ∃ ε : Int, (ε = 1 ∨ ε = -1) ∧ 0 < ε * mz_cr a b p0 q0 := by
    rcases Int.lt_or_gt_of_ne hc0 with z | z
    · exact ⟨-1, Or.inr rfl, by omega⟩
    · exact ⟨1, Or.inl rfl, by omega⟩
  obtain ⟨⟨p1, q1, r1⟩, m1, ⟨hy1, hx1⟩, hbest⟩ := mz_best (fun w : Int × Int × Int => 0 < w.1 * a + w.2.1 * b ∧ 0 < ε * mz_cr a b w.1 w.2.1) (fun w => w.1 * a + w.2.1 * b) (fun w => ε * mz_cr a b w.1 w.2.1) G (fun w _ h => h.2) ⟨(p0, q0, r0), m0, h0, hε0⟩
  dsimp only at hy1 hx1 hbest
  refine ⟨p1, q1, r1, ε, m1, hε, ?_, ?_⟩
  · have e : a * (ε * q1) + b * (-(ε * p1)) = ε * mz_cr a b p1 q1 := by unfold mz_cr; grind
    rw [e]; exact hx1
  · intro p q r mw
    rw [Int.mul_zero]
    refine Int.not_lt.mp (fun hv => ?_)
    have e : p * (ε * q1) + q * (-(ε * p1)) = -(ε * mz_cr p1 q1 p q) := by unfold mz_cr; grind
    rw [e] at hv
    have eW : (a * a + b * b) * (-(ε * mz_cr p1 q1 p q)) = (ε * mz_cr a b p1 q1) * (p * a + q * b) - (p1 * a + q1 * b) * (ε * mz_cr a b p q) := by
      have h := mz_w1 a b p1 q1 p q
      have h2 : (a * a + b * b) * (-(ε * mz_cr p1 q1 p q)) = -(ε * ((a * a + b * b) * mz_cr p1 q1 p q)) := by
        generalize mz_cr p1 q1 p q = Z
        generalize a * a + b * b = N
        grind
      rw [h2, h]
      generalize mz_cr a b p q = Z
      generalize mz_cr a b p1 q1 = Z1
      generalize p * a + q * b = y
      generalize p1 * a + q1 * b = y1
      grind
    have hpos := Int.mul_pos hN hv
    rw [eW] at hpos
    rcases Int.lt_trichotomy (ε * mz_cr a b p q) 0 with hs | hs | hs
    · refine hno _ _ (Or.inr ⟨p1, q1, r1, p, q, r, m1, mw, -ε, by omega, by rw [Int.neg_mul]; exact hv, by rw [Int.neg_mul]; omega, ?_, rfl, rfl⟩)
      have := mz_sw (-ε) a b p1 q1
      rw [this, Int.neg_mul, Int.neg_neg]
      omega
    · rw [hs, Int.mul_zero, Int.sub_zero] at hpos
      have hy := Int.pos_of_mul_pos_right hpos hx1
      refine hno _ _ (Or.inl ⟨p, q, r, mw, ?_, hy, rfl, rfl⟩)
      have := mz_sw 1 a b p q
      rcases hε with rfl | rfl <;> omega
    · have z1 := Int.mul_pos hy1 hs
      have hy : 0 < p * a + q * b := Int.pos_of_mul_pos_right (a := ε * mz_cr a b p1 q1) (by omega) hx1
      have hb := hbest (p, q, r) mw ⟨hy, hs⟩
      dsimp only at hb
      have c1 := Int.mul_comm (p * a + q * b) (ε * mz_cr a b p1 q1)
      omega
