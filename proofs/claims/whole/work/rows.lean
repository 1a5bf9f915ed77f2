section
/-! Duality in the plane over whole numbers: points (X, Y, D) with D > 0 -/
def mz_cr (a b c d : Int) : Int := a * d - b * c
def mz_n (a b : Int) : Int := (a.natAbs : Int) + (b.natAbs : Int)
abbrev mz_G : Type := List (Int × Int × Int)
def mz_ft (G : mz_G) (X Y D : Int) : Prop := ∀ p q r : Int, (p, q, r) ∈ G → p * X + q * Y ≤ r * D
def mz_Feas (G : mz_G) : Prop := ∃ X Y D : Int, 0 < D ∧ mz_ft G X Y D
def mz_RC (p q r a b t d : Int) : Prop := mz_cr p q a b = 0 ∧ 0 < p * a + q * b ∧ t = r * mz_n a b ∧ d = mz_n p q
def mz_PC (p1 q1 r1 p2 q2 r2 a b t d : Int) : Prop := ∃ g : Int, (g = 1 ∨ g = -1) ∧ 0 < g * mz_cr p1 q1 p2 q2 ∧ 0 ≤ g * mz_cr a b p2 q2 ∧ 0 ≤ g * mz_cr p1 q1 a b ∧ t = r1 * (g * mz_cr a b p2 q2) + r2 * (g * mz_cr p1 q1 a b) ∧ d = g * mz_cr p1 q1 p2 q2
def mz_DC (G : mz_G) (a b t d : Int) : Prop := (∃ p q r : Int, (p, q, r) ∈ G ∧ mz_RC p q r a b t d) ∨ ∃ p1 q1 r1 p2 q2 r2 : Int, (p1, q1, r1) ∈ G ∧ (p2, q2, r2) ∈ G ∧ mz_PC p1 q1 r1 p2 q2 r2 a b t d
theorem mz_sq (x : Int) : 0 ≤ x * x := by
  rcases Int.le_total 0 x with h | h
  · exact Int.mul_nonneg h h
  · exact Int.mul_nonneg_of_nonpos_of_nonpos h h
theorem mz_n2 {a b : Int} (h : ¬ (a = 0 ∧ b = 0)) : 0 < a * a + b * b := by
  have h1 := mz_sq a
  have h2 := mz_sq b
  by_cases ha : a = 0
  · have hb : b ≠ 0 := fun z => h ⟨ha, z⟩
    have : b * b ≠ 0 := fun z => hb (by rcases Int.mul_eq_zero.mp z with z | z <;> exact z)
    omega
  · have : a * a ≠ 0 := fun z => ha (by rcases Int.mul_eq_zero.mp z with z | z <;> exact z)
    omega
theorem mz_abs {N k a p : Int} (hN : 0 < N) (hk : 0 < k) (h : N * a = k * p) : N * (a.natAbs : Int) = k * (p.natAbs : Int) := by
  have e := congrArg Int.natAbs h
  rw [Int.natAbs_mul, Int.natAbs_mul] at e
  have e2 : ((N.natAbs * a.natAbs : Nat) : Int) = ((k.natAbs * p.natAbs : Nat) : Int) := by rw [e]
  rw [Int.natCast_mul, Int.natCast_mul, Int.natAbs_of_nonneg (Int.le_of_lt hN), Int.natAbs_of_nonneg (Int.le_of_lt hk)] at e2
  exact e2
theorem mz_i1 {p q a b : Int} (h : p * b = q * a) : (p * p + q * q) * a = (p * a + q * b) * p := by
  have x1 : (p * p + q * q) * a = p * a * p + q * (q * a) := by grind
  have x2 : (p * a + q * b) * p = p * a * p + q * (p * b) := by grind
  rw [x1, x2, h]
theorem mz_i1b {p q a b : Int} (h : p * b = q * a) : (p * p + q * q) * b = (p * a + q * b) * q := by
  have x1 : (p * p + q * q) * b = p * (p * b) + q * b * q := by grind
  have x2 : (p * a + q * b) * q = p * (q * a) + q * b * q := by grind
  rw [x1, x2, h]
theorem mz_i2 {N T S k a p : Int} (hN : 0 < N) (ea : N * a = k * p) (eS : N * S = k * T) : T * a = S * p := by
  have x1 : N * (T * a) = T * (N * a) := by grind
  have x2 : N * (S * p) = (N * S) * p := by grind
  have x3 : T * (k * p) = k * T * p := by grind
  exact Int.eq_of_mul_eq_mul_left (a := N) (by omega) (by rw [x1, x2, ea, eS, x3])
theorem mz_npos {p q : Int} (h : ¬ (p = 0 ∧ q = 0)) : 0 < mz_n p q := by unfold mz_n; omega
/-- parallel and the same way: (|p|+|q|) (a, b) = (|a|+|b|) (p, q) -/
theorem mz_par {p q a b : Int} (h : mz_cr p q a b = 0) (hd : 0 < p * a + q * b) : 0 < mz_n a b ∧ 0 < mz_n p q ∧ mz_n p q * a = mz_n a b * p ∧ mz_n p q * b = mz_n a b * q := by
  have h' : p * b = q * a := by unfold mz_cr at h; omega
  have z1 : ¬ (p = 0 ∧ q = 0) := fun z => by rw [z.1, z.2] at hd; omega
  have z2 : ¬ (a = 0 ∧ b = 0) := fun z => by rw [z.1, z.2] at hd; omega
  have hN := mz_n2 z1
  have ea := mz_i1 h'
  have eb := mz_i1b h'
  have e1 := mz_abs hN hd ea
  have e2 := mz_abs hN hd eb
  have eS : (p * p + q * q) * mz_n a b = (p * a + q * b) * mz_n p q := by unfold mz_n; rw [Int.mul_add, Int.mul_add, e1, e2]
  exact ⟨mz_npos z2, mz_npos z1, mz_i2 hN ea eS, mz_i2 hN eb eS⟩
theorem mz_weak {a b X Y D p1 q1 r1 p2 q2 r2 l1 l2 t d : Int} (h1 : p1 * X + q1 * Y ≤ r1 * D) (h2 : p2 * X + q2 * Y ≤ r2 * D) (hl1 : 0 ≤ l1) (hl2 : 0 ≤ l2) (ha : d * a = l1 * p1 + l2 * p2) (hb : d * b = l1 * q1 + l2 * q2) (ht : t = l1 * r1 + l2 * r2) : d * (a * X + b * Y) ≤ t * D := by
  have i1 := Int.mul_le_mul_of_nonneg_left h1 hl1
  have i2 := Int.mul_le_mul_of_nonneg_left h2 hl2
  have e1 : d * (a * X + b * Y) = (d * a) * X + (d * b) * Y := by grind
  have e3 : (l1 * p1 + l2 * p2) * X + (l1 * q1 + l2 * q2) * Y = l1 * (p1 * X + q1 * Y) + l2 * (p2 * X + q2 * Y) := by grind
  have e2 : (l1 * r1 + l2 * r2) * D = l1 * (r1 * D) + l2 * (r2 * D) := by grind
  rw [e1, ha, hb, e3, ht, e2]
  omega
theorem mz_cra (g p1 q1 p2 q2 a b : Int) : g * mz_cr p1 q1 p2 q2 * a = g * mz_cr a b p2 q2 * p1 + g * mz_cr p1 q1 a b * p2 := by unfold mz_cr; grind
theorem mz_crb (g p1 q1 p2 q2 a b : Int) : g * mz_cr p1 q1 p2 q2 * b = g * mz_cr a b p2 q2 * q1 + g * mz_cr p1 q1 a b * q2 := by unfold mz_cr; grind
theorem mz_wk {G : mz_G} {a b t d : Int} (h : mz_DC G a b t d) : 0 < d ∧ ∀ X Y D : Int, mz_ft G X Y D → d * (a * X + b * Y) ≤ t * D := by
  rcases h with ⟨p, q, r, m, hc, hd, rfl, rfl⟩ | ⟨p1, q1, r1, p2, q2, r2, m1, m2, g, hg, hd, h1, h2, rfl, rfl⟩
  · obtain ⟨hS, hT, ea, eb⟩ := mz_par hc hd
    refine ⟨hT, fun X Y D hf => ?_⟩
    exact mz_weak (hf p q r m) (hf p q r m) (Int.le_of_lt hS) (Int.le_refl 0) (by rw [ea, Int.zero_mul, Int.add_zero]) (by rw [eb, Int.zero_mul, Int.add_zero]) (by rw [Int.mul_comm r, Int.zero_mul, Int.add_zero])
  · refine ⟨hd, fun X Y D hf => ?_⟩
    exact mz_weak (hf _ _ _ m1) (hf _ _ _ m2) h1 h2 (mz_cra g p1 q1 p2 q2 a b) (mz_crb g p1 q1 p2 q2 a b) (by rw [Int.mul_comm r1, Int.mul_comm r2])
/-- of a finite list the one with the greatest fraction -/
theorem mz_f3 {nv nw nx dv dw dx : Int} (hx : 0 < dx) (hw : 0 < dw) (hv : 0 < dv) (h1 : nv * dw ≤ nw * dv) (h2 : nw * dx ≤ nx * dw) : nv * dx ≤ nx * dv := by
  have b1 := Int.mul_le_mul_of_nonneg_left h1 (Int.le_of_lt hx)
  have b2 := Int.mul_le_mul_of_nonneg_left h2 (Int.le_of_lt hv)
  refine Int.le_of_mul_le_mul_left (a := dw) ?_ hw
  have e1 : dw * (nv * dx) = dx * (nv * dw) := by grind
  have e2 : dw * (nx * dv) = dv * (nx * dw) := by grind
  have e3 : dx * (nw * dv) = dv * (nw * dx) := by grind
  omega
theorem mz_best {α : Type} (P : α → Prop) (num den : α → Int) : ∀ (G : List α), (∀ w ∈ G, P w → 0 < den w) → (∃ w ∈ G, P w) → ∃ w ∈ G, P w ∧ ∀ v ∈ G, P v → num v * den w ≤ num w * den v := by
  intro G
  induction G with
  | nil => intro _ h; obtain ⟨w, hw, _⟩ := h; cases hw
  | cons x G ih =>
    intro hden hex
    by_cases hG : ∃ w ∈ G, P w
    · obtain ⟨w, hw, hPw, hbest⟩ := ih (fun w hw => hden w (List.mem_cons_of_mem _ hw)) hG
      by_cases hx : P x
      · rcases Int.le_total (num x * den w) (num w * den x) with hle | hle
        · refine ⟨w, List.mem_cons_of_mem _ hw, hPw, fun v hv hPv => ?_⟩
          rcases List.mem_cons.mp hv with rfl | hv
          · exact hle
          · exact hbest v hv hPv
        · refine ⟨x, List.mem_cons_self, hx, fun v hv hPv => ?_⟩
          rcases List.mem_cons.mp hv with rfl | hv
          · exact Int.le_refl _
          · exact mz_f3 (hden x List.mem_cons_self hx) (hden w (List.mem_cons_of_mem _ hw) hPw) (hden v (List.mem_cons_of_mem _ hv) hPv) (hbest v hv hPv) hle
      · refine ⟨w, List.mem_cons_of_mem _ hw, hPw, fun v hv hPv => ?_⟩
        rcases List.mem_cons.mp hv with rfl | hv
        · exact absurd hPv hx
        · exact hbest v hv hPv
    · have hx : P x := by
        obtain ⟨w, hw, hPw⟩ := hex
        rcases List.mem_cons.mp hw with rfl | hw
        · exact hPw
        · exact absurd ⟨w, hw, hPw⟩ hG
      refine ⟨x, List.mem_cons_self, hx, fun v hv hPv => ?_⟩
      rcases List.mem_cons.mp hv with rfl | hv
      · exact Int.le_refl _
      · exact absurd ⟨v, hv, hPv⟩ hG
theorem mz_l1 {s D c1 c2 k1 k2 r r1 r2 : Int} (hP : s * D - c2 * k1 = -(c1 * k2)) (hv : r * D < r1 * k2 + r2 * k1) (hc1 : 0 < c1) (hm : (r1 * c2 + r2 * c1) * k1 ≤ (r1 * s + r * c1) * D) : False := by
  have n := Int.mul_neg_of_pos_of_neg hc1 (show r * D - (r1 * k2 + r2 * k1) < 0 by omega)
  have e1 : (r1 * s + r * c1) * D - (r1 * c2 + r2 * c1) * k1 = r1 * (s * D - c2 * k1) + c1 * (r * D - r2 * k1) := by clear hm n hv hP hc1; grind
  have e2 : r1 * -(c1 * k2) + c1 * (r * D - r2 * k1) = c1 * (r * D - (r1 * k2 + r2 * k1)) := by clear e1 hm n hv hP hc1; grind
  rw [hP, e2] at e1
  omega
theorem mz_l2 {s D c1 c2 k1 k2 r r1 r2 : Int} (hP : s * D - c2 * k1 = -(c1 * k2)) (hv : r * D < r1 * k2 + r2 * k1) (hc2 : 0 < c2) (hm : (r1 * c2 + r2 * c1) * k2 ≤ (r * c2 + r2 * (-s)) * D) : False := by
  have n := Int.mul_neg_of_pos_of_neg hc2 (show r * D - (r1 * k2 + r2 * k1) < 0 by omega)
  have e1 : (r * c2 + r2 * (-s)) * D - (r1 * c2 + r2 * c1) * k2 = c2 * (r * D - r1 * k2) - r2 * (s * D - c2 * k1) - r2 * (c2 * k1) - r2 * (c1 * k2) := by clear hm n hv hP hc2; grind
  have e2 : c2 * (r * D - r1 * k2) - r2 * -(c1 * k2) - r2 * (c2 * k1) - r2 * (c1 * k2) = c2 * (r * D - (r1 * k2 + r2 * k1)) := by clear e1 hm n hv hP hc2; grind
  rw [hP, e2] at e1
  omega
theorem mz_l3 {D c1 c2 k1 k2 r r1 r2 S T : Int} (e1 : T * c2 = S * k2) (e2 : T * c1 = S * k1) (hv : r * D < r1 * k2 + r2 * k1) (hS : 0 < S) (hm : (r1 * c2 + r2 * c1) * T ≤ (r * S) * D) : False := by
  have n := Int.mul_neg_of_pos_of_neg hS (show r * D - (r1 * k2 + r2 * k1) < 0 by omega)
  have e3 : (r * S) * D - (r1 * c2 + r2 * c1) * T = r * S * D - r1 * (T * c2) - r2 * (T * c1) := by clear hm n hv e1 e2 hS; grind
  have e4 : r * S * D - r1 * (S * k2) - r2 * (S * k1) = S * (r * D - (r1 * k2 + r2 * k1)) := by clear hm n hv e1 e2 e3 hS; grind
  rw [e1, e2, e4] at e3
  omega
theorem mz_l4 {D k1 k2 r r1 r2 D0 v v1 v2 : Int} (hv : r * D < r1 * k2 + r2 * k1) (hD0 : 0 < D0) (hD : 0 < D) (h1 : k1 ≤ 0) (h2 : k2 ≤ 0) (hw1 : v1 ≤ r1 * D0) (hw2 : v2 ≤ r2 * D0) (hw : v ≤ r * D0) (e : D * v = k2 * v1 + k1 * v2) : False := by
  have i1 := Int.mul_le_mul_of_nonpos_left h2 hw1
  have i2 := Int.mul_le_mul_of_nonpos_left h1 hw2
  have i3 := Int.mul_le_mul_of_nonneg_left hw (Int.le_of_lt hD)
  have n := Int.mul_pos hD0 (show 0 < r1 * k2 + r2 * k1 - r * D by omega)
  have e2 : D0 * (r1 * k2 + r2 * k1 - r * D) = k2 * (r1 * D0) + k1 * (r2 * D0) - D * (r * D0) := by clear i1 i2 i3 n e hv hD0 hD h1 h2 hw1 hw2 hw; grind
  omega
theorem mz_vV (g p q p1 q1 r1 p2 q2 r2 : Int) : p * (g * (r1 * q2 - r2 * q1)) + q * (g * (p1 * r2 - p2 * r1)) = r1 * (g * mz_cr p q p2 q2) + r2 * (g * mz_cr p1 q1 p q) := by unfold mz_cr; grind
theorem mz_vP (g a b p q p1 q1 p2 q2 : Int) : (g * mz_cr a b p q) * (g * mz_cr p1 q1 p2 q2) - (g * mz_cr a b p2 q2) * (g * mz_cr p1 q1 p q) = -((g * mz_cr p1 q1 a b) * (g * mz_cr p q p2 q2)) := by unfold mz_cr; grind
theorem mz_sw (g a b p q : Int) : g * mz_cr p q a b = -(g * mz_cr a b p q) := by unfold mz_cr; grind
theorem mz_v3 (g p q p1 q1 p2 q2 X Y : Int) : g * mz_cr p1 q1 p2 q2 * (p * X + q * Y) = g * mz_cr p q p2 q2 * (p1 * X + q1 * Y) + g * mz_cr p1 q1 p q * (p2 * X + q2 * Y) := by unfold mz_cr; grind
theorem mz_v4 (g T a b p2 q2 : Int) : T * (g * mz_cr a b p2 q2) = g * ((T * a) * q2 - (T * b) * p2) := by unfold mz_cr; grind
theorem mz_v5 (g T a b p1 q1 : Int) : T * (g * mz_cr p1 q1 a b) = g * (p1 * (T * b) - q1 * (T * a)) := by unfold mz_cr; grind
theorem mz_v6 (g S p q p2 q2 : Int) : g * ((S * p) * q2 - (S * q) * p2) = S * (g * mz_cr p q p2 q2) := by unfold mz_cr; grind
theorem mz_v7 (g S p q p1 q1 : Int) : g * (p1 * (S * q) - q1 * (S * p)) = S * (g * mz_cr p1 q1 p q) := by unfold mz_cr; grind
theorem mz_v8 {a b p q : Int} (g p1 q1 : Int) (h : p * b - q * a = 0) : (a * a + b * b) * (g * mz_cr p1 q1 p q) = (p * a + q * b) * (g * mz_cr p1 q1 a b) := by
  have e : (a * a + b * b) * (g * mz_cr p1 q1 p q) - (p * a + q * b) * (g * mz_cr p1 q1 a b) = -(g * (p1 * a + q1 * b)) * (p * b - q * a) := by clear h; unfold mz_cr; grind
  rw [h, Int.mul_zero] at e
  omega
theorem mz_v9 {a b p q : Int} (g p2 q2 : Int) (h : p * b - q * a = 0) : (a * a + b * b) * (g * mz_cr p q p2 q2) = (p * a + q * b) * (g * mz_cr a b p2 q2) := by
  have e : (a * a + b * b) * (g * mz_cr p q p2 q2) - (p * a + q * b) * (g * mz_cr a b p2 q2) = (g * (p2 * a + q2 * b)) * (p * b - q * a) := by clear h; unfold mz_cr; grind
  rw [h, Int.mul_zero] at e
  omega
theorem mz_neg1 {x y : Int} (hx : x ≤ 0) (hy : 0 < y) : x * y ≤ 0 := Int.mul_nonpos_of_nonpos_of_nonneg hx (Int.le_of_lt hy)
theorem mz_vertex {G : mz_G} {a b : Int} (hab : ¬ (a = 0 ∧ b = 0)) (hF : mz_Feas G) {p1 q1 r1 p2 q2 r2 g : Int} (m1 : (p1, q1, r1) ∈ G) (m2 : (p2, q2, r2) ∈ G) (hg : g = 1 ∨ g = -1)
    (hd : 0 < g * mz_cr p1 q1 p2 q2) (h1 : 0 < g * mz_cr a b p2 q2) (h2 : 0 < g * mz_cr p1 q1 a b)
    (hmin : ∀ t d, mz_DC G a b t d → (r1 * (g * mz_cr a b p2 q2) + r2 * (g * mz_cr p1 q1 a b)) * d ≤ t * (g * mz_cr p1 q1 p2 q2)) :
    mz_ft G (g * (r1 * q2 - r2 * q1)) (g * (p1 * r2 - p2 * r1)) (g * mz_cr p1 q1 p2 q2) := by
  intro p q r mw
  refine Int.not_lt.mp (fun hv => ?_)
  rw [mz_vV] at hv
  have eP := mz_vP g a b p q p1 q1 p2 q2
  have eS := mz_sw g a b p q
  have hbad : ¬ (g * mz_cr p1 q1 p q ≤ 0 ∧ g * mz_cr p q p2 q2 ≤ 0) := by
    rintro ⟨n1, n2⟩
    obtain ⟨X0, Y0, D0, hD0, hft⟩ := hF
    exact mz_l4 (v := p * X0 + q * Y0) (v1 := p1 * X0 + q1 * Y0) (v2 := p2 * X0 + q2 * Y0) hv hD0 hd n1 n2 (hft _ _ _ m1) (hft _ _ _ m2) (hft _ _ _ mw) (mz_v3 g p q p1 q1 p2 q2 X0 Y0)
  rcases Int.lt_trichotomy (g * mz_cr a b p q) 0 with hs | hs | hs
  · by_cases hk : 0 < g * mz_cr p q p2 q2
    · have hm := hmin _ _ (Or.inr ⟨_, _, _, _, _, _, mw, m2, g, hg, hk, Int.le_of_lt h1, by omega, rfl, rfl⟩)
      rw [eS] at hm
      exact mz_l2 eP hv h1 hm
    · refine hbad ⟨?_, by omega⟩
      refine Int.not_lt.mp (fun hk1 => ?_)
      have x1 := Int.mul_pos h1 hk1
      have x2 := Int.mul_neg_of_neg_of_pos hs hd
      have x3 := mz_neg1 (show g * mz_cr p q p2 q2 ≤ 0 by omega) h2
      rw [Int.mul_comm] at x3
      omega
  · by_cases hdot : 0 < p * a + q * b
    · have hcr : mz_cr p q a b = 0 := by
        rw [hs] at eS
        rcases hg with rfl | rfl <;> omega
      obtain ⟨hS, hT, ea, eb⟩ := mz_par hcr hdot
      have hm := hmin _ _ (Or.inl ⟨_, _, _, mw, hcr, hdot, rfl, rfl⟩)
      refine mz_l3 (S := mz_n a b) (T := mz_n p q) ?_ ?_ hv hS hm
      · rw [mz_v4, ea, eb, mz_v6]
      · rw [mz_v5, ea, eb, mz_v7]
    · have hN := mz_n2 hab
      have hcr : p * b - q * a = 0 := by
        rw [hs] at eS
        have : mz_cr p q a b = 0 := by rcases hg with rfl | rfl <;> omega
        exact this
      have x1 := mz_v8 g p1 q1 hcr
      have x2 := mz_v9 g p2 q2 hcr
      refine hbad ⟨Int.not_lt.mp (fun z => ?_), Int.not_lt.mp (fun z => ?_)⟩
      · have y1 := Int.mul_pos hN z
        have y2 := mz_neg1 (show p * a + q * b ≤ 0 by omega) h2
        omega
      · have y1 := Int.mul_pos hN z
        have y2 := mz_neg1 (show p * a + q * b ≤ 0 by omega) h1
        omega
  · by_cases hk : 0 < g * mz_cr p1 q1 p q
    · have hm := hmin _ _ (Or.inr ⟨_, _, _, _, _, _, m1, mw, g, hg, hk, Int.le_of_lt hs, Int.le_of_lt h2, rfl, rfl⟩)
      exact mz_l1 eP hv h2 hm
    · refine hbad ⟨by omega, ?_⟩
      refine Int.not_lt.mp (fun hk2 => ?_)
      have x1 := Int.mul_pos h2 hk2
      have x2 := Int.mul_pos hs hd
      have x3 := mz_neg1 (show g * mz_cr p1 q1 p q ≤ 0 by omega) h1
      rw [Int.mul_comm] at x3
      omega
end
section
theorem mz_e1 (S T p q r p1 q1 r1 : Int) : (T * S) * (p * (p1 * r1) + q * (q1 * r1) - r * (p1 * p1 + q1 * q1)) = S * (r1 * (T * (p * p1 + q * q1))) - (r * S * T) * (p1 * p1 + q1 * q1) := by grind
theorem mz_e2 (S T Tw r p1 q1 r1 : Int) : S * (r1 * (Tw * (p1 * p1 + q1 * q1))) - (r * S * T) * (p1 * p1 + q1 * q1) = (p1 * p1 + q1 * q1) * (r1 * S * Tw - r * S * T) := by grind
theorem mz_e3 {p q p1 q1 : Int} (X Y : Int) (h : p1 * q = q1 * p) : (p1 * p1 + q1 * q1) * (p * X + q * Y) = (p * p1 + q * q1) * (p1 * X + q1 * Y) := by
  have e : (p1 * p1 + q1 * q1) * (p * X + q * Y) - (p * p1 + q * q1) * (p1 * X + q1 * Y) = (p1 * q - q1 * p) * (p1 * Y - q1 * X) := by clear h; grind
  rw [show p1 * q - q1 * p = 0 by omega, Int.zero_mul] at e
  omega
theorem mz_e4 (D0 p q r p1 q1 r1 : Int) : D0 * (p * (p1 * r1) + q * (q1 * r1) - r * (p1 * p1 + q1 * q1)) = (p * p1 + q * q1) * (r1 * D0) - (p1 * p1 + q1 * q1) * (r * D0) := by grind
theorem mz_e5 {T S p q a b p1 q1 : Int} (ea : T * a = S * p1) (eb : T * b = S * q1) : T * mz_cr p q a b = S * mz_cr p q p1 q1 := by
  have x1 : T * mz_cr p q a b = p * (T * b) - q * (T * a) := by clear ea eb; unfold mz_cr; grind
  have x2 : S * mz_cr p q p1 q1 = p * (S * q1) - q * (S * p1) := by clear ea eb x1; unfold mz_cr; grind
  rw [x1, x2, ea, eb]
theorem mz_e6 {T S p q a b p1 q1 : Int} (ea : T * a = S * p1) (eb : T * b = S * q1) : T * (p * a + q * b) = S * (p * p1 + q * q1) := by
  have x1 : T * (p * a + q * b) = p * (T * a) + q * (T * b) := by clear ea eb; grind
  have x2 : S * (p * p1 + q * q1) = p * (S * p1) + q * (S * q1) := by clear ea eb x1; grind
  rw [x1, x2, ea, eb]
theorem mz_e7 {T S p q a b p1 q1 : Int} (ea : T * a = S * p1) (eb : T * b = S * q1) : T * mz_cr a b p q = S * mz_cr p1 q1 p q := by
  have x1 : T * mz_cr a b p q = (T * a) * q - (T * b) * p := by clear ea eb; unfold mz_cr; grind
  have x2 : S * mz_cr p1 q1 p q = (S * p1) * q - (S * q1) * p := by clear ea eb x1; unfold mz_cr; grind
  rw [x1, x2, ea, eb]
theorem mz_e8 (e p q r p1 q1 r1 p2 q2 r2 : Int) : (p1 * p1 + q1 * q1) * (p * (-e * (r1 * q2 - r2 * q1)) + q * (-e * (p1 * r2 - p2 * r1)) - r * (-e * mz_cr p1 q1 p2 q2)) = (-(e * mz_cr p1 q1 p2 q2)) * (p * (p1 * r1) + q * (q1 * r1) - r * (p1 * p1 + q1 * q1)) - (-(e * mz_cr p1 q1 p q)) * (p2 * (p1 * r1) + q2 * (q1 * r1) - r2 * (p1 * p1 + q1 * q1)) := by unfold mz_cr; grind
theorem mz_e9 (e p q r p1 q1 r1 p2 q2 r2 : Int) : (p1 * p1 + q1 * q1) * (r1 * (e * mz_cr p2 q2 p q)) - (p1 * p1 + q1 * q1) * (r2 * (e * mz_cr p1 q1 p q) - r * (e * mz_cr p1 q1 p2 q2)) = (-(e * mz_cr p1 q1 p2 q2)) * (p * (p1 * r1) + q * (q1 * r1) - r * (p1 * p1 + q1 * q1)) - (-(e * mz_cr p1 q1 p q)) * (p2 * (p1 * r1) + q2 * (q1 * r1) - r2 * (p1 * p1 + q1 * q1)) := by unfold mz_cr; grind
theorem mz_e10 (e p q p1 q1 p2 q2 X Y : Int) : e * mz_cr p2 q2 p q * (p1 * X + q1 * Y) = e * mz_cr p1 q1 p q * (p2 * X + q2 * Y) + -(e * mz_cr p1 q1 p2 q2) * (p * X + q * Y) := by unfold mz_cr; grind
theorem mz_e11 (e p q p1 q1 r r1 p2 q2 r2 D0 : Int) : e * mz_cr p1 q1 p q * (r2 * D0) + -(e * mz_cr p1 q1 p2 q2) * (r * D0) = D0 * (r2 * (e * mz_cr p1 q1 p q) - r * (e * mz_cr p1 q1 p2 q2)) := by grind
/-- a row that breaks the foot of the row of the least bound isn't parallel to it -/
theorem mz_edgeZ {G : mz_G} {a b : Int} (hF : mz_Feas G) {p1 q1 r1 : Int} (m1 : (p1, q1, r1) ∈ G) (hc : mz_cr p1 q1 a b = 0) (hdot : 0 < p1 * a + q1 * b)
    (hmin : ∀ t d, mz_DC G a b t d → (r1 * mz_n a b) * d ≤ t * mz_n p1 q1) {p q r : Int} (mw : (p, q, r) ∈ G) (he : 0 < p * (p1 * r1) + q * (q1 * r1) - r * (p1 * p1 + q1 * q1)) : mz_cr p1 q1 p q ≠ 0 := by
  obtain ⟨hS, hT, ea, eb⟩ := mz_par hc hdot
  have hN : 0 < p1 * p1 + q1 * q1 := mz_n2 (fun z => by rw [z.1, z.2] at hdot; omega)
  obtain ⟨X0, Y0, D0, hD0, hft⟩ := hF
  intro hz
  have hz' : p1 * q = q1 * p := by unfold mz_cr at hz; omega
  by_cases hd1 : 0 < p * p1 + q * q1
  · have hcr1 : mz_cr p q p1 q1 = 0 := by
      have := Int.mul_comm p q1
      have := Int.mul_comm q p1
      unfold mz_cr
      omega
    obtain ⟨-, hTw, fa, fb⟩ := mz_par hcr1 hd1
    have hcr : mz_cr p q a b = 0 := by
      have t1 := mz_e5 (p := p) (q := q) ea eb
      rw [hcr1, Int.mul_zero] at t1
      rcases Int.mul_eq_zero.mp t1 with z | z
      · omega
      · exact z
    have hd2 : 0 < p * a + q * b := by
      have := Int.mul_pos hS hd1
      rw [← mz_e6 ea eb] at this
      exact Int.pos_of_mul_pos_right this hT
    have hm := hmin _ _ (Or.inl ⟨_, _, _, mw, hcr, hd2, rfl, rfl⟩)
    have e1 : mz_n p q * (p1 * p1 + q1 * q1) = mz_n p1 q1 * (p * p1 + q * q1) := by
      have y1 : mz_n p q * (p1 * p1 + q1 * q1) = (mz_n p q * p1) * p1 + (mz_n p q * q1) * q1 := by grind
      have y2 : mz_n p1 q1 * (p * p1 + q * q1) = (mz_n p1 q1 * p) * p1 + (mz_n p1 q1 * q) * q1 := by grind
      rw [y1, y2, fa, fb]
    have x1 := Int.mul_pos (Int.mul_pos hT hS) he
    rw [mz_e1, ← e1, mz_e2] at x1
    have x4 := Int.pos_of_mul_pos_right x1 hN
    omega
  · have e1 := mz_e3 X0 Y0 hz'
    have i1 := Int.mul_le_mul_of_nonpos_left (show p * p1 + q * q1 ≤ 0 by omega) (hft _ _ _ m1)
    have i2 := Int.mul_le_mul_of_nonneg_left (hft _ _ _ mw) (Int.le_of_lt hN)
    have i3 := Int.mul_pos hD0 he
    rw [mz_e4] at i3
    omega
/-- a row that gives the least bound: its foot is a point of the guard, or its corner with another row is -/
theorem mz_edge {G : mz_G} {a b : Int} (hF : mz_Feas G) {p1 q1 r1 : Int} (m1 : (p1, q1, r1) ∈ G) (hc : mz_cr p1 q1 a b = 0) (hdot : 0 < p1 * a + q1 * b)
    (hmin : ∀ t d, mz_DC G a b t d → (r1 * mz_n a b) * d ≤ t * mz_n p1 q1) :
    mz_ft G (p1 * r1) (q1 * r1) (p1 * p1 + q1 * q1) ∨ ∃ p2 q2 r2 : Int, (p2, q2, r2) ∈ G ∧ ∃ g : Int, (g = 1 ∨ g = -1) ∧ 0 < g * mz_cr p1 q1 p2 q2 ∧ mz_ft G (g * (r1 * q2 - r2 * q1)) (g * (p1 * r2 - p2 * r1)) (g * mz_cr p1 q1 p2 q2) := by
  obtain ⟨hS, hT, ea, eb⟩ := mz_par hc hdot
  have hN : 0 < p1 * p1 + q1 * q1 := mz_n2 (fun z => by rw [z.1, z.2] at hdot; omega)
  have hZ : ∀ p q r : Int, (p, q, r) ∈ G → 0 < p * (p1 * r1) + q * (q1 * r1) - r * (p1 * p1 + q1 * q1) → mz_cr p1 q1 p q ≠ 0 := fun p q r mw he => mz_edgeZ hF m1 hc hdot hmin mw he
  obtain ⟨X0, Y0, D0, hD0, hft⟩ := hF
  by_cases hfoot : mz_ft G (p1 * r1) (q1 * r1) (p1 * p1 + q1 * q1)
  · exact Or.inl hfoot
  refine Or.inr ?_
  obtain ⟨p0, q0, r0, m0, h0⟩ : ∃ p q r : Int, (p, q, r) ∈ G ∧ ¬ p * (p1 * r1) + q * (q1 * r1) ≤ r * (p1 * p1 + q1 * q1) := by
    by_cases hx : ∃ p q r : Int, (p, q, r) ∈ G ∧ ¬ p * (p1 * r1) + q * (q1 * r1) ≤ r * (p1 * p1 + q1 * q1)
    · exact hx
    · exact absurd (fun p q r hw => Classical.byContradiction (fun z => hx ⟨p, q, r, hw, z⟩)) hfoot
  have hc0 := hZ p0 q0 r0 m0 (by omega)
  obtain ⟨ε, hε, hε0⟩ : ∃ ε : Int, (ε = 1 ∨ ε = -1) ∧ ε * mz_cr p1 q1 p0 q0 < 0 := by
    rcases Int.lt_or_gt_of_ne hc0 with z | z
    · exact ⟨1, Or.inl rfl, by omega⟩
    · exact ⟨-1, Or.inr rfl, by omega⟩
  obtain ⟨⟨p2, q2, r2⟩, m2, ⟨he2, hk2⟩, hbest⟩ := mz_best (fun w : Int × Int × Int => 0 < w.1 * (p1 * r1) + w.2.1 * (q1 * r1) - w.2.2 * (p1 * p1 + q1 * q1) ∧ ε * mz_cr p1 q1 w.1 w.2.1 < 0) (fun w => w.1 * (p1 * r1) + w.2.1 * (q1 * r1) - w.2.2 * (p1 * p1 + q1 * q1)) (fun w => -(ε * mz_cr p1 q1 w.1 w.2.1)) G (fun w _ h => by have := h.2; omega) ⟨(p0, q0, r0), m0, by dsimp only; omega, hε0⟩
  dsimp only at he2 hk2 hbest
  refine ⟨p2, q2, r2, m2, -ε, by omega, by rw [Int.neg_mul]; omega, ?_⟩
  intro p q r mw
  refine Int.not_lt.mp (fun hv => ?_)
  have hpos := Int.mul_pos hN (show 0 < p * (-ε * (r1 * q2 - r2 * q1)) + q * (-ε * (p1 * r2 - p2 * r1)) - r * (-ε * mz_cr p1 q1 p2 q2) by omega)
  rw [mz_e8] at hpos
  have hb := hbest (p, q, r) mw
  dsimp only at hb
  have hz := hZ p q r mw
  have hk2' : 0 < -(ε * mz_cr p1 q1 p2 q2) := by omega
  rcases Int.lt_trichotomy (ε * mz_cr p1 q1 p q) 0 with hs | hs | hs
  · have x1 := Int.mul_pos (show 0 < -(ε * mz_cr p1 q1 p q) by omega) he2
    have he : 0 < p * (p1 * r1) + q * (q1 * r1) - r * (p1 * p1 + q1 * q1) := by
      refine Int.pos_of_mul_pos_right (a := -(ε * mz_cr p1 q1 p2 q2)) (by omega) hk2'
    have hb := hb ⟨he, hs⟩
    have c1 := Int.mul_comm (p * (p1 * r1) + q * (q1 * r1) - r * (p1 * p1 + q1 * q1)) (-(ε * mz_cr p1 q1 p2 q2))
    have c2 := Int.mul_comm (p2 * (p1 * r1) + q2 * (q1 * r1) - r2 * (p1 * p1 + q1 * q1)) (-(ε * mz_cr p1 q1 p q))
    omega
  · rw [hs, Int.neg_zero, Int.zero_mul, Int.sub_zero] at hpos
    have he := Int.pos_of_mul_pos_right hpos hk2'
    have : mz_cr p1 q1 p q = 0 := by rcases hε with rfl | rfl <;> omega
    exact hz he this
  · have hm2 : r1 * (ε * mz_cr p2 q2 p q) ≤ r2 * (ε * mz_cr p1 q1 p q) - r * (ε * mz_cr p1 q1 p2 q2) := by
      by_cases hk : 0 < ε * mz_cr p2 q2 p q
      · have g1 := mz_e7 (p := p) (q := q) ea eb
        have g2 := mz_e7 (p := p2) (q := q2) ea eb
        have g1' : mz_n p1 q1 * (ε * mz_cr a b p q) = mz_n a b * (ε * mz_cr p1 q1 p q) := by
          rw [Int.mul_left_comm, g1, Int.mul_left_comm]
        have g2' : mz_n p1 q1 * (ε * mz_cr p2 q2 a b) = mz_n a b * (-(ε * mz_cr p1 q1 p2 q2)) := by
          rw [mz_sw, Int.mul_neg, Int.mul_left_comm, g2, Int.mul_left_comm, Int.mul_neg]
        have l1 : 0 < ε * mz_cr a b p q := by
          refine Int.pos_of_mul_pos_right (a := mz_n p1 q1) ?_ hT
          rw [g1']; exact Int.mul_pos hS hs
        have l2 : 0 < ε * mz_cr p2 q2 a b := by
          refine Int.pos_of_mul_pos_right (a := mz_n p1 q1) ?_ hT
          rw [g2']; exact Int.mul_pos hS hk2'
        have hm := hmin _ _ (Or.inr ⟨_, _, _, _, _, _, m2, mw, ε, hε, hk, Int.le_of_lt l1, Int.le_of_lt l2, rfl, rfl⟩)
        have x1 : (r2 * (ε * mz_cr a b p q) + r * (ε * mz_cr p2 q2 a b)) * mz_n p1 q1 = r2 * (mz_n p1 q1 * (ε * mz_cr a b p q)) + r * (mz_n p1 q1 * (ε * mz_cr p2 q2 a b)) := by
          generalize ε * mz_cr a b p q = A
          generalize ε * mz_cr p2 q2 a b = B
          generalize mz_n p1 q1 = C
          grind
        rw [x1, g1', g2'] at hm
        have x2 : r1 * mz_n a b * (ε * mz_cr p2 q2 p q) = mz_n a b * (r1 * (ε * mz_cr p2 q2 p q)) := by
          rw [Int.mul_comm r1, Int.mul_assoc]
        have x3 : r2 * (mz_n a b * (ε * mz_cr p1 q1 p q)) + r * (mz_n a b * -(ε * mz_cr p1 q1 p2 q2)) = mz_n a b * (r2 * (ε * mz_cr p1 q1 p q) - r * (ε * mz_cr p1 q1 p2 q2)) := by
          generalize ε * mz_cr p1 q1 p q = A
          generalize ε * mz_cr p1 q1 p2 q2 = B
          generalize mz_n a b = C
          grind
        rw [x2, x3] at hm
        exact Int.le_of_mul_le_mul_left hm hS
      · have i1 := Int.mul_le_mul_of_nonneg_left (hft _ _ _ m2) (Int.le_of_lt hs)
        have i2 := Int.mul_le_mul_of_nonneg_left (hft _ _ _ mw) (Int.le_of_lt hk2')
        have i3 := Int.mul_le_mul_of_nonpos_left (show ε * mz_cr p2 q2 p q ≤ 0 by omega) (hft _ _ _ m1)
        rw [mz_e10] at i3
        have e2 := mz_e11 ε p q p1 q1 r r1 p2 q2 r2 D0
        have e3 : ε * mz_cr p2 q2 p q * (r1 * D0) = D0 * (r1 * (ε * mz_cr p2 q2 p q)) := by
          rw [Int.mul_comm, Int.mul_comm r1, Int.mul_assoc]
        refine Int.le_of_mul_le_mul_left (a := D0) ?_ hD0
        omega
    have hm3 := Int.mul_le_mul_of_nonneg_left hm2 (Int.le_of_lt hN)
    have e4 := mz_e9 ε p q r p1 q1 r1 p2 q2 r2
    omega
/-- the points that the reference tries -/
def mz_MP (G : mz_G) (X Y D : Int) : Prop := (X = 0 ∧ Y = 0 ∧ D = 1) ∨ (∃ p q r : Int, (p, q, r) ∈ G ∧ 0 < p * p + q * q ∧ X = p * r ∧ Y = q * r ∧ D = p * p + q * q) ∨ ∃ p1 q1 r1 p2 q2 r2 g : Int, (p1, q1, r1) ∈ G ∧ (p2, q2, r2) ∈ G ∧ (g = 1 ∨ g = -1) ∧ 0 < g * mz_cr p1 q1 p2 q2 ∧ X = g * (r1 * q2 - r2 * q1) ∧ Y = g * (p1 * r2 - p2 * r1) ∧ D = g * mz_cr p1 q1 p2 q2
theorem mz_MPpos {G : mz_G} {X Y D : Int} (h : mz_MP G X Y D) : 0 < D := by
  rcases h with ⟨-, -, rfl⟩ | ⟨p, q, r, -, h, -, -, rfl⟩ | ⟨p1, q1, r1, p2, q2, r2, g, -, -, -, h, -, -, rfl⟩
  · omega
  · exact h
  · exact h
theorem mz_s1 (g p1 q1 r1 p2 q2 r2 : Int) : p1 * (g * (r1 * q2 - r2 * q1)) + q1 * (g * (p1 * r2 - p2 * r1)) = r1 * (g * mz_cr p1 q1 p2 q2) := by unfold mz_cr; grind
theorem mz_s2 (g p1 q1 r1 p2 q2 r2 : Int) : p2 * (g * (r1 * q2 - r2 * q1)) + q2 * (g * (p1 * r2 - p2 * r1)) = r2 * (g * mz_cr p1 q1 p2 q2) := by unfold mz_cr; grind
theorem mz_s3 {T S a b p q r X Y D : Int} (ea : T * a = S * p) (eb : T * b = S * q) (h : p * X + q * Y = r * D) : T * (a * X + b * Y) = r * S * D := by
  have x1 : T * (a * X + b * Y) = (T * a) * X + (T * b) * Y := by clear ea eb h; grind
  have x2 : (S * p) * X + (S * q) * Y = S * (p * X + q * Y) := by clear ea eb h x1; grind
  rw [x1, ea, eb, x2, h]
  clear ea eb h x1 x2
  grind
/-- the least bound, if it comes of one row -/
theorem mz_strong1 {G : mz_G} {a b : Int} (hF : mz_Feas G) {p q r : Int} (m : (p, q, r) ∈ G) (hc : mz_cr p q a b = 0) (hdot : 0 < p * a + q * b)
    (hmin : ∀ t d, mz_DC G a b t d → (r * mz_n a b) * d ≤ t * mz_n p q) : ∃ X Y D : Int, mz_MP G X Y D ∧ mz_ft G X Y D ∧ mz_n p q * (a * X + b * Y) = r * mz_n a b * D := by
  obtain ⟨hS, hT, ea, eb⟩ := mz_par hc hdot
  rcases mz_edge hF m hc hdot hmin with h | ⟨p2, q2, r2, m2, g, hg, hd, h⟩
  · have hN : 0 < p * p + q * q := mz_n2 (fun z => by rw [z.1, z.2] at hdot; omega)
    exact ⟨_, _, _, Or.inr (Or.inl ⟨p, q, r, m, hN, rfl, rfl, rfl⟩), h, mz_s3 ea eb (by grind)⟩
  · exact ⟨_, _, _, Or.inr (Or.inr ⟨p, q, r, p2, q2, r2, g, m, m2, hg, hd, rfl, rfl, rfl⟩), h, mz_s3 ea eb (mz_s1 g p q r p2 q2 r2)⟩
theorem mz_s4 {d l p q a b : Int} (ha : d * a = l * p) (hb : d * b = l * q) : d * (p * a + q * b) = l * (p * p + q * q) := by
  have x1 : d * (p * a + q * b) = p * (d * a) + q * (d * b) := by clear ha hb; grind
  rw [x1, ha, hb]
  clear ha hb x1
  grind
theorem mz_s5 {T S d l a p : Int} (h1 : T * a = S * p) (h2 : d * a = l * p) : (S * d) * p = (l * T) * p := by
  have x1 : (S * d) * p = d * (S * p) := by clear h1 h2; grind
  have x2 : (l * T) * p = T * (l * p) := by clear h1 h2 x1; grind
  rw [x1, x2, ← h1, ← h2]
  clear x1 x2
  grind
/-- two rows, one of which counts for nothing -/
theorem mz_strong2 {G : mz_G} {a b : Int} (hab : ¬ (a = 0 ∧ b = 0)) (hF : mz_Feas G) {p1 q1 r1 d l t : Int} (m1 : (p1, q1, r1) ∈ G) (hd : 0 < d) (hl : 0 ≤ l) (hc : mz_cr p1 q1 a b = 0) (ha : d * a = l * p1) (hb : d * b = l * q1) (ht : t = r1 * l)
    (hmin : ∀ t' d', mz_DC G a b t' d' → t * d' ≤ t' * d) : ∃ X Y D : Int, mz_MP G X Y D ∧ mz_ft G X Y D ∧ d * (a * X + b * Y) = t * D := by
  have hl' : 0 < l := by
    rcases Int.lt_or_eq_of_le hl with h | h
    · exact h
    · exfalso
      rw [← h, Int.zero_mul] at ha hb
      refine hab ⟨?_, ?_⟩
      · rcases Int.mul_eq_zero.mp ha with z | z
        · omega
        · exact z
      · rcases Int.mul_eq_zero.mp hb with z | z
        · omega
        · exact z
  have hp : ¬ (p1 = 0 ∧ q1 = 0) := by
    rintro ⟨rfl, rfl⟩
    rw [Int.mul_zero] at ha hb
    refine hab ⟨?_, ?_⟩
    · rcases Int.mul_eq_zero.mp ha with z | z
      · omega
      · exact z
    · rcases Int.mul_eq_zero.mp hb with z | z
      · omega
      · exact z
  have hdot : 0 < p1 * a + q1 * b := by
    have := Int.mul_pos hl' (mz_n2 hp)
    rw [← mz_s4 ha hb] at this
    exact Int.pos_of_mul_pos_right this hd
  obtain ⟨hS, hT, ea, eb⟩ := mz_par hc hdot
  have eK : mz_n a b * d = l * mz_n p1 q1 := by
    by_cases hz : p1 = 0
    · have hq : q1 ≠ 0 := fun z => hp ⟨hz, z⟩
      exact Int.eq_of_mul_eq_mul_right hq (mz_s5 eb hb)
    · exact Int.eq_of_mul_eq_mul_right hz (mz_s5 ea ha)
  have hmin1 : ∀ t' d', mz_DC G a b t' d' → (r1 * mz_n a b) * d' ≤ t' * mz_n p1 q1 := by
    intro t' d' h
    have h1 := Int.mul_le_mul_of_nonneg_left (hmin t' d' h) (Int.le_of_lt hT)
    refine Int.le_of_mul_le_mul_left (a := d) ?_ hd
    have x1 : mz_n p1 q1 * (t * d') = (l * mz_n p1 q1) * r1 * d' := by
      rw [ht]
      generalize mz_n p1 q1 = T
      grind
    have x2 : d * (r1 * mz_n a b * d') = (mz_n a b * d) * r1 * d' := by
      generalize mz_n a b = S
      grind
    have x3 : d * (t' * mz_n p1 q1) = mz_n p1 q1 * (t' * d) := by
      generalize mz_n p1 q1 = T
      grind
    rw [x2, x3, eK, ← x1]
    exact h1
  obtain ⟨X, Y, D, h1, h2, h3⟩ := mz_strong1 hF m1 hc hdot hmin1
  refine ⟨X, Y, D, h1, h2, ?_⟩
  refine Int.eq_of_mul_eq_mul_left (a := mz_n p1 q1) (by omega) ?_
  have x1 : mz_n p1 q1 * (d * (a * X + b * Y)) = d * (mz_n p1 q1 * (a * X + b * Y)) := Int.mul_left_comm _ _ _
  have x2 : d * (r1 * mz_n a b * D) = (mz_n a b * d) * r1 * D := by
    generalize mz_n a b = S
    grind
  have x3 : mz_n p1 q1 * (t * D) = (l * mz_n p1 q1) * r1 * D := by
    rw [ht]
    generalize mz_n p1 q1 = T
    grind
  rw [x1, h3, x2, x3, eK]
/-- the least bound is reached, at a point that the reference tries -/
theorem mz_strong {G : mz_G} {a b : Int} (hab : ¬ (a = 0 ∧ b = 0)) (hF : mz_Feas G) {t d : Int} (hDC : mz_DC G a b t d)
    (hmin : ∀ t' d', mz_DC G a b t' d' → t * d' ≤ t' * d) : ∃ X Y D : Int, mz_MP G X Y D ∧ mz_ft G X Y D ∧ d * (a * X + b * Y) = t * D := by
  rcases hDC with ⟨p, q, r, m, hc, hd, rfl, rfl⟩ | ⟨p1, q1, r1, p2, q2, r2, m1, m2, g, hg, hd, h1, h2, ht, hde⟩
  · exact mz_strong1 hF m hc hd hmin
  · have ha := mz_cra g p1 q1 p2 q2 a b
    have hb := mz_crb g p1 q1 p2 q2 a b
    rw [← hde] at ha hb hd
    rcases Int.lt_or_eq_of_le h2 with h2' | h2'
    · rcases Int.lt_or_eq_of_le h1 with h1' | h1'
      · subst ht
        subst hde
        refine ⟨_, _, _, Or.inr (Or.inr ⟨p1, q1, r1, p2, q2, r2, g, m1, m2, hg, hd, rfl, rfl, rfl⟩), mz_vertex hab hF m1 m2 hg hd h1' h2' hmin, ?_⟩
        have e1 := mz_s1 g p1 q1 r1 p2 q2 r2
        have e2 := mz_s2 g p1 q1 r1 p2 q2 r2
        generalize g * (r1 * q2 - r2 * q1) = X at *
        generalize g * (p1 * r2 - p2 * r1) = Y at *
        generalize g * mz_cr p1 q1 p2 q2 = D at *
        generalize g * mz_cr a b p2 q2 = L1 at *
        generalize g * mz_cr p1 q1 a b = L2 at *
        have x1 : D * (a * X + b * Y) = (D * a) * X + (D * b) * Y := by clear ha hb e1 e2 hmin h1 h2 h1' h2' hd; grind
        have x2 : (L1 * p1 + L2 * p2) * X + (L1 * q1 + L2 * q2) * Y = L1 * (p1 * X + q1 * Y) + L2 * (p2 * X + q2 * Y) := by clear ha hb e1 e2 hmin h1 h2 h1' h2' hd; grind
        rw [x1, ha, hb, x2, e1, e2]
        clear ha hb e1 e2 hmin h1 h2 h1' h2' hd x1 x2
        grind
      · have hc : mz_cr p2 q2 a b = 0 := by
          have := mz_sw g p2 q2 a b
          have h9 := mz_sw 1 a b p2 q2
          rcases hg with rfl | rfl <;> omega
        rw [← h1', Int.zero_mul, Int.zero_add] at ha hb
        exact mz_strong2 hab hF m2 hd h2 hc ha hb (by rw [ht, ← h1', Int.mul_zero, Int.zero_add]) hmin
    · have hc : mz_cr p1 q1 a b = 0 := by rcases hg with rfl | rfl <;> omega
      rw [← h2', Int.zero_mul, Int.add_zero] at ha hb
      exact mz_strong2 hab hF m1 hd h1 hc ha hb (by rw [ht, ← h2', Int.mul_zero, Int.add_zero]) hmin
theorem mz_w1 (a b p q u v : Int) : (a * a + b * b) * mz_cr p q u v = (p * a + q * b) * mz_cr a b u v - mz_cr a b p q * (u * a + v * b) := by unfold mz_cr; grind
/-- no bound at all: a direction that the reference tries -/
theorem mz_way {G : mz_G} {a b : Int} (hab : ¬ (a = 0 ∧ b = 0)) (hno : ∀ t d, ¬ mz_DC G a b t d) : mz_ft G a b 0 ∧ 0 < a * a + b * b ∨ ∃ p q r e : Int, (p, q, r) ∈ G ∧ (e = 1 ∨ e = -1) ∧ 0 < a * (e * q) + b * (-(e * p)) ∧ mz_ft G (e * q) (-(e * p)) 0 := by
  have hN := mz_n2 hab
  by_cases hall : mz_ft G a b 0
  · exact Or.inl ⟨hall, hN⟩
  refine Or.inr ?_
  obtain ⟨p0, q0, r0, m0, h0⟩ : ∃ p q r : Int, (p, q, r) ∈ G ∧ 0 < p * a + q * b := by
    by_cases hx : ∃ p q r : Int, (p, q, r) ∈ G ∧ 0 < p * a + q * b
    · exact hx
    · refine absurd (fun p q r hw => ?_) hall
      rw [Int.mul_zero]
      exact Int.not_lt.mp (fun z => hx ⟨p, q, r, hw, z⟩)
  have hc0 : mz_cr a b p0 q0 ≠ 0 := by
    intro hz
    refine hno _ _ (Or.inl ⟨p0, q0, r0, m0, ?_, h0, rfl, rfl⟩)
    have := mz_sw 1 a b p0 q0
    omega
  obtain ⟨ε, hε, hε0⟩ : ∃ ε : Int, (ε = 1 ∨ ε = -1) ∧ 0 < ε * mz_cr a b p0 q0 := by
    rcases Int.lt_or_gt_of_ne hc0 with z | z
    · exact ⟨-1, Or.inr rfl, by omega⟩
    · exact ⟨1, Or.inl rfl, by omega⟩
  obtain ⟨⟨p1, q1, r1⟩, m1, ⟨hy1, hx1⟩, hbest⟩ := mz_best (fun w : Int × Int × Int => 0 < w.1 * a + w.2.1 * b ∧ 0 < ε * mz_cr a b w.1 w.2.1) (fun w => w.1 * a + w.2.1 * b) (fun w => ε * mz_cr a b w.1 w.2.1) G (fun w _ h => h.2) ⟨(p0, q0, r0), m0, h0, hε0⟩
  dsimp only at hy1 hx1 hbest
  refine ⟨p1, q1, r1, ε, m1, hε, ?_, ?_⟩
  · have e : a * (ε * q1) + b * (-(ε * p1)) = ε * mz_cr a b p1 q1 := by unfold mz_cr; grind
    rw [e]; exact hx1
  · intro p q r mw
    rw [Int.mul_zero]
    refine Int.not_lt.mp (fun hv => ?_)
    have e : p * (ε * q1) + q * (-(ε * p1)) = -(ε * mz_cr p1 q1 p q) := by unfold mz_cr; grind
    rw [e] at hv
    have eW : (a * a + b * b) * (-(ε * mz_cr p1 q1 p q)) = (ε * mz_cr a b p1 q1) * (p * a + q * b) - (p1 * a + q1 * b) * (ε * mz_cr a b p q) := by
      have h := mz_w1 a b p1 q1 p q
      have h2 : (a * a + b * b) * (-(ε * mz_cr p1 q1 p q)) = -(ε * ((a * a + b * b) * mz_cr p1 q1 p q)) := by
        generalize mz_cr p1 q1 p q = Z
        generalize a * a + b * b = N
        grind
      rw [h2, h]
      generalize mz_cr a b p q = Z
      generalize mz_cr a b p1 q1 = Z1
      generalize p * a + q * b = y
      generalize p1 * a + q1 * b = y1
      grind
    have hpos := Int.mul_pos hN hv
    rw [eW] at hpos
    rcases Int.lt_trichotomy (ε * mz_cr a b p q) 0 with hs | hs | hs
    · refine hno _ _ (Or.inr ⟨p1, q1, r1, p, q, r, m1, mw, -ε, by omega, by rw [Int.neg_mul]; exact hv, by rw [Int.neg_mul]; omega, ?_, rfl, rfl⟩)
      have := mz_sw (-ε) a b p1 q1
      rw [this, Int.neg_mul, Int.neg_neg]
      omega
    · rw [hs, Int.mul_zero, Int.sub_zero] at hpos
      have hy := Int.pos_of_mul_pos_right hpos hx1
      refine hno _ _ (Or.inl ⟨p, q, r, mw, ?_, hy, rfl, rfl⟩)
      have := mz_sw 1 a b p q
      rcases hε with rfl | rfl <;> omega
    · have z1 := Int.mul_pos hy1 hs
      have hy : 0 < p * a + q * b := Int.pos_of_mul_pos_right (a := ε * mz_cr a b p1 q1) (by omega) hx1
      have hb := hbest (p, q, r) mw ⟨hy, hs⟩
      dsimp only at hb
      have c1 := Int.mul_comm (p * a + q * b) (ε * mz_cr a b p1 q1)
      omega
end
section
/-! The class's search for the least bound, and the reference's search among points, over whole numbers -/
def mz_lo (s : Int × Int) (t d : Int) : Int × Int := if s.2 = 0 ∨ t * s.2 < s.1 * d then (t, d) else s
def mz_rs (a b p q r : Int) (s : Int × Int) : Int × Int := if mz_cr p q a b = 0 ∧ 0 < p * a + q * b then mz_lo s (r * mz_n a b) (mz_n p q) else s
def mz_sg (c : Int) : Int := if c < 0 then -1 else 1
def mz_ps (a b p1 q1 r1 p2 q2 r2 : Int) (s : Int × Int) : Int × Int :=
  if mz_cr p1 q1 p2 q2 ≠ 0 ∧ 0 ≤ mz_sg (mz_cr p1 q1 p2 q2) * mz_cr a b p2 q2 ∧ 0 ≤ mz_sg (mz_cr p1 q1 p2 q2) * mz_cr p1 q1 a b then
    mz_lo s (r1 * (mz_sg (mz_cr p1 q1 p2 q2) * mz_cr a b p2 q2) + r2 * (mz_sg (mz_cr p1 q1 p2 q2) * mz_cr p1 q1 a b)) (mz_sg (mz_cr p1 q1 p2 q2) * mz_cr p1 q1 p2 q2)
  else s
def mz_in (P Q R : Nat → Int) (a b : Int) (i : Nat) : Nat → Nat → Int × Int → Int × Int
  | 0, _, s => s
  | k + 1, j, s => mz_in P Q R a b i k (j + 1) (mz_ps a b (P i) (Q i) (R i) (P j) (Q j) (R j) s)
def mz_out (P Q R : Nat → Int) (a b : Int) : Nat → Nat → Int × Int → Int × Int
  | 0, _, s => s
  | k + 1, i, s => mz_out P Q R a b k (i + 1) (mz_in P Q R a b i k (i + 1) (mz_rs a b (P i) (Q i) (R i) s))
def mz_L (P Q R : Nat → Int) (n : Nat) : mz_G := (List.range n).map (fun i => (P i, Q i, R i))
theorem mz_L_mem {P Q R : Nat → Int} {n : Nat} {p q r : Int} : (p, q, r) ∈ mz_L P Q R n ↔ ∃ i, i < n ∧ P i = p ∧ Q i = q ∧ R i = r := by
  unfold mz_L
  simp [List.mem_map, List.mem_range, Prod.mk.injEq]
def mz_I (C : Int → Int → Prop) (s : Int × Int) : Prop := (∀ t d, C t d → 0 < d) ∧ ((s.2 = 0 ∧ ∀ t d, ¬ C t d) ∨ (0 < s.2 ∧ C s.1 s.2 ∧ ∀ t d, C t d → s.1 * d ≤ t * s.2))
theorem mz_I_congr {C C' : Int → Int → Prop} {s : Int × Int} (h : mz_I C s) (e : ∀ t d, C t d ↔ C' t d) : mz_I C' s := by
  obtain ⟨h0, h1⟩ := h
  refine ⟨fun t d z => h0 t d ((e t d).mpr z), ?_⟩
  rcases h1 with ⟨x, y⟩ | ⟨x, y, z⟩
  · exact Or.inl ⟨x, fun t d w => y t d ((e t d).mpr w)⟩
  · exact Or.inr ⟨x, (e _ _).mp y, fun t d w => z t d ((e t d).mpr w)⟩
theorem mz_lo_I {C : Int → Int → Prop} {s : Int × Int} {t d : Int} (h : mz_I C s) (hd : 0 < d) : mz_I (fun t' d' => C t' d' ∨ (t' = t ∧ d' = d)) (mz_lo s t d) := by
  obtain ⟨h0, h1⟩ := h
  refine ⟨fun t' d' z => ?_, Or.inr ?_⟩
  · rcases z with z | ⟨-, rfl⟩
    · exact h0 t' d' z
    · exact hd
  · rcases h1 with ⟨x, y⟩ | ⟨x, y, z⟩
    · have e : mz_lo s t d = (t, d) := by unfold mz_lo; rw [if_pos (Or.inl x)]
      rw [e]
      refine ⟨hd, Or.inr ⟨rfl, rfl⟩, fun t' d' w => ?_⟩
      rcases w with w | ⟨rfl, rfl⟩
      · exact absurd w (y t' d')
      · exact Int.le_refl _
    · by_cases hlt : t * s.2 < s.1 * d
      · have e : mz_lo s t d = (t, d) := by unfold mz_lo; rw [if_pos (Or.inr hlt)]
        rw [e]
        refine ⟨hd, Or.inr ⟨rfl, rfl⟩, fun t' d' w => ?_⟩
        rcases w with w | ⟨rfl, rfl⟩
        · exact mz_f3 (h0 t' d' w) x hd (Int.le_of_lt hlt) (z t' d' w)
        · exact Int.le_refl _
      · have e : mz_lo s t d = s := by
          unfold mz_lo
          rw [if_neg]
          rintro (w | w)
          · omega
          · exact hlt w
        rw [e]
        refine ⟨x, Or.inl y, fun t' d' w => ?_⟩
        rcases w with w | ⟨rfl, rfl⟩
        · exact z t' d' w
        · omega
/-- what a step adds: E is the kind of bound that it looks for -/
def mz_T (E : Int → Int → Prop) (s s' : Int × Int) : Prop := ∀ C : Int → Int → Prop, mz_I C s → ∃ C' : Int → Int → Prop, mz_I C' s' ∧ ∀ t d, C' t d ↔ C t d ∨ E t d
theorem mz_T_refl {E : Int → Int → Prop} (h : ∀ t d, ¬ E t d) (s : Int × Int) : mz_T E s s := fun C hC => ⟨C, hC, fun t d => ⟨Or.inl, fun z => by rcases z with z | z; exact z; exact absurd z (h t d)⟩⟩
theorem mz_T_trans {E F G : Int → Int → Prop} {s1 s2 s3 : Int × Int} (h1 : mz_T E s1 s2) (h2 : mz_T F s2 s3) (h : ∀ t d, G t d ↔ E t d ∨ F t d) : mz_T G s1 s3 := by
  intro C hC
  obtain ⟨C1, a1, b1⟩ := h1 C hC
  obtain ⟨C2, a2, b2⟩ := h2 C1 a1
  refine ⟨C2, a2, fun t d => ?_⟩
  rw [b2, b1, h, or_assoc]
theorem mz_T_lo {E : Int → Int → Prop} {s : Int × Int} {t d : Int} (hd : 0 < d) (h : ∀ t' d', E t' d' ↔ t' = t ∧ d' = d) : mz_T E s (mz_lo s t d) := fun C hC => ⟨_, mz_lo_I hC hd, fun t' d' => by rw [h]⟩
theorem mz_T_rs (a b p q r : Int) (s : Int × Int) : mz_T (mz_RC p q r a b) s (mz_rs a b p q r s) := by
  unfold mz_rs
  by_cases hc : mz_cr p q a b = 0 ∧ 0 < p * a + q * b
  · rw [if_pos hc]
    refine mz_T_lo (mz_par hc.1 hc.2).2.1 (fun t d => ?_)
    exact ⟨fun z => ⟨z.2.2.1, z.2.2.2⟩, fun z => ⟨hc.1, hc.2, z.1, z.2⟩⟩
  · rw [if_neg hc]
    exact mz_T_refl (fun t d z => hc ⟨z.1, z.2.1⟩) s
theorem mz_sg1 (c : Int) : mz_sg c = 1 ∨ mz_sg c = -1 := by
  unfold mz_sg
  split <;> omega
theorem mz_sgp {c : Int} (h : c ≠ 0) : 0 < mz_sg c * c := by
  unfold mz_sg
  split <;> omega
theorem mz_sgu {c g : Int} (hg : g = 1 ∨ g = -1) (h : 0 < g * c) : g = mz_sg c := by
  unfold mz_sg
  rcases hg with rfl | rfl <;> split <;> omega
theorem mz_T_ps (a b p1 q1 r1 p2 q2 r2 : Int) (s : Int × Int) : mz_T (mz_PC p1 q1 r1 p2 q2 r2 a b) s (mz_ps a b p1 q1 r1 p2 q2 r2 s) := by
  unfold mz_ps
  by_cases hc : mz_cr p1 q1 p2 q2 ≠ 0 ∧ 0 ≤ mz_sg (mz_cr p1 q1 p2 q2) * mz_cr a b p2 q2 ∧ 0 ≤ mz_sg (mz_cr p1 q1 p2 q2) * mz_cr p1 q1 a b
  · rw [if_pos hc]
    refine mz_T_lo (mz_sgp hc.1) (fun t d => ⟨fun z => ?_, fun z => ?_⟩)
    · obtain ⟨g, hg, h0, h1, h2, ht, hd⟩ := z
      have e := mz_sgu hg h0
      subst e
      exact ⟨ht, hd⟩
    · exact ⟨_, mz_sg1 _, mz_sgp hc.1, hc.2.1, hc.2.2, z.1, z.2⟩
  · rw [if_neg hc]
    refine mz_T_refl (fun t d z => hc ?_) s
    obtain ⟨g, hg, h0, h1, h2, ht, hd⟩ := z
    have e := mz_sgu hg h0
    subst e
    refine ⟨fun z => ?_, h1, h2⟩
    rw [z, Int.mul_zero] at h0
    omega
theorem mz_T_in (P Q R : Nat → Int) (a b : Int) (i : Nat) : ∀ (k j : Nat) (s : Int × Int), mz_T (fun t d => ∃ l, j ≤ l ∧ l < j + k ∧ mz_PC (P i) (Q i) (R i) (P l) (Q l) (R l) a b t d) s (mz_in P Q R a b i k j s) := by
  intro k
  induction k with
  | zero => intro j s; exact mz_T_refl (fun t d z => by obtain ⟨l, h1, h2, -⟩ := z; omega) s
  | succ k ih =>
    intro j s
    refine mz_T_trans (mz_T_ps a b (P i) (Q i) (R i) (P j) (Q j) (R j) s) (ih (j + 1) _) (fun t d => ⟨fun z => ?_, fun z => ?_⟩)
    · obtain ⟨l, h1, h2, h3⟩ := z
      by_cases e : l = j
      · subst e; exact Or.inl h3
      · exact Or.inr ⟨l, by omega, by omega, h3⟩
    · rcases z with z | ⟨l, h1, h2, h3⟩
      · exact ⟨j, by omega, by omega, z⟩
      · exact ⟨l, by omega, by omega, h3⟩
theorem mz_T_out (P Q R : Nat → Int) (a b : Int) : ∀ (k i : Nat) (s : Int × Int), mz_T (fun t d => (∃ l, i ≤ l ∧ l < i + k ∧ mz_RC (P l) (Q l) (R l) a b t d) ∨ ∃ l m, i ≤ l ∧ l < m ∧ m < i + k ∧ mz_PC (P l) (Q l) (R l) (P m) (Q m) (R m) a b t d) s (mz_out P Q R a b k i s) := by
  intro k
  induction k with
  | zero => intro i s; exact mz_T_refl (fun t d z => by rcases z with ⟨l, h1, h2, -⟩ | ⟨l, m, h1, h2, h3, -⟩ <;> omega) s
  | succ k ih =>
    intro i s
    refine mz_T_trans (mz_T_trans (mz_T_rs a b (P i) (Q i) (R i) s) (mz_T_in P Q R a b i k (i + 1) _) (fun t d => Iff.rfl)) (ih (i + 1) _) (fun t d => ⟨fun z => ?_, fun z => ?_⟩)
    · rcases z with ⟨l, h1, h2, h3⟩ | ⟨l, m, h1, h2, h3, h4⟩
      · by_cases e : l = i
        · subst e; exact Or.inl (Or.inl h3)
        · exact Or.inr (Or.inl ⟨l, by omega, by omega, h3⟩)
      · by_cases e : l = i
        · subst e; exact Or.inl (Or.inr ⟨m, by omega, by omega, h4⟩)
        · exact Or.inr (Or.inr ⟨l, m, by omega, by omega, by omega, h4⟩)
    · rcases z with (z | ⟨m, h1, h2, h3⟩) | (⟨l, h1, h2, h3⟩ | ⟨l, m, h1, h2, h3, h4⟩)
      · exact Or.inl ⟨i, by omega, by omega, z⟩
      · exact Or.inr ⟨i, m, by omega, by omega, by omega, h3⟩
      · exact Or.inl ⟨l, by omega, by omega, h3⟩
      · exact Or.inr ⟨l, m, by omega, by omega, by omega, h4⟩
theorem mz_PC_sw {p1 q1 r1 p2 q2 r2 a b t d : Int} (h : mz_PC p1 q1 r1 p2 q2 r2 a b t d) : mz_PC p2 q2 r2 p1 q1 r1 a b t d := by
  obtain ⟨g, hg, h0, h1, h2, ht, hd⟩ := h
  have e0 : -g * mz_cr p2 q2 p1 q1 = g * mz_cr p1 q1 p2 q2 := by unfold mz_cr; grind
  have e1 : -g * mz_cr a b p1 q1 = g * mz_cr p1 q1 a b := by unfold mz_cr; grind
  have e2 : -g * mz_cr p2 q2 a b = g * mz_cr a b p2 q2 := by unfold mz_cr; grind
  refine ⟨-g, by omega, by rw [e0]; exact h0, by rw [e1]; exact h2, by rw [e2]; exact h1, ?_, by rw [e0]; exact hd⟩
  rw [e1, e2, ht, Int.add_comm]
theorem mz_PC_ne {p q r r' a b t d : Int} (h : mz_PC p q r p q r' a b t d) : False := by
  obtain ⟨g, hg, h0, h1, h2, ht, hd⟩ := h
  have e : mz_cr p q p q = 0 := by unfold mz_cr; rw [Int.mul_comm]; omega
  rw [e, Int.mul_zero] at h0
  omega
/-- the class's search -/
theorem mz_cm (P Q R : Nat → Int) (n : Nat) (a b : Int) : mz_I (mz_DC (mz_L P Q R n) a b) (mz_out P Q R a b n 0 (0, 0)) := by
  obtain ⟨C', h1, h2⟩ := mz_T_out P Q R a b n 0 (0, 0) (fun _ _ => False) ⟨fun _ _ z => z.elim, Or.inl ⟨rfl, fun _ _ z => z⟩⟩
  refine mz_I_congr h1 (fun t d => ?_)
  rw [h2]
  constructor
  · rintro (z | ⟨l, -, h3, h4⟩ | ⟨l, m, -, h3, h5, h4⟩)
    · exact z.elim
    · exact Or.inl ⟨_, _, _, mz_L_mem.mpr ⟨l, by omega, rfl, rfl, rfl⟩, h4⟩
    · exact Or.inr ⟨_, _, _, _, _, _, mz_L_mem.mpr ⟨l, by omega, rfl, rfl, rfl⟩, mz_L_mem.mpr ⟨m, by omega, rfl, rfl, rfl⟩, h4⟩
  · rintro (⟨p, q, r, hm, h⟩ | ⟨p1, q1, r1, p2, q2, r2, hm1, hm2, h⟩)
    · obtain ⟨l, hl, rfl, rfl, rfl⟩ := mz_L_mem.mp hm
      exact Or.inr (Or.inl ⟨l, by omega, by omega, h⟩)
    · obtain ⟨l, hl, rfl, rfl, rfl⟩ := mz_L_mem.mp hm1
      obtain ⟨m, hm, rfl, rfl, rfl⟩ := mz_L_mem.mp hm2
      rcases Nat.lt_trichotomy l m with z | z | z
      · exact Or.inr (Or.inr ⟨l, m, by omega, z, by omega, h⟩)
      · subst z; exact (mz_PC_ne h).elim
      · exact Or.inr (Or.inr ⟨m, l, by omega, z, by omega, mz_PC_sw h⟩)
/-! the reference -/
def mz_ck (P Q R : Nat → Int) (X Y D : Int) : Nat → Nat → Bool
  | 0, _ => true
  | k + 1, i => if R i * D < P i * X + Q i * Y then false else mz_ck P Q R X Y D k (i + 1)
theorem mz_ck_iff (P Q R : Nat → Int) (X Y D : Int) : ∀ (k i : Nat), mz_ck P Q R X Y D k i = true ↔ ∀ l, i ≤ l → l < i + k → P l * X + Q l * Y ≤ R l * D := by
  intro k
  induction k with
  | zero => intro i; exact ⟨fun _ l h1 h2 => by omega, fun _ => rfl⟩
  | succ k ih =>
    intro i
    unfold mz_ck
    by_cases h : R i * D < P i * X + Q i * Y
    · rw [if_pos h]
      exact ⟨fun z => (by cases z), fun z => absurd (z i (by omega) (by omega)) (by omega)⟩
    · rw [if_neg h, ih (i + 1)]
      refine ⟨fun z l h1 h2 => ?_, fun z l h1 h2 => z l (by omega) (by omega)⟩
      by_cases e : l = i
      · subst e; omega
      · exact z l (by omega) (by omega)
theorem mz_ck_ft (P Q R : Nat → Int) (n : Nat) (X Y D : Int) : mz_ck P Q R X Y D n 0 = true ↔ mz_ft (mz_L P Q R n) X Y D := by
  rw [mz_ck_iff]
  constructor
  · intro h p q r hm
    obtain ⟨l, hl, rfl, rfl, rfl⟩ := mz_L_mem.mp hm
    exact h l (by omega) (by omega)
  · intro h l _ h2
    exact h _ _ _ (mz_L_mem.mpr ⟨l, by omega, rfl, rfl, rfl⟩)
abbrev mz_S : Type := Bool × Int × Int
def mz_mt (P Q R : Nat → Int) (n : Nat) (u v X Y D : Int) (s : mz_S) : mz_S :=
  if mz_ck P Q R X Y D n 0 = true then (if s.1 = false ∨ s.2.1 * D < (u * X + v * Y) * s.2.2 then (true, u * X + v * Y, D) else s) else s
def mz_mn (P Q R : Nat → Int) (n : Nat) (u v X Y D : Int) (s : mz_S) : mz_S := mz_mt P Q R n u v (if D < 0 then -X else X) (if D < 0 then -Y else Y) (if D < 0 then -D else D) s
def mz_fo (P Q R : Nat → Int) (n : Nat) (u v : Int) (i : Nat) (s : mz_S) : mz_S :=
  if 0 < P i * P i + Q i * Q i then mz_mn P Q R n u v (P i * R i) (Q i * R i) (P i * P i + Q i * Q i) s else s
def mz_co (P Q R : Nat → Int) (n : Nat) (u v : Int) (i j : Nat) (s : mz_S) : mz_S :=
  if P i * Q j - P j * Q i ≠ 0 then mz_mn P Q R n u v (R i * Q j - R j * Q i) (P i * R j - P j * R i) (P i * Q j - P j * Q i) s else s
def mz_li (P Q R : Nat → Int) (n : Nat) (u v : Int) (i : Nat) : Nat → Nat → mz_S → mz_S
  | 0, _, s => s
  | k + 1, j, s => mz_li P Q R n u v i k (j + 1) (mz_co P Q R n u v i j s)
def mz_lu (P Q R : Nat → Int) (n : Nat) (u v : Int) : Nat → Nat → mz_S → mz_S
  | 0, _, s => s
  | k + 1, i, s => mz_lu P Q R n u v k (i + 1) (mz_li P Q R n u v i i 0 (mz_fo P Q R n u v i s))
def mz_lk (P Q R : Nat → Int) (n : Nat) (u v : Int) : mz_S := mz_lu P Q R n u v n 0 (mz_mn P Q R n u v 0 0 1 (false, 0, 1))
def mz_J (u v : Int) (C : Int → Int → Int → Prop) (s : mz_S) : Prop := (∀ X Y D, C X Y D → 0 < D) ∧ ((s.1 = false ∧ ∀ X Y D, ¬ C X Y D) ∨ (s.1 = true ∧ 0 < s.2.2 ∧ (∃ X Y, C X Y s.2.2 ∧ s.2.1 = u * X + v * Y) ∧ ∀ X Y D, C X Y D → (u * X + v * Y) * s.2.2 ≤ s.2.1 * D))
def mz_U (u v : Int) (E : Int → Int → Int → Prop) (s s' : mz_S) : Prop := ∀ C : Int → Int → Int → Prop, mz_J u v C s → ∃ C' : Int → Int → Int → Prop, mz_J u v C' s' ∧ ∀ X Y D, C' X Y D ↔ C X Y D ∨ E X Y D
theorem mz_U_refl {u v : Int} {E : Int → Int → Int → Prop} (h : ∀ X Y D, ¬ E X Y D) (s : mz_S) : mz_U u v E s s := fun C hC => ⟨C, hC, fun X Y D => ⟨Or.inl, fun z => by rcases z with z | z; exact z; exact absurd z (h X Y D)⟩⟩
theorem mz_U_trans {u v : Int} {E F G : Int → Int → Int → Prop} {s1 s2 s3 : mz_S} (h1 : mz_U u v E s1 s2) (h2 : mz_U u v F s2 s3) (h : ∀ X Y D, G X Y D ↔ E X Y D ∨ F X Y D) : mz_U u v G s1 s3 := by
  intro C hC
  obtain ⟨C1, a1, b1⟩ := h1 C hC
  obtain ⟨C2, a2, b2⟩ := h2 C1 a1
  refine ⟨C2, a2, fun X Y D => ?_⟩
  rw [b2, b1, h, or_assoc]
theorem mz_U_mt (P Q R : Nat → Int) (n : Nat) (u v X Y D : Int) (hD : 0 < D) (s : mz_S) : mz_U u v (fun X' Y' D' => (X' = X ∧ Y' = Y ∧ D' = D) ∧ mz_ft (mz_L P Q R n) X' Y' D') s (mz_mt P Q R n u v X Y D s) := by
  unfold mz_mt
  by_cases hc : mz_ck P Q R X Y D n 0 = true
  · rw [if_pos hc]
    have hf := (mz_ck_ft P Q R n X Y D).mp hc
    intro C hC
    obtain ⟨h0, h1⟩ := hC
    refine ⟨fun X' Y' D' => C X' Y' D' ∨ (X' = X ∧ Y' = Y ∧ D' = D) ∧ mz_ft (mz_L P Q R n) X' Y' D', ?_, fun _ _ _ => Iff.rfl⟩
    have hpos : ∀ X' Y' D', (C X' Y' D' ∨ (X' = X ∧ Y' = Y ∧ D' = D) ∧ mz_ft (mz_L P Q R n) X' Y' D') → 0 < D' := by
      intro X' Y' D' z
      rcases z with z | ⟨⟨rfl, rfl, rfl⟩, -⟩
      · exact h0 _ _ _ z
      · exact hD
    refine ⟨hpos, Or.inr ?_⟩
    rcases h1 with ⟨x, y⟩ | ⟨x, x2, x3, z⟩
    · rw [if_pos (Or.inl x)]
      refine ⟨rfl, hD, ⟨X, Y, Or.inr ⟨⟨rfl, rfl, rfl⟩, hf⟩, rfl⟩, fun X' Y' D' w => ?_⟩
      rcases w with w | ⟨⟨rfl, rfl, rfl⟩, -⟩
      · exact absurd w (y _ _ _)
      · exact Int.le_refl _
    · by_cases hlt : s.2.1 * D < (u * X + v * Y) * s.2.2
      · rw [if_pos (Or.inr hlt)]
        refine ⟨rfl, hD, ⟨X, Y, Or.inr ⟨⟨rfl, rfl, rfl⟩, hf⟩, rfl⟩, fun X' Y' D' w => ?_⟩
        rcases w with w | ⟨⟨rfl, rfl, rfl⟩, -⟩
        · exact mz_f3 hD x2 (h0 _ _ _ w) (z _ _ _ w) (Int.le_of_lt hlt)
        · exact Int.le_refl _
      · rw [if_neg (fun w => w.elim (fun w => by rw [x] at w; cases w) hlt)]
        obtain ⟨X0, Y0, c0, e0⟩ := x3
        refine ⟨x, x2, ⟨X0, Y0, Or.inl c0, e0⟩, fun X' Y' D' w => ?_⟩
        rcases w with w | ⟨⟨rfl, rfl, rfl⟩, -⟩
        · exact z _ _ _ w
        · omega
  · rw [if_neg hc]
    refine mz_U_refl (fun X' Y' D' z => hc ?_) s
    obtain ⟨⟨rfl, rfl, rfl⟩, hf⟩ := z
    exact (mz_ck_ft P Q R n X' Y' D').mpr hf
theorem mz_mn_pos (P Q R : Nat → Int) (n : Nat) (u v X Y D : Int) (hD : 0 < D) (s : mz_S) : mz_mn P Q R n u v X Y D s = mz_mt P Q R n u v X Y D s := by
  unfold mz_mn
  rw [if_neg (by omega), if_neg (by omega), if_neg (by omega)]
theorem mz_mn_sg (P Q R : Nat → Int) (n : Nat) (u v X Y D : Int) (s : mz_S) : mz_mn P Q R n u v X Y D s = mz_mt P Q R n u v (mz_sg D * X) (mz_sg D * Y) (mz_sg D * D) s := by
  unfold mz_mn mz_sg
  by_cases h : D < 0
  · simp only [if_pos h, Int.neg_mul, Int.one_mul]
  · simp only [if_neg h, Int.one_mul]
def mz_Ef (P Q R : Nat → Int) (n : Nat) (i : Nat) (X Y D : Int) : Prop := (0 < P i * P i + Q i * Q i ∧ X = P i * R i ∧ Y = Q i * R i ∧ D = P i * P i + Q i * Q i) ∧ mz_ft (mz_L P Q R n) X Y D
def mz_Ec (P Q R : Nat → Int) (n : Nat) (i j : Nat) (X Y D : Int) : Prop := (∃ g : Int, (g = 1 ∨ g = -1) ∧ 0 < g * mz_cr (P i) (Q i) (P j) (Q j) ∧ X = g * (R i * Q j - R j * Q i) ∧ Y = g * (P i * R j - P j * R i) ∧ D = g * mz_cr (P i) (Q i) (P j) (Q j)) ∧ mz_ft (mz_L P Q R n) X Y D
theorem mz_U_fo (P Q R : Nat → Int) (n : Nat) (u v : Int) (i : Nat) (s : mz_S) : mz_U u v (mz_Ef P Q R n i) s (mz_fo P Q R n u v i s) := by
  unfold mz_fo
  by_cases h : 0 < P i * P i + Q i * Q i
  · rw [if_pos h, mz_mn_pos _ _ _ _ _ _ _ _ _ h]
    refine mz_U_trans (mz_U_mt P Q R n u v _ _ _ h s) (mz_U_refl (E := fun _ _ _ => False) (fun _ _ _ z => z) _) (fun X Y D => ?_)
    unfold mz_Ef
    exact ⟨fun z => Or.inl ⟨⟨z.1.2.1, z.1.2.2.1, z.1.2.2.2⟩, z.2⟩, fun z => by
      rcases z with z | z
      · exact ⟨⟨h, z.1.1, z.1.2.1, z.1.2.2⟩, z.2⟩
      · exact z.elim⟩
  · rw [if_neg h]
    exact mz_U_refl (fun X Y D z => h z.1.1) s
theorem mz_crc (p q p' q' : Int) : p * q' - p' * q = mz_cr p q p' q' := by unfold mz_cr; rw [Int.mul_comm p' q]
theorem mz_U_co (P Q R : Nat → Int) (n : Nat) (u v : Int) (i j : Nat) (s : mz_S) : mz_U u v (mz_Ec P Q R n i j) s (mz_co P Q R n u v i j s) := by
  unfold mz_co
  rw [mz_crc]
  by_cases h : mz_cr (P i) (Q i) (P j) (Q j) ≠ 0
  · rw [if_pos h, mz_mn_sg]
    refine mz_U_trans (mz_U_mt P Q R n u v _ _ _ (mz_sgp h) s) (mz_U_refl (E := fun _ _ _ => False) (fun _ _ _ z => z) _) (fun X Y D => ?_)
    unfold mz_Ec
    constructor
    · rintro ⟨⟨g, hg, h0, hX, hY, hD⟩, hf⟩
      have e := mz_sgu hg h0
      subst e
      exact Or.inl ⟨⟨hX, hY, hD⟩, hf⟩
    · rintro (⟨⟨hX, hY, hD⟩, hf⟩ | z)
      · exact ⟨⟨_, mz_sg1 _, mz_sgp h, hX, hY, hD⟩, hf⟩
      · exact z.elim
  · rw [if_neg h]
    refine mz_U_refl (fun X Y D z => h ?_) s
    obtain ⟨⟨g, hg, h0, -⟩, -⟩ := z
    intro e
    rw [e, Int.mul_zero] at h0
    omega
theorem mz_U_li (P Q R : Nat → Int) (n : Nat) (u v : Int) (i : Nat) : ∀ (k j : Nat) (s : mz_S), mz_U u v (fun X Y D => ∃ l, j ≤ l ∧ l < j + k ∧ mz_Ec P Q R n i l X Y D) s (mz_li P Q R n u v i k j s) := by
  intro k
  induction k with
  | zero => intro j s; exact mz_U_refl (fun X Y D z => by obtain ⟨l, h1, h2, -⟩ := z; omega) s
  | succ k ih =>
    intro j s
    refine mz_U_trans (mz_U_co P Q R n u v i j s) (ih (j + 1) _) (fun X Y D => ⟨fun z => ?_, fun z => ?_⟩)
    · obtain ⟨l, h1, h2, h3⟩ := z
      by_cases e : l = j
      · subst e; exact Or.inl h3
      · exact Or.inr ⟨l, by omega, by omega, h3⟩
    · rcases z with z | ⟨l, h1, h2, h3⟩
      · exact ⟨j, by omega, by omega, z⟩
      · exact ⟨l, by omega, by omega, h3⟩
theorem mz_U_lu (P Q R : Nat → Int) (n : Nat) (u v : Int) : ∀ (k i : Nat) (s : mz_S), mz_U u v (fun X Y D => (∃ l, i ≤ l ∧ l < i + k ∧ mz_Ef P Q R n l X Y D) ∨ ∃ l m, i ≤ l ∧ l < i + k ∧ m < l ∧ mz_Ec P Q R n l m X Y D) s (mz_lu P Q R n u v k i s) := by
  intro k
  induction k with
  | zero => intro i s; exact mz_U_refl (fun X Y D z => by rcases z with ⟨l, h1, h2, -⟩ | ⟨l, m, h1, h2, -⟩ <;> omega) s
  | succ k ih =>
    intro i s
    refine mz_U_trans (mz_U_trans (mz_U_fo P Q R n u v i s) (mz_U_li P Q R n u v i i 0 _) (fun X Y D => Iff.rfl)) (ih (i + 1) _) (fun X Y D => ⟨fun z => ?_, fun z => ?_⟩)
    · rcases z with ⟨l, h1, h2, h3⟩ | ⟨l, m, h1, h2, h3, h4⟩
      · by_cases e : l = i
        · subst e; exact Or.inl (Or.inl h3)
        · exact Or.inr (Or.inl ⟨l, by omega, by omega, h3⟩)
      · by_cases e : l = i
        · subst e; exact Or.inl (Or.inr ⟨m, by omega, by omega, h4⟩)
        · exact Or.inr (Or.inr ⟨l, m, by omega, by omega, h3, h4⟩)
    · rcases z with (z | ⟨m, h1, h2, h3⟩) | (⟨l, h1, h2, h3⟩ | ⟨l, m, h1, h2, h3, h4⟩)
      · exact Or.inl ⟨i, by omega, by omega, z⟩
      · exact Or.inr ⟨i, m, by omega, by omega, by omega, h3⟩
      · exact Or.inl ⟨l, by omega, by omega, h3⟩
      · exact Or.inr ⟨l, m, by omega, by omega, h3, h4⟩
/-- the reference's search -/
theorem mz_lm (P Q R : Nat → Int) (n : Nat) (u v : Int) : mz_J u v (fun X Y D => mz_MP (mz_L P Q R n) X Y D ∧ mz_ft (mz_L P Q R n) X Y D) (mz_lk P Q R n u v) := by
  unfold mz_lk
  rw [mz_mn_pos _ _ _ _ _ _ _ _ _ (show (0 : Int) < 1 by omega)]
  obtain ⟨C', h1, h2⟩ := mz_U_trans (mz_U_mt P Q R n u v 0 0 1 (by omega) (false, 0, 1)) (mz_U_lu P Q R n u v n 0 _) (fun X Y D => Iff.rfl) (fun _ _ _ => False) ⟨fun _ _ _ z => z.elim, Or.inl ⟨rfl, fun _ _ _ z => z⟩⟩
  have e : ∀ X Y D, C' X Y D ↔ (mz_MP (mz_L P Q R n) X Y D ∧ mz_ft (mz_L P Q R n) X Y D) := by
    intro X Y D
    rw [h2]
    constructor
    · rintro (z | ⟨h3, h4⟩ | ⟨l, -, h5, h3, h4⟩ | ⟨l, m, -, h5, h6, ⟨g, hg, h0, hX, hY, hD⟩, h4⟩)
      · exact z.elim
      · exact ⟨Or.inl h3, h4⟩
      · exact ⟨Or.inr (Or.inl ⟨P l, Q l, R l, mz_L_mem.mpr ⟨l, by omega, rfl, rfl, rfl⟩, h3⟩), h4⟩
      · exact ⟨Or.inr (Or.inr ⟨P l, Q l, R l, P m, Q m, R m, g, mz_L_mem.mpr ⟨l, by omega, rfl, rfl, rfl⟩, mz_L_mem.mpr ⟨m, by omega, rfl, rfl, rfl⟩, hg, h0, hX, hY, hD⟩), h4⟩
    · rintro ⟨h3 | ⟨p, q, r, hm, h3⟩ | ⟨p1, q1, r1, p2, q2, r2, g, hm1, hm2, hg, h0, hX, hY, hD⟩, h4⟩
      · exact Or.inr (Or.inl ⟨h3, h4⟩)
      · obtain ⟨l, hl, rfl, rfl, rfl⟩ := mz_L_mem.mp hm
        exact Or.inr (Or.inr (Or.inl ⟨l, by omega, by omega, h3, h4⟩))
      · obtain ⟨l, hl, rfl, rfl, rfl⟩ := mz_L_mem.mp hm1
        obtain ⟨m, hm, rfl, rfl, rfl⟩ := mz_L_mem.mp hm2
        rcases Nat.lt_trichotomy l m with z | z | z
        · refine Or.inr (Or.inr (Or.inr ⟨m, l, by omega, by omega, z, ⟨-g, by omega, ?_, ?_, ?_, ?_⟩, h4⟩))
          · have : -g * mz_cr (P m) (Q m) (P l) (Q l) = g * mz_cr (P l) (Q l) (P m) (Q m) := by unfold mz_cr; grind
            rw [this]; exact h0
          · rw [hX]; grind
          · rw [hY]; grind
          · rw [hD]; unfold mz_cr; grind
        · subst z
          have e : mz_cr (P l) (Q l) (P l) (Q l) = 0 := by unfold mz_cr; rw [Int.mul_comm]; omega
          rw [e, Int.mul_zero] at h0
          omega
        · exact Or.inr (Or.inr (Or.inr ⟨l, m, by omega, by omega, z, ⟨g, hg, h0, hX, hY, hD⟩, h4⟩))
  obtain ⟨a0, a1⟩ := h1
  refine ⟨fun X Y D z => a0 X Y D ((e X Y D).mpr z), ?_⟩
  rcases a1 with ⟨x, y⟩ | ⟨x, x2, ⟨X0, Y0, c0, e0⟩, z⟩
  · exact Or.inl ⟨x, fun X Y D w => y X Y D ((e X Y D).mpr w)⟩
  · exact Or.inr ⟨x, x2, ⟨X0, Y0, (e _ _ _).mp c0, e0⟩, fun X Y D w => z X Y D ((e X Y D).mpr w)⟩
/-! what the two searches have in common -/
theorem mz_feasMP {G : mz_G} (hmin : ∀ a b : Int, (∀ t d, ¬ mz_DC G a b t d) ∨ ∃ t d, mz_DC G a b t d ∧ ∀ t' d', mz_DC G a b t' d' → t * d' ≤ t' * d) (hF : mz_Feas G) : ∃ X Y D, mz_MP G X Y D ∧ mz_ft G X Y D := by
  by_cases h0 : mz_ft G 0 0 1
  · exact ⟨0, 0, 1, Or.inl ⟨rfl, rfl, rfl⟩, h0⟩
  · obtain ⟨p, q, r, m, h⟩ : ∃ p q r : Int, (p, q, r) ∈ G ∧ r < 0 := by
      by_cases hx : ∃ p q r : Int, (p, q, r) ∈ G ∧ r < 0
      · exact hx
      · refine absurd (fun p q r hw => ?_) h0
        have : ¬ r < 0 := fun z => hx ⟨p, q, r, hw, z⟩
        omega
    have hpq : ¬ (p = 0 ∧ q = 0) := by
      rintro ⟨rfl, rfl⟩
      obtain ⟨X, Y, D, hD, hf⟩ := hF
      have h1 := hf _ _ _ m
      have h2 := Int.mul_neg_of_neg_of_pos h hD
      omega
    have hdc : mz_DC G p q (r * mz_n p q) (mz_n p q) := Or.inl ⟨p, q, r, m, by unfold mz_cr; rw [Int.mul_comm]; omega, mz_n2 hpq, rfl, rfl⟩
    rcases hmin p q with z | ⟨t, d, h1, h2⟩
    · exact absurd hdc (z _ _)
    · obtain ⟨X, Y, D, a, b, -⟩ := mz_strong hpq hF h1 h2
      exact ⟨X, Y, D, a, b⟩
theorem mz_minEx (P Q R : Nat → Int) (n : Nat) (a b : Int) : (∀ t d, ¬ mz_DC (mz_L P Q R n) a b t d) ∨ ∃ t d, mz_DC (mz_L P Q R n) a b t d ∧ ∀ t' d', mz_DC (mz_L P Q R n) a b t' d' → t * d' ≤ t' * d := by
  rcases (mz_cm P Q R n a b).2 with h | ⟨-, h1, h2⟩
  · exact Or.inl h.2
  · exact Or.inr ⟨_, _, h1, h2⟩
/-- the reference finds a point exactly where there is one -/
theorem mz_lk_some (P Q R : Nat → Int) (n : Nat) (u v : Int) : (mz_lk P Q R n u v).1 = true ↔ mz_Feas (mz_L P Q R n) := by
  rcases (mz_lm P Q R n u v).2 with ⟨x, y⟩ | ⟨x, x2, ⟨X, Y, c, -⟩, -⟩
  · constructor
    · intro z; rw [x] at z; cases z
    · intro z
      obtain ⟨X, Y, D, h⟩ := mz_feasMP (mz_minEx P Q R n) z
      exact absurd h (y X Y D)
  · exact ⟨fun _ => ⟨X, Y, _, x2, c.2⟩, fun _ => x⟩
def mz_ca (P Q R : Nat → Int) (n : Nat) (a b : Int) : Int × Int := if a = 0 ∧ b = 0 then (0, 1) else mz_out P Q R a b n 0 (0, 0)
def mz_Wy (G : mz_G) (u v x y : Int) : Prop := 0 < u * x + v * y ∧ mz_ft G x y 0
def mz_End (G : mz_G) (u v : Int) : Prop := mz_Wy G u v u v ∨ ∃ p q r : Int, (p, q, r) ∈ G ∧ (mz_Wy G u v (-q) p ∨ mz_Wy G u v q (-p) ∨ mz_Wy G u v (-p) (-q))
theorem mz_ca_end (P Q R : Nat → Int) (n : Nat) (a b : Int) : (mz_ca P Q R n a b).2 = 0 ↔ mz_End (mz_L P Q R n) a b := by
  unfold mz_ca
  by_cases hab : a = 0 ∧ b = 0
  · rw [if_pos hab]
    obtain ⟨rfl, rfl⟩ := hab
    constructor
    · intro z; exact absurd z (by decide)
    · rintro (⟨h, -⟩ | ⟨p, q, r, -, ⟨h, -⟩ | ⟨h, -⟩ | ⟨h, -⟩⟩) <;> omega
  · rw [if_neg hab]
    have hI := mz_cm P Q R n a b
    constructor
    · intro z
      rcases hI.2 with ⟨-, h⟩ | ⟨h, -⟩
      · rcases mz_way hab h with ⟨h1, h2⟩ | ⟨p, q, r, e, m, he, h1, h2⟩
        · exact Or.inl ⟨h2, h1⟩
        · refine Or.inr ⟨p, q, r, m, ?_⟩
          rcases he with rfl | rfl
          · rw [Int.one_mul, Int.one_mul] at h1 h2
            exact Or.inr (Or.inl ⟨h1, h2⟩)
          · rw [Int.neg_mul, Int.one_mul, Int.neg_mul, Int.one_mul, Int.neg_neg] at h1 h2
            exact Or.inl ⟨h1, h2⟩
      · omega
    · intro z
      rcases hI.2 with h | ⟨h0, h, -⟩
      · exact h.1
      · exfalso
        obtain ⟨hd, hw⟩ := mz_wk h
        have key : ∀ x y, ¬ mz_Wy (mz_L P Q R n) a b x y := by
          rintro x y ⟨h1, h2⟩
          have h3 := hw x y 0 h2
          have h4 := Int.mul_pos hd h1
          rw [Int.mul_zero] at h3
          omega
        rcases z with z | ⟨p, q, r, -, z | z | z⟩
        · exact key _ _ z
        · exact key _ _ z
        · exact key _ _ z
        · exact key _ _ z
/-- both searches find the same fraction -/
theorem mz_ca_eq {P Q R : Nat → Int} {n : Nat} (hF : mz_Feas (mz_L P Q R n)) {a b : Int} (h : (mz_ca P Q R n a b).2 ≠ 0) :
    0 < (mz_ca P Q R n a b).2 ∧ 0 < (mz_lk P Q R n a b).2.2 ∧ (mz_ca P Q R n a b).1 * (mz_lk P Q R n a b).2.2 = (mz_lk P Q R n a b).2.1 * (mz_ca P Q R n a b).2 ∧ ∃ X Y D, 0 < D ∧ mz_ft (mz_L P Q R n) X Y D ∧ (mz_ca P Q R n a b).2 * (a * X + b * Y) = (mz_ca P Q R n a b).1 * D ∧ ∀ X Y D, 0 < D → mz_ft (mz_L P Q R n) X Y D → (mz_ca P Q R n a b).2 * (a * X + b * Y) ≤ (mz_ca P Q R n a b).1 * D := by
  have hs := (mz_lk_some P Q R n a b).mpr hF
  rcases (mz_lm P Q R n a b).2 with ⟨x, -⟩ | ⟨-, hB, ⟨X, Y, c, e⟩, hmax⟩
  · rw [hs] at x; cases x
  unfold mz_ca at h ⊢
  by_cases hab : a = 0 ∧ b = 0
  · rw [if_pos hab] at h ⊢
    dsimp only at h ⊢
    obtain ⟨rfl, rfl⟩ := hab
    refine ⟨by omega, hB, ?_, X, Y, _, hB, c.2, by omega, fun X Y D _ _ => by omega⟩
    rw [e]
    omega
  · rw [if_neg hab] at h ⊢
    rcases (mz_cm P Q R n a b).2 with z | ⟨h0, h1, h2⟩
    · exact absurd z.1 h
    · obtain ⟨hd, hw⟩ := mz_wk h1
      obtain ⟨X1, Y1, D1, m1, f1, e1⟩ := mz_strong hab hF h1 h2
      have p1 := mz_MPpos m1
      have w0 := hw X Y _ c.2
      have m0 := hmax X1 Y1 D1 ⟨m1, f1⟩
      rw [← e] at w0
      refine ⟨h0, hB, ?_, X1, Y1, D1, p1, f1, e1, fun X Y D _ hf => hw X Y D hf⟩
      generalize (mz_lk P Q R n a b).2.2 = B at *
      generalize (mz_lk P Q R n a b).2.1 = T at *
      generalize (mz_out P Q R a b n 0 (0, 0)).1 = t at *
      generalize (mz_out P Q R a b n 0 (0, 0)).2 = d at *
      have c1 := Int.mul_comm T d
      refine Int.le_antisymm ?_ (by omega)
      refine Int.le_of_mul_le_mul_left (a := D1) ?_ p1
      have x1 := Int.mul_le_mul_of_nonneg_left m0 (Int.le_of_lt h0)
      have x2 : D1 * (t * B) = (t * D1) * B := by rw [Int.mul_left_comm, ← Int.mul_assoc]
      have x3 : d * ((a * X1 + b * Y1) * B) = (d * (a * X1 + b * Y1)) * B := by rw [Int.mul_assoc]
      have x4 : D1 * (T * d) = d * (T * D1) := by rw [Int.mul_left_comm, Int.mul_comm D1 d, Int.mul_left_comm]
      rw [x2, ← e1, ← x3, x4]
      exact x1
/-- a row more: what the class looks at -/
theorem mz_add {P Q R : Nat → Int} {n : Nat} (hF : mz_Feas (mz_L P Q R n)) : mz_Feas (mz_L P Q R (n + 1)) ↔ ¬ ((mz_ca P Q R n (-P n) (-Q n)).2 ≠ 0 ∧ (mz_ca P Q R n (-P n) (-Q n)).1 < -R n * (mz_ca P Q R n (-P n) (-Q n)).2) := by
  have hsplit : ∀ X Y D, mz_ft (mz_L P Q R (n + 1)) X Y D ↔ mz_ft (mz_L P Q R n) X Y D ∧ P n * X + Q n * Y ≤ R n * D := by
    intro X Y D
    constructor
    · intro h
      refine ⟨fun p q r hm => ?_, h _ _ _ (mz_L_mem.mpr ⟨n, by omega, rfl, rfl, rfl⟩)⟩
      obtain ⟨l, hl, rfl, rfl, rfl⟩ := mz_L_mem.mp hm
      exact h _ _ _ (mz_L_mem.mpr ⟨l, by omega, rfl, rfl, rfl⟩)
    · rintro ⟨h1, h2⟩ p q r hm
      obtain ⟨l, hl, rfl, rfl, rfl⟩ := mz_L_mem.mp hm
      by_cases e : l = n
      · subst e; exact h2
      · exact h1 _ _ _ (mz_L_mem.mpr ⟨l, by omega, rfl, rfl, rfl⟩)
  have hng : ∀ X Y : Int, -P n * X + -Q n * Y = -(P n * X + Q n * Y) := fun X Y => by rw [Int.neg_mul, Int.neg_mul]; omega
  by_cases hz : (mz_ca P Q R n (-P n) (-Q n)).2 = 0
  · refine ⟨fun _ z => z.1 hz, fun _ => ?_⟩
    have hE := (mz_ca_end P Q R n (-P n) (-Q n)).mp hz
    obtain ⟨x, y, h1, h2⟩ : ∃ x y, mz_Wy (mz_L P Q R n) (-P n) (-Q n) x y := by
      rcases hE with z | ⟨p, q, r, -, z | z | z⟩
      · exact ⟨_, _, z⟩
      · exact ⟨_, _, z⟩
      · exact ⟨_, _, z⟩
      · exact ⟨_, _, z⟩
    obtain ⟨X, Y, D, hD, hf⟩ := hF
    rw [hng] at h1
    -- far enough along that way
    refine ⟨X + ((P n * X + Q n * Y - R n * D).natAbs : Int) * x, Y + ((P n * X + Q n * Y - R n * D).natAbs : Int) * y, D, hD, (hsplit _ _ _).mpr ⟨fun p q r hm => ?_, ?_⟩⟩
    · have k1 := hf p q r hm
      have k2 := h2 p q r hm
      rw [Int.mul_zero] at k2
      generalize hK : ((P n * X + Q n * Y - R n * D).natAbs : Int) = K
      have hK0 : 0 ≤ K := by omega
      have k3 := Int.mul_nonpos_of_nonneg_of_nonpos hK0 k2
      have e : p * (X + K * x) + q * (Y + K * y) = p * X + q * Y + K * (p * x + q * y) := by clear hK hK0 k1 k2 k3 h1 h2; grind
      omega
    · generalize hK : ((P n * X + Q n * Y - R n * D).natAbs : Int) = K
      have hK0 : 0 ≤ K := by omega
      have e : P n * (X + K * x) + Q n * (Y + K * y) = P n * X + Q n * Y + K * (P n * x + Q n * y) := by clear hK hK0 h1 h2; grind
      have k3 := Int.mul_le_mul_of_nonneg_left (show P n * x + Q n * y ≤ -1 by omega) hK0
      omega
  · obtain ⟨hd, -, -, X, Y, D, hD, hf, e, hw⟩ := mz_ca_eq hF hz
    generalize (mz_ca P Q R n (-P n) (-Q n)).2 = d at *
    generalize (mz_ca P Q R n (-P n) (-Q n)).1 = t at *
    constructor
    · rintro ⟨X1, Y1, D1, hD1, hf1⟩ ⟨-, h2⟩
      obtain ⟨g1, g2⟩ := (hsplit _ _ _).mp hf1
      have g3 := hw X1 Y1 D1 hD1 g1
      rw [hng] at g3
      have g4 := Int.mul_le_mul_of_nonneg_left g2 (Int.le_of_lt hd)
      have g5 := Int.mul_lt_mul_of_pos_right h2 hD1
      have e2 : -R n * d * D1 = -(d * (R n * D1)) := by clear hw e g1 g2 g3 g4 g5 h2; grind
      rw [Int.mul_neg] at g3
      omega
    · intro h
      have h' : ¬ t < -R n * d := fun z => h ⟨hz, z⟩
      refine ⟨X, Y, D, hD, (hsplit _ _ _).mpr ⟨hf, ?_⟩⟩
      refine Int.le_of_mul_le_mul_left (a := d) ?_ hd
      have g5 := Int.mul_le_mul_of_nonneg_right (show -R n * d ≤ t by omega) (Int.le_of_lt hD)
      have e2 : -R n * d * D = -(d * (R n * D)) := by clear hw e g5 h h'; grind
      rw [hng, Int.mul_neg] at e
      omega
end
section
/-! Worlds cut and joined again, in any place; contracts of one form -/
theorem wk_P {D : va_G} {cl : List vw_C} {ws : va_W} {H : Heap} : va_P D cl ws H ↔ ∀ q ∈ ws, va_at D cl q H :=
  ⟨fun h q hq => by obtain ⟨k, hk⟩ := List.mem_iff_getElem?.mp hq; exact h k q hk, fun h k q hk => h q (List.mem_of_getElem? hk)⟩
theorem wk_D {A : Nat → Prop} {ws : va_W} : va_D A ws ↔ ws.Pairwise (fun a b => a.1 ≠ b.1) ∧ ∀ q ∈ ws, A q.1 := by
  constructor
  · intro h
    refine ⟨List.pairwise_iff_getElem.mpr (fun i j hi hj hij e => ?_), fun q hq => ?_⟩
    · have := h.1 i j _ _ (List.getElem?_eq_getElem hi) (List.getElem?_eq_getElem hj) e
      omega
    · obtain ⟨k, hk⟩ := List.mem_iff_getElem?.mp hq
      exact h.2 k q hk
  · intro h
    refine ⟨fun i j p q hi hj e => ?_, fun k q hk => h.2 q (List.mem_of_getElem? hk)⟩
    obtain ⟨hi', rfl⟩ := List.getElem?_eq_some_iff.mp hi
    obtain ⟨hj', rfl⟩ := List.getElem?_eq_some_iff.mp hj
    have h1 := List.pairwise_iff_getElem.mp h.1
    rcases Nat.lt_trichotomy i j with z | z | z
    · exact absurd e (h1 i j hi' hj' z)
    · exact z
    · exact absurd e.symm (h1 j i hj' hi' z)
theorem wk_A {ws : va_W} {sz q : Nat} : va_A ws sz q ↔ (∃ x ∈ ws, x.1 = q) ∨ sz ≤ q := by
  constructor
  · rintro (⟨k, e, h⟩ | h)
    · exact Or.inl ⟨_, List.mem_of_getElem? h, rfl⟩
    · exact Or.inr h
  · rintro (⟨x, h, rfl⟩ | h)
    · obtain ⟨k, hk⟩ := List.mem_iff_getElem?.mp h
      exact Or.inl ⟨k, x.2, hk⟩
    · exact Or.inr h
theorem wk_cutP {D : va_G} {cl : List vw_C} {w1 wc w2 : va_W} {H : Heap} (h : va_P D cl (w1 ++ (wc ++ w2)) H) : va_P D cl wc H :=
  wk_P.mpr (fun q hq => wk_P.mp h q (List.mem_append_right _ (List.mem_append_left _ hq)))
theorem wk_cutD {A : Nat → Prop} {w1 wc w2 : va_W} (h : va_D A (w1 ++ (wc ++ w2))) : va_D A wc := by
  have h1 := wk_D.mp h
  refine wk_D.mpr ⟨?_, fun q hq => h1.2 q (List.mem_append_right _ (List.mem_append_left _ hq))⟩
  exact (List.pairwise_append.mp (List.pairwise_append.mp h1.1).2.1).1
theorem wk_free {A0 : Nat → Prop} {w1 wc w2 : va_W} {H0 H : Heap} {locs : List Loc} (hD : va_D A0 (w1 ++ (wc ++ w2))) (hS : va_S A0 H0 H locs) (hA : ∀ q, H0.size ≤ q → A0 q) : ∀ q, va_A wc H.size q → A0 q := by
  intro q h
  rcases wk_A.mp h with ⟨x, hx, rfl⟩ | h
  · exact (wk_D.mp hD).2 x (List.mem_append_right _ (List.mem_append_left _ hx))
  · exact hA q (Nat.le_trans hS.1 h)
theorem wk_join {A0 : Nat → Prop} {D : va_G} {cl : List vw_C} {w1 wc w2 wn : va_W} {H H1 : Heap} (hP : va_P D cl (w1 ++ (wc ++ w2)) H) (hD : va_D A0 (w1 ++ (wc ++ w2)))
    (hk : ∀ q : Nat, q < H.size → ¬ va_A wc H.size q → H1[q]? = H[q]?) (hF : ∀ q, va_A wc H.size q → A0 q) (hP1 : va_P D cl wn H1) (hD1 : va_D (va_A wc H.size) wn) : va_P D cl (w1 ++ (wn ++ w2)) H1 ∧ va_D A0 (w1 ++ (wn ++ w2)) := by
  have p0 := wk_P.mp hP
  have p1 := wk_P.mp hP1
  obtain ⟨d0, a0⟩ := wk_D.mp hD
  obtain ⟨d1, a1⟩ := wk_D.mp hD1
  obtain ⟨x1, x2, x3⟩ := List.pairwise_append.mp d0
  obtain ⟨y1, y2, y3⟩ := List.pairwise_append.mp x2
  have l1 : ∀ q ∈ w1, q.1 < H.size ∧ ¬ va_A wc H.size q.1 := by
    intro q hq
    have hl := (p0 q (List.mem_append_left _ hq)).lt
    refine ⟨hl, fun h => ?_⟩
    rcases wk_A.mp h with ⟨x, hx, e⟩ | h
    · exact x3 q hq x (List.mem_append_left _ hx) e.symm
    · omega
  have l2 : ∀ q ∈ w2, q.1 < H.size ∧ ¬ va_A wc H.size q.1 := by
    intro q hq
    have hl := (p0 q (List.mem_append_right _ (List.mem_append_right _ hq))).lt
    refine ⟨hl, fun h => ?_⟩
    rcases wk_A.mp h with ⟨x, hx, e⟩ | h
    · exact y3 x hx q hq e
    · omega
  constructor
  · refine wk_P.mpr (fun q hq => ?_)
    rcases List.mem_append.mp hq with h | h
    · exact (p0 q (List.mem_append_left _ h)).kept (hk q.1 (l1 q h).1 (l1 q h).2)
    · rcases List.mem_append.mp h with h | h
      · exact p1 q h
      · exact (p0 q (List.mem_append_right _ (List.mem_append_right _ h))).kept (hk q.1 (l2 q h).1 (l2 q h).2)
  · refine wk_D.mpr ⟨List.pairwise_append.mpr ⟨x1, List.pairwise_append.mpr ⟨d1, y2, fun a ha b hb e => ?_⟩, fun a ha b hb e => ?_⟩, fun q hq => ?_⟩
    · exact (l2 b hb).2 (by rw [← e]; exact a1 a ha)
    · rcases List.mem_append.mp hb with hb | hb
      · exact (l1 a ha).2 (by rw [e]; exact a1 b hb)
      · exact x3 a ha b (List.mem_append_right _ hb) e
    · rcases List.mem_append.mp hq with h | h
      · exact a0 q (List.mem_append_left _ h)
      · rcases List.mem_append.mp h with h | h
        · exact hF _ (a1 q h)
        · exact a0 q (List.mem_append_right _ (List.mem_append_right _ h))
/-- the same cells in another order -/
theorem wk_permP {D : va_G} {cl : List vw_C} {ws ws' : va_W} {H : Heap} (h : va_P D cl ws H) (hp : ws'.Perm ws) : va_P D cl ws' H := wk_P.mpr (fun q hq => wk_P.mp h q (hp.mem_iff.mp hq))
theorem wk_permD {A : Nat → Prop} {ws ws' : va_W} (h : va_D A ws) (hp : ws'.Perm ws) : va_D A ws' := by
  obtain ⟨h1, h2⟩ := wk_D.mp h
  exact wk_D.mpr ⟨hp.symm.pairwise h1 (fun z e => z e.symm), fun q hq => h2 q (hp.mem_iff.mp hq)⟩
/-- the words of nest mates -/
def wk_nest (w : Cond) : Prop := (∃ a i b n d h, w = Cond.fieldLinkNest a i b n d h) ∨ ∃ a i x h, w = Cond.methodLinkNest a i x h
def wk_Z (nz : List Cond) (U : State) : Prop := ∀ w ∈ nz, va_Nw w U
theorem wk_Z.warm {nz : List Cond} {s U : State} (hn : ∀ w ∈ nz, wk_nest w) (hW : s.WarmedH U.vm) (h : wk_Z nz s) : wk_Z nz U := by
  intro w hw
  have h1 := h w hw
  rcases hn w hw with ⟨a, i, b, n, d, x, rfl⟩ | ⟨a, i, x, y, rfl⟩
  · exact va_Nw.warmF hW h1
  · exact va_Nw.warmM hW h1
def wk_B (D : va_G) (cl : List vw_C) (tys : List (ClassId × FieldType)) (nz : List Cond) (w : va_W) (sz : Nat) (U : State) : Prop := U.heap.size = sz ∧ va_P D cl w U.heap ∧ va_K D cl tys U ∧ va_D (fun _ => True) w ∧ wk_Z nz U
def wk_E (D : va_G) (cl : List vw_C) (A : Nat → Prop) (u : va_W) (t : State) : Prop := va_P D cl u t.heap ∧ va_D A u
def wk_kv (l : Launch) (y : MethodName) (ws : List Cond) (rm : Room) (D : va_G) (cl : List vw_C) (tys : List (ClassId × FieldType)) (nz : List Cond) (av : List Value) (w : va_W) (Pw : va_W → Prop) : Prop :=
  ∀ sz, Met l y ws rm (va_Pc av (wk_B D cl tys nz w sz)) (va_Qv (fun u : va_W => Pw u) (wk_E D cl (va_A w sz)) (va_A w sz)) 0 0 (va_A w sz)
def wk_ki (l : Launch) (y : MethodName) (ws : List Cond) (rm : Room) (D : va_G) (cl : List vw_C) (tys : List (ClassId × FieldType)) (nz : List Cond) (av : List Value) (w : va_W) (Pw : va_W → Prop) (r : Int32) : Prop :=
  ∀ sz, Met l y ws rm (va_Pc av (wk_B D cl tys nz w sz)) (va_Qi (fun (x : Int32) (u : va_W) => x = r ∧ Pw u) (wk_E D cl (va_A w sz)) (va_A w sz)) 0 0 (va_A w sz)
def wk_kl (l : Launch) (y : MethodName) (ws : List Cond) (rm : Room) (D : va_G) (cl : List vw_C) (tys : List (ClassId × FieldType)) (nz : List Cond) (av : List Value) (w : va_W) (Pw : va_W → Prop) (r : Int64) : Prop :=
  ∀ sz, Met l y ws rm (va_Pc av (wk_B D cl tys nz w sz)) (va_Ql (fun (x : Int64) (u : va_W) => x = r ∧ Pw u) (wk_E D cl (va_A w sz)) (va_A w sz)) 0 0 (va_A w sz)
theorem wk_blind {D : va_G} {cl : List vw_C} {tys : List (ClassId × FieldType)} {nz : List Cond} {av : List Value} {w : va_W} {sz : Nat} (hn : ∀ w ∈ nz, wk_nest w) : FrameBlind (va_Pc av (wk_B D cl tys nz w sz)) := by
  intro a U g mk q
  obtain ⟨q0, q1, qP, qK, qD, qZ⟩ := q
  exact ⟨q0, q1, qP, va_K.moved (u := U) (U := U.calling g mk a) (Vm.Alike.refl U.vm) qK, qD, fun z hz => va_Nw.same (by rcases hn z hz with ⟨_, _, _, _, _, _, rfl⟩ | ⟨_, _, _, _, rfl⟩ <;> rfl) rfl (qZ z hz)⟩
section WK
variable {p : Program} {l : Launch} {e : Env} {R : Room} {s : State} {m : MethodId} {args : Array Value} {below : List Frame} {meth : Method} {c : Code} {H H0 : Heap} {locs : List Loc} {cells slots : Nat} {Q : State → Prop}
variable {D : va_G} {cl : List vw_C} {tys : List (ClassId × FieldType)} {nz : List Cond} {A0 : Nat → Prop} {w1 wc w2 ws0 : va_W} {Pw : va_W → Prop} {cc : ByteArray} {pc : Nat} {ls : Array Slot} {rest st0 : List Value} {a : Array Value}
theorem wk_pre {av : List Value} (hn : ∀ w ∈ nz, wk_nest w) (hK : va_K D cl tys s) (hZ : wk_Z nz s) (hP : va_P D cl wc H) (hD : va_D A0 wc) : PreS s H (va_Pc av (wk_B D cl tys nz wc H.size)) av :=
  ⟨wk_blind hn, fun U hU hW => ⟨rfl, by rw [hU], by rw [hU]; exact hP, va_K.moved hW.alike hK, hD.weaken (fun _ _ _ _ => trivial), hZ.warm hn hW⟩⟩
theorem wk_preV {b : Nat} {As : List Value} {q0 ci : Nat} {q : vw_C} {fs : List Value} (hn : ∀ w ∈ nz, wk_nest w) (hK : va_K D cl tys s) (hZ : wk_Z nz s) (hP : va_P D cl wc H) (hD : va_D A0 wc) (hc : cl[ci]? = some q) (he : wc[q0]? = some (b, .inr (ci, fs))) : PreV s H q.1 b (va_Pc (.ref b :: As) (wk_B D cl tys nz wc H.size)) As :=
  ⟨wk_blind hn, va_recv hK hP hc he, (wk_pre hn hK hZ hP hD).2⟩
theorem wk_callv (hr : va_Run p l e R s m args below meth c H locs cells slots 0 0 (F0 m pc ls st0) rest (va_Qv (fun u : va_W => Pw u) (wk_E D cl (va_A wc H.size)) (va_A wc H.size) a) (va_A wc H.size)) (hw : ws0 = w1 ++ (wc ++ w2)) (hP : va_P D cl ws0 H) (hD : va_D A0 ws0) (hS : va_S A0 H0 H locs) (hA : ∀ q, H0.size ≤ q → A0 q)
    (kk : ∀ (H1 : Heap) (locs1 : List Loc) (wn : va_W), Pw wn → va_P D cl (w1 ++ (wn ++ w2)) H1 → va_D A0 (w1 ++ (wn ++ w2)) → va_S A0 H0 H1 locs1 → W p l e R s m args below meth c H1 locs1 cells slots Q (F0 m (pc + 3) ls rest)) : W p l e R s m args below meth c H locs cells slots Q (F0 m pc ls st0) := by
  subst hw
  have hF := wk_free hD hS hA
  refine va_callv hr hS (fun q _ h => hF q h) hF (fun u t H1 locs1 ht hvm h5 hB hz1 hk1 hS1 => ?_)
  obtain ⟨hP1, hD1⟩ := hB
  rw [ht] at hP1
  obtain ⟨hP2, hD2⟩ := wk_join hP hD hk1 hF hP1 hD1
  exact kk H1 locs1 u h5 hP2 hD2 hS1
theorem wk_calli {r : Int32} (hr : va_Run p l e R s m args below meth c H locs cells slots 0 0 (F0 m pc ls st0) rest (va_Qi (fun (x : Int32) (u : va_W) => x = r ∧ Pw u) (wk_E D cl (va_A wc H.size)) (va_A wc H.size) a) (va_A wc H.size)) (hw : ws0 = w1 ++ (wc ++ w2)) (hP : va_P D cl ws0 H) (hD : va_D A0 ws0) (hS : va_S A0 H0 H locs) (hA : ∀ q, H0.size ≤ q → A0 q)
    (kk : ∀ (H1 : Heap) (locs1 : List Loc) (wn : va_W), Pw wn → va_P D cl (w1 ++ (wn ++ w2)) H1 → va_D A0 (w1 ++ (wn ++ w2)) → va_S A0 H0 H1 locs1 → W p l e R s m args below meth c H1 locs1 cells slots Q (F0 m (pc + 3) ls (.int r :: rest))) : W p l e R s m args below meth c H locs cells slots Q (F0 m pc ls st0) := by
  subst hw
  have hF := wk_free hD hS hA
  refine va_calli hr hS (fun q _ h => hF q h) hF (fun r u t H1 locs1 ht hvm h5 hB hz1 hk1 hS1 => ?_)
  obtain ⟨rfl, h5⟩ := h5
  obtain ⟨hP1, hD1⟩ := hB
  rw [ht] at hP1
  obtain ⟨hP2, hD2⟩ := wk_join hP hD hk1 hF hP1 hD1
  exact kk H1 locs1 u h5 hP2 hD2 hS1
theorem wk_calll {r : Int64} (hr : va_Run p l e R s m args below meth c H locs cells slots 0 0 (F0 m pc ls st0) rest (va_Ql (fun (x : Int64) (u : va_W) => x = r ∧ Pw u) (wk_E D cl (va_A wc H.size)) (va_A wc H.size) a) (va_A wc H.size)) (hw : ws0 = w1 ++ (wc ++ w2)) (hP : va_P D cl ws0 H) (hD : va_D A0 ws0) (hS : va_S A0 H0 H locs) (hA : ∀ q, H0.size ≤ q → A0 q)
    (kk : ∀ (H1 : Heap) (locs1 : List Loc) (wn : va_W), Pw wn → va_P D cl (w1 ++ (wn ++ w2)) H1 → va_D A0 (w1 ++ (wn ++ w2)) → va_S A0 H0 H1 locs1 → W p l e R s m args below meth c H1 locs1 cells slots Q (F0 m (pc + 3) ls (.long r :: rest))) : W p l e R s m args below meth c H locs cells slots Q (F0 m pc ls st0) := by
  subst hw
  have hF := wk_free hD hS hA
  refine va_calll hr hS (fun q _ h => hF q h) hF (fun r u t H1 locs1 ht hvm h5 hB hz1 hk1 hS1 => ?_)
  obtain ⟨rfl, h5⟩ := h5
  obtain ⟨hP1, hD1⟩ := hB
  rw [ht] at hP1
  obtain ⟨hP2, hD2⟩ := wk_join hP hD hk1 hF hP1 hD1
  exact kk H1 locs1 u h5 hP2 hD2 hS1
/-! a comparison of longs and the branch behind it -/
theorem wl_eq (hx : p.tables.exec = Jvm.exec) (hb : c.code = cc) {x y : Int64} {off : Int} {tgt : Nat} (h1 : decode cc pc = .ok (.lcmp, 1)) (h2 : decode cc (pc + 1) = .ok (.ifCond .eq off, 3)) (ht : ((pc + 1 : Nat) : Int) + off = (tgt : Int))
    (kt : x = y → W p l e R s m args below meth c H locs cells slots Q (F0 m tgt ls rest)) (kf : ¬ x = y → W p l e R s m args below meth c H locs cells slots Q (F0 m (pc + 4) ls rest)) : W p l e R s m args below meth c H locs cells slots Q (F0 m pc ls (.long y :: .long x :: rest)) :=
  W.lcmp hx hb h1 (lv_if_eq hx hb h2 ht (fun h => kt ((lg_cmp_eq x y).mp h)) (fun h => kf (fun z => h ((lg_cmp_eq x y).mpr z))))
theorem wl_ne (hx : p.tables.exec = Jvm.exec) (hb : c.code = cc) {x y : Int64} {off : Int} {tgt : Nat} (h1 : decode cc pc = .ok (.lcmp, 1)) (h2 : decode cc (pc + 1) = .ok (.ifCond .ne off, 3)) (ht : ((pc + 1 : Nat) : Int) + off = (tgt : Int))
    (kt : ¬ x = y → W p l e R s m args below meth c H locs cells slots Q (F0 m tgt ls rest)) (kf : x = y → W p l e R s m args below meth c H locs cells slots Q (F0 m (pc + 4) ls rest)) : W p l e R s m args below meth c H locs cells slots Q (F0 m pc ls (.long y :: .long x :: rest)) :=
  W.lcmp hx hb h1 (lv_if_ne hx hb h2 ht (fun h => kt (fun z => h ((lg_cmp_eq x y).mpr z))) (fun h => kf ((lg_cmp_eq x y).mp (Classical.byContradiction fun z => h z))))
theorem wl_lt (hx : p.tables.exec = Jvm.exec) (hb : c.code = cc) {x y : Int64} {off : Int} {tgt : Nat} (h1 : decode cc pc = .ok (.lcmp, 1)) (h2 : decode cc (pc + 1) = .ok (.ifCond .lt off, 3)) (ht : ((pc + 1 : Nat) : Int) + off = (tgt : Int))
    (kt : x < y → W p l e R s m args below meth c H locs cells slots Q (F0 m tgt ls rest)) (kf : ¬ x < y → W p l e R s m args below meth c H locs cells slots Q (F0 m (pc + 4) ls rest)) : W p l e R s m args below meth c H locs cells slots Q (F0 m pc ls (.long y :: .long x :: rest)) :=
  W.lcmp hx hb h1 (lv_if_lt hx hb h2 ht (fun h => kt ((lg_cmp_lt x y).mp h)) (fun h => kf (fun z => h ((lg_cmp_lt x y).mpr z))))
theorem wl_ge (hx : p.tables.exec = Jvm.exec) (hb : c.code = cc) {x y : Int64} {off : Int} {tgt : Nat} (h1 : decode cc pc = .ok (.lcmp, 1)) (h2 : decode cc (pc + 1) = .ok (.ifCond .ge off, 3)) (ht : ((pc + 1 : Nat) : Int) + off = (tgt : Int))
    (kt : ¬ x < y → W p l e R s m args below meth c H locs cells slots Q (F0 m tgt ls rest)) (kf : x < y → W p l e R s m args below meth c H locs cells slots Q (F0 m (pc + 4) ls rest)) : W p l e R s m args below meth c H locs cells slots Q (F0 m pc ls (.long y :: .long x :: rest)) :=
  W.lcmp hx hb h1 (lv_if_ge hx hb h2 ht (fun h => kt (Int64.not_lt.mpr ((lg_cmp_ge x y).mp h))) (fun h => kf (Int64.not_le.mp (fun z => h ((lg_cmp_ge x y).mpr z)))))
theorem wl_gt (hx : p.tables.exec = Jvm.exec) (hb : c.code = cc) {x y : Int64} {off : Int} {tgt : Nat} (h1 : decode cc pc = .ok (.lcmp, 1)) (h2 : decode cc (pc + 1) = .ok (.ifCond .gt off, 3)) (ht : ((pc + 1 : Nat) : Int) + off = (tgt : Int))
    (kt : y < x → W p l e R s m args below meth c H locs cells slots Q (F0 m tgt ls rest)) (kf : ¬ y < x → W p l e R s m args below meth c H locs cells slots Q (F0 m (pc + 4) ls rest)) : W p l e R s m args below meth c H locs cells slots Q (F0 m pc ls (.long y :: .long x :: rest)) :=
  W.lcmp hx hb h1 (lv_if_gt hx hb h2 ht (fun h => kt ((lg_cmp_gt x y).mp h)) (fun h => kf (fun z => h ((lg_cmp_gt x y).mpr z))))
theorem wl_le (hx : p.tables.exec = Jvm.exec) (hb : c.code = cc) {x y : Int64} {off : Int} {tgt : Nat} (h1 : decode cc pc = .ok (.lcmp, 1)) (h2 : decode cc (pc + 1) = .ok (.ifCond .le off, 3)) (ht : ((pc + 1 : Nat) : Int) + off = (tgt : Int))
    (kt : ¬ y < x → W p l e R s m args below meth c H locs cells slots Q (F0 m tgt ls rest)) (kf : y < x → W p l e R s m args below meth c H locs cells slots Q (F0 m (pc + 4) ls rest)) : W p l e R s m args below meth c H locs cells slots Q (F0 m pc ls (.long y :: .long x :: rest)) :=
  W.lcmp hx hb h1 (lv_if_le hx hb h2 ht (fun h => kt (Int64.not_lt.mpr ((lg_cmp_le x y).mp h))) (fun h => kf (Int64.not_le.mp (fun z => h ((lg_cmp_le x y).mpr z)))))
/-! arrays, at a place that is a known number -/
theorem wa_ild (hx : p.tables.exec = Jvm.exec) (hb : c.code = cc) (hK : va_K D cl tys s) (hP : va_P D cl ws0 H) (q0 t0 : Nat) {ad : Nat} {cA : ClassId} {n : Nat} {f : Nat → Int32} (ha : ws0[q0]? = some (ad, .inl (cA, n, .inl f))) (ht : tys[t0]? = some (cA, .int)) {i : Int32} (k : Nat) (hi : i = nI k) (hk : k < n) (hn : n < 2 ^ 31) (hdg : decode cc pc = .ok (.iaload, 1))
    (kk : W p l e R s m args below meth c H locs cells slots Q (F0 m (pc + 1) ls (.int (f k) :: rest))) : W p l e R s m args below meth c H locs cells slots Q (F0 m pc ls (.int i :: .ref ad :: rest)) := by
  subst hi
  refine va_iald hx hb hK hP q0 t0 ha ht (vp_in_nI hk hn) hdg ?_
  rw [nI_clamp (Nat.lt_trans hk hn)]
  exact kk
theorem wa_lld (hx : p.tables.exec = Jvm.exec) (hb : c.code = cc) (hK : va_K D cl tys s) (hP : va_P D cl ws0 H) (q0 t0 : Nat) {ad : Nat} {cA : ClassId} {n : Nat} {f : Nat → Int64} (ha : ws0[q0]? = some (ad, .inl (cA, n, .inr (.inl f)))) (ht : tys[t0]? = some (cA, .long)) {i : Int32} (k : Nat) (hi : i = nI k) (hk : k < n) (hn : n < 2 ^ 31) (hdg : decode cc pc = .ok (.laload, 1))
    (kk : W p l e R s m args below meth c H locs cells slots Q (F0 m (pc + 1) ls (.long (f k) :: rest))) : W p l e R s m args below meth c H locs cells slots Q (F0 m pc ls (.int i :: .ref ad :: rest)) := by
  subst hi
  refine va_lald hx hb hK hP q0 t0 ha ht (vp_in_nI hk hn) hdg ?_
  rw [nI_clamp (Nat.lt_trans hk hn)]
  exact kk
theorem wa_ald (hx : p.tables.exec = Jvm.exec) (hb : c.code = cc) (hK : va_K D cl tys s) (hP : va_P D cl ws0 H) (q0 t0 : Nat) {ad b : Nat} {cA : ClassId} {C : String} {n : Nat} {f : Nat → Option Nat} (ha : ws0[q0]? = some (ad, .inl (cA, n, .inr (.inr (.inr (.inr f)))))) (ht : tys[t0]? = some (cA, .object C)) {i : Int32} (k : Nat) (hi : i = nI k) (hk : k < n) (hn : n < 2 ^ 31) (hf : f k = some b) (hdg : decode cc pc = .ok (.aaload, 1))
    (kk : W p l e R s m args below meth c H locs cells slots Q (F0 m (pc + 1) ls (.ref b :: rest))) : W p l e R s m args below meth c H locs cells slots Q (F0 m pc ls (.int i :: .ref ad :: rest)) := by
  subst hi
  refine va_aldq hx hb hK hP q0 t0 ha ht (vp_in_nI hk hn) hdg ?_
  rw [nI_clamp (Nat.lt_trans hk hn), hf]
  exact kk
theorem wa_ist (hx : p.tables.exec = Jvm.exec) (hb : c.code = cc) (hK : va_K D cl tys s) (hP : va_P D cl ws0 H) (hD : va_D A0 ws0) (hS : va_S A0 H0 H locs) (q0 t0 : Nat) {ad : Nat} {cA : ClassId} {n : Nat} {f : Nat → Int32} (ha : ws0[q0]? = some (ad, .inl (cA, n, .inl f))) (ht : tys[t0]? = some (cA, .int)) {i x : Int32} (k : Nat) (hi : i = nI k) (hk : k < n) (hn : n < 2 ^ 31) (hdg : decode cc pc = .ok (.iastore, 1))
    (kk : ∀ (H1 : Heap) (locs1 : List Loc), va_P D cl (ws0.set q0 (ad, .inl (cA, n, .inl (upd f k x)))) H1 → va_D A0 (ws0.set q0 (ad, .inl (cA, n, .inl (upd f k x)))) → va_S A0 H0 H1 locs1 → W p l e R s m args below meth c H1 locs1 cells slots Q (F0 m (pc + 1) ls rest)) : W p l e R s m args below meth c H locs cells slots Q (F0 m pc ls (.int x :: .int i :: .ref ad :: rest)) := by
  subst hi
  refine va_iast hx hb hK hP hD hS q0 t0 ha ht (vp_in_nI hk hn) hdg ?_
  rw [nI_clamp (Nat.lt_trans hk hn)]
  exact kk
theorem wa_lst (hx : p.tables.exec = Jvm.exec) (hb : c.code = cc) (hK : va_K D cl tys s) (hP : va_P D cl ws0 H) (hD : va_D A0 ws0) (hS : va_S A0 H0 H locs) (q0 t0 : Nat) {ad : Nat} {cA : ClassId} {n : Nat} {f : Nat → Int64} (ha : ws0[q0]? = some (ad, .inl (cA, n, .inr (.inl f)))) (ht : tys[t0]? = some (cA, .long)) {i : Int32} {x : Int64} (k : Nat) (hi : i = nI k) (hk : k < n) (hn : n < 2 ^ 31) (hdg : decode cc pc = .ok (.lastore, 1))
    (kk : ∀ (H1 : Heap) (locs1 : List Loc), va_P D cl (ws0.set q0 (ad, .inl (cA, n, .inr (.inl (vp_updL f k x))))) H1 → va_D A0 (ws0.set q0 (ad, .inl (cA, n, .inr (.inl (vp_updL f k x))))) → va_S A0 H0 H1 locs1 → W p l e R s m args below meth c H1 locs1 cells slots Q (F0 m (pc + 1) ls rest)) : W p l e R s m args below meth c H locs cells slots Q (F0 m pc ls (.long x :: .int i :: .ref ad :: rest)) := by
  subst hi
  refine va_last hx hb hK hP hD hS q0 t0 ha ht (vp_in_nI hk hn) hdg ?_
  rw [nI_clamp (Nat.lt_trans hk hn)]
  exact kk
theorem wa_ast (hx : p.tables.exec = Jvm.exec) (hb : c.code = cc) (hK : va_K D cl tys s) (hP : va_P D cl ws0 H) (hD : va_D A0 ws0) (hS : va_S A0 H0 H locs) (q0 t0 qk ci : Nat) {ad v : Nat} {cA : ClassId} {r : vw_C} {n : Nat} {vs : List Value} {f : Nat → Option Nat} (ha : ws0[q0]? = some (ad, .inl (cA, n, .inr (.inr (.inr (.inr f)))))) (ht : tys[t0]? = some (cA, .object r.1)) (hv : ws0[qk]? = some (v, .inr (ci, vs))) (hc : cl[ci]? = some r) {i : Int32} (k : Nat) (hi : i = nI k) (hk : k < n) (hn : n < 2 ^ 31) (hdg : decode cc pc = .ok (.aastore, 1))
    (kk : ∀ (H1 : Heap) (locs1 : List Loc), va_P D cl (ws0.set q0 (ad, .inl (cA, n, .inr (.inr (.inr (.inr (va_up f k (some v)))))))) H1 → va_D A0 (ws0.set q0 (ad, .inl (cA, n, .inr (.inr (.inr (.inr (va_up f k (some v)))))))) → va_S A0 H0 H1 locs1 → W p l e R s m args below meth c H1 locs1 cells slots Q (F0 m (pc + 1) ls rest)) : W p l e R s m args below meth c H locs cells slots Q (F0 m pc ls (.ref v :: .int i :: .ref ad :: rest)) := by
  subst hi
  refine va_astq hx hb hK hP hD hS q0 t0 qk ci ha ht hv hc (vp_in_nI hk hn) hdg ?_
  rw [nI_clamp (Nat.lt_trans hk hn)]
  exact kk
/-! what stays the same from a method's beginning to its end -/
def wk_X (p : Program) (s : State) (m : MethodId) (args : Array Value) (meth : Method) (c : Code) (cc : ByteArray) (own : String) (nL : Nat) (Ts : List Cond) (D : va_G) (cl : List vw_C) (tys : List (ClassId × FieldType)) (nz : List Cond) (A : Nat → Prop) : Prop :=
  (p.tables.exec = Jvm.exec ∧ c.code = cc ∧ c.maxLocals = nL ∧ s.vm.findClass own = some m.cls ∧ ∀ w ∈ Ts, w.before args s = true) ∧ va_K D cl tys s ∧ wk_Z nz s ∧ (∀ q, s.heap.size ≤ q → A q) ∧ meth.locks = false
theorem wk_start {l : Launch} {y : MethodName} {ws' : List Cond} {rm : Room} {av : List Value} {w : va_W} {sz : Nat} {cc : ByteArray} {maxL mc ms : Nat} {ret : Option FieldType} {D : va_G} {cl : List vw_C} {tys : List (ClassId × FieldType)} {nz : List Cond} (QF : (Nat → Prop) → Array Value → State → Outcome → State → Prop) (hy : plainName y.cls = true) (hlen : (lg_sl av).length ≤ maxL)
    (body : ∀ (p : Program) (e : Env) (s : State) (m : MethodId) (below : List Frame) (meth : Method) (c : Code) (A : Nat → Prop) (ls : Array Slot), wk_X p s m av.toArray meth c cc y.cls maxL ws' D cl tys nz A → meth.sig.returnType = ret → meth.name = y.name → lv_has ls maxL (lv_args 0 av) → va_P D cl w s.heap → va_D A w → va_S A s.heap s.heap [] → W p l e rm s m av.toArray below meth c s.heap [] 0 0 (MQ below (QF A) av.toArray s mc ms A) (F0 m 0 ls [])) :
    Met l y (Cond.code y cc maxL ret :: ws') rm (va_Pc av (wk_B D cl tys nz w sz)) (QF (va_A w sz)) mc ms (va_A w sz) := by
  refine Met.ofW (cc := cc) (maxL := maxL) (ret := ret) hy rfl ?_
  intro p e s m args below meth c s₁ B hml hv
  obtain ⟨rfl, hsz, hP, hK, hD0, hZ⟩ := hv
  have hts := atoms_spec (ws := Cond.code y cc maxL ret :: ws') B.pre
  have hown := findClass_of_methodNamed B.named
  have hname := (name_of_methodNamed B.named B.method).1
  subst hsz
  have hD := hD0.self (sz := s.heap.size)
  have hl := lv_entry av (n := maxL) hlen
  rw [lg_entry_eq]
  exact body p e s m below meth c (va_A w s.heap.size) _ ⟨⟨B.exec, B.bytes, hml, hown, fun w hw => hts w (List.mem_cons_of_mem _ hw)⟩, hK, hZ, fun q h => Or.inr h, B.notSynchronized⟩ B.returns hname hl hP hD va_S.rf
section WE
variable {p : Program} {l : Launch} {e : Env} {R : Room} {s : State} {m : MethodId} {args : Array Value} {below : List Frame} {meth : Method} {c : Code} {H : Heap} {locs : List Loc} {cells slots mc ms : Nat} {Q : State → Prop}
variable {D : va_G} {cl : List vw_C} {tys : List (ClassId × FieldType)} {nz Ts : List Cond} {A : Nat → Prop} {w1 wc w2 ws0 : va_W} {Pw : va_W → Prop} {cc : ByteArray} {pc nL : Nat} {own : String} {ls : Array Slot} {rest st0 : List Value}
theorem we_i {v r : Int32} (X : wk_X p s m args meth c cc own nL Ts D cl tys nz A) (hr : meth.sig.returnType = some .int) (hP : va_P D cl ws0 H) (hD : va_D A ws0) (hS : va_S A s.heap H locs) (hdg : decode cc pc = .ok (.ireturn, 1)) (hc0 : cells ≤ mc) (hs0 : slots ≤ ms) (hv : v = r) (hu : Pw ws0) :
    W p l e R s m args below meth c H locs cells slots (MQ below (va_Qi (fun (x : Int32) (y : va_W) => x = r ∧ Pw y) (wk_E D cl A) A) args s mc ms A) (F0 m pc ls [.int v]) := by
  subst hv
  have hlocks := X.2.2.2.2
  exact W.widen (k := mc) (n := ms) hc0 hs0 (W.iret X.1.1 X.1.2.1 hr (fun t ht hW => ⟨⟨v, ws0, rfl, ⟨rfl, hu⟩, by rw [ht]; exact hP, hD⟩, hS.F ht⟩) hS.2.2 hdg hlocks)
theorem we_z {v r : Int32} (X : wk_X p s m args meth c cc own nL Ts D cl tys nz A) (hr : meth.sig.returnType = some .boolean) (hP : va_P D cl ws0 H) (hD : va_D A ws0) (hS : va_S A s.heap H locs) (hdg : decode cc pc = .ok (.ireturn, 1)) (hc0 : cells ≤ mc) (hs0 : slots ≤ ms) (hb : v = 0 ∨ v = 1) (hv : v = r) (hu : Pw ws0) :
    W p l e R s m args below meth c H locs cells slots (MQ below (va_Qi (fun (x : Int32) (y : va_W) => x = r ∧ Pw y) (wk_E D cl A) A) args s mc ms A) (F0 m pc ls [.int v]) := by
  subst hv
  have hlocks := X.2.2.2.2
  exact W.widen (k := mc) (n := ms) hc0 hs0 (W.zret X.1.1 X.1.2.1 hr (by rcases hb with rfl | rfl <;> rfl) (fun t ht hW => ⟨⟨v, ws0, rfl, ⟨rfl, hu⟩, by rw [ht]; exact hP, hD⟩, hS.F ht⟩) hS.2.2 hdg hlocks)
theorem we_l {v r : Int64} (X : wk_X p s m args meth c cc own nL Ts D cl tys nz A) (hr : meth.sig.returnType = some .long) (hP : va_P D cl ws0 H) (hD : va_D A ws0) (hS : va_S A s.heap H locs) (hdg : decode cc pc = .ok (.lreturn, 1)) (hc0 : cells ≤ mc) (hs0 : slots ≤ ms) (hv : v = r) (hu : Pw ws0) :
    W p l e R s m args below meth c H locs cells slots (MQ below (va_Ql (fun (x : Int64) (y : va_W) => x = r ∧ Pw y) (wk_E D cl A) A) args s mc ms A) (F0 m pc ls [.long v]) := by
  subst hv
  have hlocks := X.2.2.2.2
  exact W.widen (k := mc) (n := ms) hc0 hs0 (W.lret X.1.1 X.1.2.1 hr (fun t ht hW => ⟨⟨v, ws0, rfl, ⟨rfl, hu⟩, by rw [ht]; exact hP, hD⟩, hS.F ht⟩) hS.2.2 hdg hlocks)
theorem we_v (X : wk_X p s m args meth c cc own nL Ts D cl tys nz A) (hr : meth.sig.returnType = none) (hP : va_P D cl ws0 H) (hD : va_D A ws0) (hS : va_S A s.heap H locs) (hdg : decode cc pc = .ok (.return_, 1)) (hc0 : cells ≤ mc) (hs0 : slots ≤ ms) (hu : Pw ws0) :
    W p l e R s m args below meth c H locs cells slots (MQ below (va_Qv (fun (y : va_W) => Pw y) (wk_E D cl A) A) args s mc ms A) (F0 m pc ls []) := by
  have hlocks := X.2.2.2.2
  exact W.widen (k := mc) (n := ms) hc0 hs0 (W.vret X.1.1 X.1.2.1 hr (fun t ht hW => ⟨⟨ws0, rfl, hu, by rw [ht]; exact hP, hD⟩, hS.F ht⟩) hS.2.2 hdg hlocks)
theorem wc_Vv {y : MethodName} {bytes : ByteArray} {maxL n index : Nat} {ret : Option FieldType} {rm : Room} (As : List Value) {b : Nat} {q : vw_C} {fs : List Value} (ci q0 : Nat) (X : wk_X p s m args meth c cc own nL Ts D cl tys nz A) (hn : ∀ w ∈ nz, wk_nest w) (hM : wk_kv l y (Cond.code y bytes maxL ret :: Ts) rm D cl tys nz (.ref b :: As) wc Pw) (cw : CallW R s args own q.1 index y bytes maxL ret (Cond.code y bytes maxL ret :: Ts) rm 0 0 n) (w1 w2 : va_W) (hw : ws0 = w1 ++ (wc ++ w2)) (hP : va_P D cl ws0 H) (hD : va_D A ws0) (hS : va_S A s.heap H locs) (hc : cl[ci]? = some q) (he : wc[q0]? = some (b, .inr (ci, fs))) (hst : st0 = As.reverse ++ .ref b :: rest) (hlen : As.length = n) (hsize : ls.size = nL) (hroom : (rest.map fun v => v.category).sum ≤ 8) (hf : cells ≤ R.cells ∧ slots ≤ R.slots) (hdg : decode cc pc = .ok (.invokevirtual index, 3))
    (kk : ∀ (H1 : Heap) (locs1 : List Loc) (wn : va_W), Pw wn → va_P D cl (w1 ++ (wn ++ w2)) H1 → va_D A (w1 ++ (wn ++ w2)) → va_S A s.heap H1 locs1 → W p l e R s m args below meth c H1 locs1 cells slots Q (F0 m (pc + 3) ls rest)) : W p l e R s m args below meth c H locs cells slots Q (F0 m pc ls st0) := by
  subst hst
  have hP0 := hw ▸ hP
  have hD0 := hw ▸ hD
  exact wk_callv (va_runV (g := F0 m pc ls _) (As := As) (rest := rest) X.1 (hM H.size) cw (wk_preV hn X.2.1 X.2.2.1 (wk_cutP hP0) (wk_cutD hD0) hc he) rfl hlen hsize rfl (lv_room hroom) hdg hf) hw hP hD hS X.2.2.2.1 kk
theorem wc_Nv {y : MethodName} {bytes : ByteArray} {maxL n index : Nat} {ret : Option FieldType} {rm : Room} {host : String} (As : List Value) {b : Nat} {q : vw_C} {fs : List Value} (ci q0 : Nat) (X : wk_X p s m args meth c cc own nL Ts D cl tys nz A) (hn : ∀ w ∈ nz, wk_nest w) (hM : wk_kv l y (Cond.code y bytes maxL ret :: Ts) rm D cl tys nz (.ref b :: As) wc Pw) (cw : va_CN R s args own index y host bytes maxL ret (Cond.code y bytes maxL ret :: Ts) rm 0 0 n ∧ (Cond.instanceMethod y).before args s = true ∧ (Cond.selects q.1 y y).before args s = true) (w1 w2 : va_W) (hw : ws0 = w1 ++ (wc ++ w2)) (hP : va_P D cl ws0 H) (hD : va_D A ws0) (hS : va_S A s.heap H locs) (hc : cl[ci]? = some q) (he : wc[q0]? = some (b, .inr (ci, fs))) (hst : st0 = As.reverse ++ .ref b :: rest) (hlen : As.length = n) (hsize : ls.size = nL) (hroom : (rest.map fun v => v.category).sum ≤ 8) (hf : cells ≤ R.cells ∧ slots ≤ R.slots) (hdg : decode cc pc = .ok (.invokevirtual index, 3))
    (kk : ∀ (H1 : Heap) (locs1 : List Loc) (wn : va_W), Pw wn → va_P D cl (w1 ++ (wn ++ w2)) H1 → va_D A (w1 ++ (wn ++ w2)) → va_S A s.heap H1 locs1 → W p l e R s m args below meth c H1 locs1 cells slots Q (F0 m (pc + 3) ls rest)) : W p l e R s m args below meth c H locs cells slots Q (F0 m pc ls st0) := by
  subst hst
  have hP0 := hw ▸ hP
  have hD0 := hw ▸ hD
  exact wk_callv (va_runVN (g := F0 m pc ls _) (As := As) (rest := rest) X.1 (hM H.size) cw (wk_preV hn X.2.1 X.2.2.1 (wk_cutP hP0) (wk_cutD hD0) hc he) rfl hlen hsize rfl (lv_room hroom) hdg hf) hw hP hD hS X.2.2.2.1 kk
theorem wc_Sv {y : MethodName} {bytes : ByteArray} {maxL n index : Nat} {ret : Option FieldType} {rm : Room} (As : List Value) (X : wk_X p s m args meth c cc own nL Ts D cl tys nz A) (hn : ∀ w ∈ nz, wk_nest w) (hM : wk_kv l y (Cond.code y bytes maxL ret :: Ts) rm D cl tys nz As wc Pw) (cw : CallB R s args own index y bytes maxL ret (Cond.code y bytes maxL ret :: Ts) rm 0 0 n ∧ (Cond.static y).before args s = true) (w1 w2 : va_W) (hw : ws0 = w1 ++ (wc ++ w2)) (hP : va_P D cl ws0 H) (hD : va_D A ws0) (hS : va_S A s.heap H locs) (hst : st0 = As.reverse ++ rest) (hlen : As.length = n) (hsize : ls.size = nL) (hroom : (rest.map fun v => v.category).sum ≤ 8) (hf : cells ≤ R.cells ∧ slots ≤ R.slots) (hdg : decode cc pc = .ok (.invokestatic index, 3))
    (kk : ∀ (H1 : Heap) (locs1 : List Loc) (wn : va_W), Pw wn → va_P D cl (w1 ++ (wn ++ w2)) H1 → va_D A (w1 ++ (wn ++ w2)) → va_S A s.heap H1 locs1 → W p l e R s m args below meth c H1 locs1 cells slots Q (F0 m (pc + 3) ls rest)) : W p l e R s m args below meth c H locs cells slots Q (F0 m pc ls st0) := by
  subst hst
  have hP0 := hw ▸ hP
  have hD0 := hw ▸ hD
  exact wk_callv (va_runS (g := F0 m pc ls _) (As := As) (rest := rest) X.1 (hM H.size) cw (wk_pre hn X.2.1 X.2.2.1 (wk_cutP hP0) (wk_cutD hD0)) rfl hlen hsize rfl (lv_room hroom) hdg hf) hw hP hD hS X.2.2.2.1 kk
theorem wc_Tv {y : MethodName} {bytes : ByteArray} {maxL n index : Nat} {ret : Option FieldType} {rm : Room} {host : String} (As : List Value) (X : wk_X p s m args meth c cc own nL Ts D cl tys nz A) (hn : ∀ w ∈ nz, wk_nest w) (hM : wk_kv l y (Cond.code y bytes maxL ret :: Ts) rm D cl tys nz As wc Pw) (cw : va_CN R s args own index y host bytes maxL ret (Cond.code y bytes maxL ret :: Ts) rm 0 0 n ∧ (Cond.static y).before args s = true ∧ True) (w1 w2 : va_W) (hw : ws0 = w1 ++ (wc ++ w2)) (hP : va_P D cl ws0 H) (hD : va_D A ws0) (hS : va_S A s.heap H locs) (hst : st0 = As.reverse ++ rest) (hlen : As.length = n) (hsize : ls.size = nL) (hroom : (rest.map fun v => v.category).sum ≤ 8) (hf : cells ≤ R.cells ∧ slots ≤ R.slots) (hdg : decode cc pc = .ok (.invokestatic index, 3))
    (kk : ∀ (H1 : Heap) (locs1 : List Loc) (wn : va_W), Pw wn → va_P D cl (w1 ++ (wn ++ w2)) H1 → va_D A (w1 ++ (wn ++ w2)) → va_S A s.heap H1 locs1 → W p l e R s m args below meth c H1 locs1 cells slots Q (F0 m (pc + 3) ls rest)) : W p l e R s m args below meth c H locs cells slots Q (F0 m pc ls st0) := by
  subst hst
  have hP0 := hw ▸ hP
  have hD0 := hw ▸ hD
  exact wk_callv (va_runSN (g := F0 m pc ls _) (As := As) (rest := rest) X.1 (hM H.size) cw (wk_pre hn X.2.1 X.2.2.1 (wk_cutP hP0) (wk_cutD hD0)) rfl hlen hsize rfl (lv_room hroom) hdg hf) hw hP hD hS X.2.2.2.1 kk
theorem wc_Vi {y : MethodName} {bytes : ByteArray} {maxL n index : Nat} {ret : Option FieldType} {rm : Room} {r : Int32} (As : List Value) {b : Nat} {q : vw_C} {fs : List Value} (ci q0 : Nat) (X : wk_X p s m args meth c cc own nL Ts D cl tys nz A) (hn : ∀ w ∈ nz, wk_nest w) (hM : wk_ki l y (Cond.code y bytes maxL ret :: Ts) rm D cl tys nz (.ref b :: As) wc Pw r) (cw : CallW R s args own q.1 index y bytes maxL ret (Cond.code y bytes maxL ret :: Ts) rm 0 0 n) (w1 w2 : va_W) (hw : ws0 = w1 ++ (wc ++ w2)) (hP : va_P D cl ws0 H) (hD : va_D A ws0) (hS : va_S A s.heap H locs) (hc : cl[ci]? = some q) (he : wc[q0]? = some (b, .inr (ci, fs))) (hst : st0 = As.reverse ++ .ref b :: rest) (hlen : As.length = n) (hsize : ls.size = nL) (hroom : (rest.map fun v => v.category).sum ≤ 8) (hf : cells ≤ R.cells ∧ slots ≤ R.slots) (hdg : decode cc pc = .ok (.invokevirtual index, 3))
    (kk : ∀ (H1 : Heap) (locs1 : List Loc) (wn : va_W), Pw wn → va_P D cl (w1 ++ (wn ++ w2)) H1 → va_D A (w1 ++ (wn ++ w2)) → va_S A s.heap H1 locs1 → W p l e R s m args below meth c H1 locs1 cells slots Q (F0 m (pc + 3) ls (.int r :: rest))) : W p l e R s m args below meth c H locs cells slots Q (F0 m pc ls st0) := by
  subst hst
  have hP0 := hw ▸ hP
  have hD0 := hw ▸ hD
  exact wk_calli (va_runV (g := F0 m pc ls _) (As := As) (rest := rest) X.1 (hM H.size) cw (wk_preV hn X.2.1 X.2.2.1 (wk_cutP hP0) (wk_cutD hD0) hc he) rfl hlen hsize rfl (lv_room hroom) hdg hf) hw hP hD hS X.2.2.2.1 kk
theorem wc_Ni {y : MethodName} {bytes : ByteArray} {maxL n index : Nat} {ret : Option FieldType} {rm : Room} {host : String} {r : Int32} (As : List Value) {b : Nat} {q : vw_C} {fs : List Value} (ci q0 : Nat) (X : wk_X p s m args meth c cc own nL Ts D cl tys nz A) (hn : ∀ w ∈ nz, wk_nest w) (hM : wk_ki l y (Cond.code y bytes maxL ret :: Ts) rm D cl tys nz (.ref b :: As) wc Pw r) (cw : va_CN R s args own index y host bytes maxL ret (Cond.code y bytes maxL ret :: Ts) rm 0 0 n ∧ (Cond.instanceMethod y).before args s = true ∧ (Cond.selects q.1 y y).before args s = true) (w1 w2 : va_W) (hw : ws0 = w1 ++ (wc ++ w2)) (hP : va_P D cl ws0 H) (hD : va_D A ws0) (hS : va_S A s.heap H locs) (hc : cl[ci]? = some q) (he : wc[q0]? = some (b, .inr (ci, fs))) (hst : st0 = As.reverse ++ .ref b :: rest) (hlen : As.length = n) (hsize : ls.size = nL) (hroom : (rest.map fun v => v.category).sum ≤ 8) (hf : cells ≤ R.cells ∧ slots ≤ R.slots) (hdg : decode cc pc = .ok (.invokevirtual index, 3))
    (kk : ∀ (H1 : Heap) (locs1 : List Loc) (wn : va_W), Pw wn → va_P D cl (w1 ++ (wn ++ w2)) H1 → va_D A (w1 ++ (wn ++ w2)) → va_S A s.heap H1 locs1 → W p l e R s m args below meth c H1 locs1 cells slots Q (F0 m (pc + 3) ls (.int r :: rest))) : W p l e R s m args below meth c H locs cells slots Q (F0 m pc ls st0) := by
  subst hst
  have hP0 := hw ▸ hP
  have hD0 := hw ▸ hD
  exact wk_calli (va_runVN (g := F0 m pc ls _) (As := As) (rest := rest) X.1 (hM H.size) cw (wk_preV hn X.2.1 X.2.2.1 (wk_cutP hP0) (wk_cutD hD0) hc he) rfl hlen hsize rfl (lv_room hroom) hdg hf) hw hP hD hS X.2.2.2.1 kk
theorem wc_Si {y : MethodName} {bytes : ByteArray} {maxL n index : Nat} {ret : Option FieldType} {rm : Room} {r : Int32} (As : List Value) (X : wk_X p s m args meth c cc own nL Ts D cl tys nz A) (hn : ∀ w ∈ nz, wk_nest w) (hM : wk_ki l y (Cond.code y bytes maxL ret :: Ts) rm D cl tys nz As wc Pw r) (cw : CallB R s args own index y bytes maxL ret (Cond.code y bytes maxL ret :: Ts) rm 0 0 n ∧ (Cond.static y).before args s = true) (w1 w2 : va_W) (hw : ws0 = w1 ++ (wc ++ w2)) (hP : va_P D cl ws0 H) (hD : va_D A ws0) (hS : va_S A s.heap H locs) (hst : st0 = As.reverse ++ rest) (hlen : As.length = n) (hsize : ls.size = nL) (hroom : (rest.map fun v => v.category).sum ≤ 8) (hf : cells ≤ R.cells ∧ slots ≤ R.slots) (hdg : decode cc pc = .ok (.invokestatic index, 3))
    (kk : ∀ (H1 : Heap) (locs1 : List Loc) (wn : va_W), Pw wn → va_P D cl (w1 ++ (wn ++ w2)) H1 → va_D A (w1 ++ (wn ++ w2)) → va_S A s.heap H1 locs1 → W p l e R s m args below meth c H1 locs1 cells slots Q (F0 m (pc + 3) ls (.int r :: rest))) : W p l e R s m args below meth c H locs cells slots Q (F0 m pc ls st0) := by
  subst hst
  have hP0 := hw ▸ hP
  have hD0 := hw ▸ hD
  exact wk_calli (va_runS (g := F0 m pc ls _) (As := As) (rest := rest) X.1 (hM H.size) cw (wk_pre hn X.2.1 X.2.2.1 (wk_cutP hP0) (wk_cutD hD0)) rfl hlen hsize rfl (lv_room hroom) hdg hf) hw hP hD hS X.2.2.2.1 kk
theorem wc_Ti {y : MethodName} {bytes : ByteArray} {maxL n index : Nat} {ret : Option FieldType} {rm : Room} {host : String} {r : Int32} (As : List Value) (X : wk_X p s m args meth c cc own nL Ts D cl tys nz A) (hn : ∀ w ∈ nz, wk_nest w) (hM : wk_ki l y (Cond.code y bytes maxL ret :: Ts) rm D cl tys nz As wc Pw r) (cw : va_CN R s args own index y host bytes maxL ret (Cond.code y bytes maxL ret :: Ts) rm 0 0 n ∧ (Cond.static y).before args s = true ∧ True) (w1 w2 : va_W) (hw : ws0 = w1 ++ (wc ++ w2)) (hP : va_P D cl ws0 H) (hD : va_D A ws0) (hS : va_S A s.heap H locs) (hst : st0 = As.reverse ++ rest) (hlen : As.length = n) (hsize : ls.size = nL) (hroom : (rest.map fun v => v.category).sum ≤ 8) (hf : cells ≤ R.cells ∧ slots ≤ R.slots) (hdg : decode cc pc = .ok (.invokestatic index, 3))
    (kk : ∀ (H1 : Heap) (locs1 : List Loc) (wn : va_W), Pw wn → va_P D cl (w1 ++ (wn ++ w2)) H1 → va_D A (w1 ++ (wn ++ w2)) → va_S A s.heap H1 locs1 → W p l e R s m args below meth c H1 locs1 cells slots Q (F0 m (pc + 3) ls (.int r :: rest))) : W p l e R s m args below meth c H locs cells slots Q (F0 m pc ls st0) := by
  subst hst
  have hP0 := hw ▸ hP
  have hD0 := hw ▸ hD
  exact wk_calli (va_runSN (g := F0 m pc ls _) (As := As) (rest := rest) X.1 (hM H.size) cw (wk_pre hn X.2.1 X.2.2.1 (wk_cutP hP0) (wk_cutD hD0)) rfl hlen hsize rfl (lv_room hroom) hdg hf) hw hP hD hS X.2.2.2.1 kk
theorem wc_Vl {y : MethodName} {bytes : ByteArray} {maxL n index : Nat} {ret : Option FieldType} {rm : Room} {r : Int64} (As : List Value) {b : Nat} {q : vw_C} {fs : List Value} (ci q0 : Nat) (X : wk_X p s m args meth c cc own nL Ts D cl tys nz A) (hn : ∀ w ∈ nz, wk_nest w) (hM : wk_kl l y (Cond.code y bytes maxL ret :: Ts) rm D cl tys nz (.ref b :: As) wc Pw r) (cw : CallW R s args own q.1 index y bytes maxL ret (Cond.code y bytes maxL ret :: Ts) rm 0 0 n) (w1 w2 : va_W) (hw : ws0 = w1 ++ (wc ++ w2)) (hP : va_P D cl ws0 H) (hD : va_D A ws0) (hS : va_S A s.heap H locs) (hc : cl[ci]? = some q) (he : wc[q0]? = some (b, .inr (ci, fs))) (hst : st0 = As.reverse ++ .ref b :: rest) (hlen : As.length = n) (hsize : ls.size = nL) (hroom : (rest.map fun v => v.category).sum ≤ 8) (hf : cells ≤ R.cells ∧ slots ≤ R.slots) (hdg : decode cc pc = .ok (.invokevirtual index, 3))
    (kk : ∀ (H1 : Heap) (locs1 : List Loc) (wn : va_W), Pw wn → va_P D cl (w1 ++ (wn ++ w2)) H1 → va_D A (w1 ++ (wn ++ w2)) → va_S A s.heap H1 locs1 → W p l e R s m args below meth c H1 locs1 cells slots Q (F0 m (pc + 3) ls (.long r :: rest))) : W p l e R s m args below meth c H locs cells slots Q (F0 m pc ls st0) := by
  subst hst
  have hP0 := hw ▸ hP
  have hD0 := hw ▸ hD
  exact wk_calll (va_runV (g := F0 m pc ls _) (As := As) (rest := rest) X.1 (hM H.size) cw (wk_preV hn X.2.1 X.2.2.1 (wk_cutP hP0) (wk_cutD hD0) hc he) rfl hlen hsize rfl (lv_room hroom) hdg hf) hw hP hD hS X.2.2.2.1 kk
theorem wc_Nl {y : MethodName} {bytes : ByteArray} {maxL n index : Nat} {ret : Option FieldType} {rm : Room} {host : String} {r : Int64} (As : List Value) {b : Nat} {q : vw_C} {fs : List Value} (ci q0 : Nat) (X : wk_X p s m args meth c cc own nL Ts D cl tys nz A) (hn : ∀ w ∈ nz, wk_nest w) (hM : wk_kl l y (Cond.code y bytes maxL ret :: Ts) rm D cl tys nz (.ref b :: As) wc Pw r) (cw : va_CN R s args own index y host bytes maxL ret (Cond.code y bytes maxL ret :: Ts) rm 0 0 n ∧ (Cond.instanceMethod y).before args s = true ∧ (Cond.selects q.1 y y).before args s = true) (w1 w2 : va_W) (hw : ws0 = w1 ++ (wc ++ w2)) (hP : va_P D cl ws0 H) (hD : va_D A ws0) (hS : va_S A s.heap H locs) (hc : cl[ci]? = some q) (he : wc[q0]? = some (b, .inr (ci, fs))) (hst : st0 = As.reverse ++ .ref b :: rest) (hlen : As.length = n) (hsize : ls.size = nL) (hroom : (rest.map fun v => v.category).sum ≤ 8) (hf : cells ≤ R.cells ∧ slots ≤ R.slots) (hdg : decode cc pc = .ok (.invokevirtual index, 3))
    (kk : ∀ (H1 : Heap) (locs1 : List Loc) (wn : va_W), Pw wn → va_P D cl (w1 ++ (wn ++ w2)) H1 → va_D A (w1 ++ (wn ++ w2)) → va_S A s.heap H1 locs1 → W p l e R s m args below meth c H1 locs1 cells slots Q (F0 m (pc + 3) ls (.long r :: rest))) : W p l e R s m args below meth c H locs cells slots Q (F0 m pc ls st0) := by
  subst hst
  have hP0 := hw ▸ hP
  have hD0 := hw ▸ hD
  exact wk_calll (va_runVN (g := F0 m pc ls _) (As := As) (rest := rest) X.1 (hM H.size) cw (wk_preV hn X.2.1 X.2.2.1 (wk_cutP hP0) (wk_cutD hD0) hc he) rfl hlen hsize rfl (lv_room hroom) hdg hf) hw hP hD hS X.2.2.2.1 kk
theorem wc_Sl {y : MethodName} {bytes : ByteArray} {maxL n index : Nat} {ret : Option FieldType} {rm : Room} {r : Int64} (As : List Value) (X : wk_X p s m args meth c cc own nL Ts D cl tys nz A) (hn : ∀ w ∈ nz, wk_nest w) (hM : wk_kl l y (Cond.code y bytes maxL ret :: Ts) rm D cl tys nz As wc Pw r) (cw : CallB R s args own index y bytes maxL ret (Cond.code y bytes maxL ret :: Ts) rm 0 0 n ∧ (Cond.static y).before args s = true) (w1 w2 : va_W) (hw : ws0 = w1 ++ (wc ++ w2)) (hP : va_P D cl ws0 H) (hD : va_D A ws0) (hS : va_S A s.heap H locs) (hst : st0 = As.reverse ++ rest) (hlen : As.length = n) (hsize : ls.size = nL) (hroom : (rest.map fun v => v.category).sum ≤ 8) (hf : cells ≤ R.cells ∧ slots ≤ R.slots) (hdg : decode cc pc = .ok (.invokestatic index, 3))
    (kk : ∀ (H1 : Heap) (locs1 : List Loc) (wn : va_W), Pw wn → va_P D cl (w1 ++ (wn ++ w2)) H1 → va_D A (w1 ++ (wn ++ w2)) → va_S A s.heap H1 locs1 → W p l e R s m args below meth c H1 locs1 cells slots Q (F0 m (pc + 3) ls (.long r :: rest))) : W p l e R s m args below meth c H locs cells slots Q (F0 m pc ls st0) := by
  subst hst
  have hP0 := hw ▸ hP
  have hD0 := hw ▸ hD
  exact wk_calll (va_runS (g := F0 m pc ls _) (As := As) (rest := rest) X.1 (hM H.size) cw (wk_pre hn X.2.1 X.2.2.1 (wk_cutP hP0) (wk_cutD hD0)) rfl hlen hsize rfl (lv_room hroom) hdg hf) hw hP hD hS X.2.2.2.1 kk
theorem wc_Tl {y : MethodName} {bytes : ByteArray} {maxL n index : Nat} {ret : Option FieldType} {rm : Room} {host : String} {r : Int64} (As : List Value) (X : wk_X p s m args meth c cc own nL Ts D cl tys nz A) (hn : ∀ w ∈ nz, wk_nest w) (hM : wk_kl l y (Cond.code y bytes maxL ret :: Ts) rm D cl tys nz As wc Pw r) (cw : va_CN R s args own index y host bytes maxL ret (Cond.code y bytes maxL ret :: Ts) rm 0 0 n ∧ (Cond.static y).before args s = true ∧ True) (w1 w2 : va_W) (hw : ws0 = w1 ++ (wc ++ w2)) (hP : va_P D cl ws0 H) (hD : va_D A ws0) (hS : va_S A s.heap H locs) (hst : st0 = As.reverse ++ rest) (hlen : As.length = n) (hsize : ls.size = nL) (hroom : (rest.map fun v => v.category).sum ≤ 8) (hf : cells ≤ R.cells ∧ slots ≤ R.slots) (hdg : decode cc pc = .ok (.invokestatic index, 3))
    (kk : ∀ (H1 : Heap) (locs1 : List Loc) (wn : va_W), Pw wn → va_P D cl (w1 ++ (wn ++ w2)) H1 → va_D A (w1 ++ (wn ++ w2)) → va_S A s.heap H1 locs1 → W p l e R s m args below meth c H1 locs1 cells slots Q (F0 m (pc + 3) ls (.long r :: rest))) : W p l e R s m args below meth c H locs cells slots Q (F0 m pc ls st0) := by
  subst hst
  have hP0 := hw ▸ hP
  have hD0 := hw ▸ hD
  exact wk_calll (va_runSN (g := F0 m pc ls _) (As := As) (rest := rest) X.1 (hM H.size) cw (wk_pre hn X.2.1 X.2.2.1 (wk_cutP hP0) (wk_cutD hD0)) rfl hlen hsize rfl (lv_room hroom) hdg hf) hw hP hD hS X.2.2.2.1 kk
end WE
/-! a contract's beginning, its ends as a hypothesis -/
section WS
variable {l : Launch} {y : MethodName} {ws' : List Cond} {rm : Room} {av : List Value} {w : va_W} {Pw : va_W → Prop} {cc : ByteArray} {maxL : Nat} {D : va_G} {cl : List vw_C} {tys : List (ClassId × FieldType)} {nz : List Cond}
theorem ws_v (hy : plainName y.cls = true) (hlen : (lg_sl av).length ≤ maxL)
    (body : ∀ (p : Program) (e : Env) (s : State) (m : MethodId) (below : List Frame) (meth : Method) (c : Code) (A : Nat → Prop) (ls : Array Slot) (Q : State → Prop), wk_X p s m av.toArray meth c cc y.cls maxL ws' D cl tys nz A →
      (∀ (pc : Nat) (H : Heap) (locs : List Loc) (ls : Array Slot) (ws0 : va_W), va_P D cl ws0 H → va_D A ws0 → va_S A s.heap H locs → decode cc pc = .ok (.return_, 1) → Pw ws0 → W p l e rm s m av.toArray below meth c H locs 0 0 Q (F0 m pc ls [])) →
      lv_has ls maxL (lv_args 0 av) → va_P D cl w s.heap → va_D A w → va_S A s.heap s.heap [] → W p l e rm s m av.toArray below meth c s.heap [] 0 0 Q (F0 m 0 ls [])) :
    wk_kv l y (Cond.code y cc maxL none :: ws') rm D cl tys nz av w Pw := by
  intro sz
  refine wk_start (fun A => va_Qv (fun u : va_W => Pw u) (wk_E D cl A) A) hy hlen ?_
  intro p e s m below meth c A ls X hr hname hl hP hD hS
  exact body p e s m below meth c A ls _ X (fun pc H locs ls ws0 hP hD hS hd hu => we_v X hr hP hD hS hd (Nat.le_refl _) (Nat.le_refl _) hu) hl hP hD hS
theorem ws_i {r : Int32} (hy : plainName y.cls = true) (hlen : (lg_sl av).length ≤ maxL)
    (body : ∀ (p : Program) (e : Env) (s : State) (m : MethodId) (below : List Frame) (meth : Method) (c : Code) (A : Nat → Prop) (ls : Array Slot) (Q : State → Prop), wk_X p s m av.toArray meth c cc y.cls maxL ws' D cl tys nz A →
      (∀ (pc : Nat) (H : Heap) (locs : List Loc) (ls : Array Slot) (ws0 : va_W) (v : Int32), va_P D cl ws0 H → va_D A ws0 → va_S A s.heap H locs → decode cc pc = .ok (.ireturn, 1) → v = r → Pw ws0 → W p l e rm s m av.toArray below meth c H locs 0 0 Q (F0 m pc ls [.int v])) →
      lv_has ls maxL (lv_args 0 av) → va_P D cl w s.heap → va_D A w → va_S A s.heap s.heap [] → W p l e rm s m av.toArray below meth c s.heap [] 0 0 Q (F0 m 0 ls [])) :
    wk_ki l y (Cond.code y cc maxL (some .int) :: ws') rm D cl tys nz av w Pw r := by
  intro sz
  refine wk_start (fun A => va_Qi (fun (x : Int32) (u : va_W) => x = r ∧ Pw u) (wk_E D cl A) A) hy hlen ?_
  intro p e s m below meth c A ls X hr hname hl hP hD hS
  exact body p e s m below meth c A ls _ X (fun pc H locs ls ws0 v hP hD hS hd hv hu => we_i X hr hP hD hS hd (Nat.le_refl _) (Nat.le_refl _) hv hu) hl hP hD hS
theorem ws_z {r : Int32} (hy : plainName y.cls = true) (hlen : (lg_sl av).length ≤ maxL)
    (body : ∀ (p : Program) (e : Env) (s : State) (m : MethodId) (below : List Frame) (meth : Method) (c : Code) (A : Nat → Prop) (ls : Array Slot) (Q : State → Prop), wk_X p s m av.toArray meth c cc y.cls maxL ws' D cl tys nz A →
      (∀ (pc : Nat) (H : Heap) (locs : List Loc) (ls : Array Slot) (ws0 : va_W) (v : Int32), va_P D cl ws0 H → va_D A ws0 → va_S A s.heap H locs → decode cc pc = .ok (.ireturn, 1) → (v = 0 ∨ v = 1) → v = r → Pw ws0 → W p l e rm s m av.toArray below meth c H locs 0 0 Q (F0 m pc ls [.int v])) →
      lv_has ls maxL (lv_args 0 av) → va_P D cl w s.heap → va_D A w → va_S A s.heap s.heap [] → W p l e rm s m av.toArray below meth c s.heap [] 0 0 Q (F0 m 0 ls [])) :
    wk_ki l y (Cond.code y cc maxL (some .boolean) :: ws') rm D cl tys nz av w Pw r := by
  intro sz
  refine wk_start (fun A => va_Qi (fun (x : Int32) (u : va_W) => x = r ∧ Pw u) (wk_E D cl A) A) hy hlen ?_
  intro p e s m below meth c A ls X hr hname hl hP hD hS
  exact body p e s m below meth c A ls _ X (fun pc H locs ls ws0 v hP hD hS hd hz hv hu => we_z X hr hP hD hS hd (Nat.le_refl _) (Nat.le_refl _) hz hv hu) hl hP hD hS
theorem ws_l {r : Int64} (hy : plainName y.cls = true) (hlen : (lg_sl av).length ≤ maxL)
    (body : ∀ (p : Program) (e : Env) (s : State) (m : MethodId) (below : List Frame) (meth : Method) (c : Code) (A : Nat → Prop) (ls : Array Slot) (Q : State → Prop), wk_X p s m av.toArray meth c cc y.cls maxL ws' D cl tys nz A →
      (∀ (pc : Nat) (H : Heap) (locs : List Loc) (ls : Array Slot) (ws0 : va_W) (v : Int64), va_P D cl ws0 H → va_D A ws0 → va_S A s.heap H locs → decode cc pc = .ok (.lreturn, 1) → v = r → Pw ws0 → W p l e rm s m av.toArray below meth c H locs 0 0 Q (F0 m pc ls [.long v])) →
      lv_has ls maxL (lv_args 0 av) → va_P D cl w s.heap → va_D A w → va_S A s.heap s.heap [] → W p l e rm s m av.toArray below meth c s.heap [] 0 0 Q (F0 m 0 ls [])) :
    wk_kl l y (Cond.code y cc maxL (some .long) :: ws') rm D cl tys nz av w Pw r := by
  intro sz
  refine wk_start (fun A => va_Ql (fun (x : Int64) (u : va_W) => x = r ∧ Pw u) (wk_E D cl A) A) hy hlen ?_
  intro p e s m below meth c A ls X hr hname hl hP hD hS
  exact body p e s m below meth c A ls _ X (fun pc H locs ls ws0 v hP hD hS hd hv hu => we_l X hr hP hD hS hd (Nat.le_refl _) (Nat.le_refl _) hv hu) hl hP hD hS
end WS
/-! numbers that are no less than 0 and small -/
theorem wn_0 {a : Nat} (h : a < 2 ^ 31) : nI a = 0 ↔ a = 0 := by rw [← nI_0, nI_eq h (by decide)]
section WN
variable {p : Program} {l : Launch} {e : Env} {R : Room} {s : State} {m : MethodId} {args : Array Value} {below : List Frame} {meth : Method} {c : Code} {H : Heap} {locs : List Loc} {cells slots : Nat} {Q : State → Prop}
variable {cc : ByteArray} {pc : Nat} {ls : Array Slot} {rest : List Value}
theorem wn_top {x : Int32} {k : Nat} (h : x = nI k) (kk : W p l e R s m args below meth c H locs cells slots Q (F0 m pc ls (.int (nI k) :: rest))) : W p l e R s m args below meth c H locs cells slots Q (F0 m pc ls (.int x :: rest)) := by
  rw [h]; exact kk
theorem wn_add {a b : Nat} (hx : p.tables.exec = Jvm.exec) (hb : c.code = cc) (hdg : decode cc pc = .ok (.iadd, 1)) (k : W p l e R s m args below meth c H locs cells slots Q (F0 m (pc + 1) ls (.int (nI (a + b)) :: rest))) : W p l e R s m args below meth c H locs cells slots Q (F0 m pc ls (.int (nI b) :: .int (nI a) :: rest)) :=
  lv_iadd hx hb hdg (by rw [nI_add]; exact k)
theorem wn_mul {a b : Nat} (hx : p.tables.exec = Jvm.exec) (hb : c.code = cc) (hdg : decode cc pc = .ok (.imul, 1)) (k : W p l e R s m args below meth c H locs cells slots Q (F0 m (pc + 1) ls (.int (nI (a * b)) :: rest))) : W p l e R s m args below meth c H locs cells slots Q (F0 m pc ls (.int (nI b) :: .int (nI a) :: rest)) :=
  lv_imul hx hb hdg (by rw [pk_mul]; exact k)
theorem wn_sub {a b : Nat} (hx : p.tables.exec = Jvm.exec) (hb : c.code = cc) (hdg : decode cc pc = .ok (.isub, 1)) (h : b ≤ a) (k : W p l e R s m args below meth c H locs cells slots Q (F0 m (pc + 1) ls (.int (nI (a - b)) :: rest))) : W p l e R s m args below meth c H locs cells slots Q (F0 m pc ls (.int (nI b) :: .int (nI a) :: rest)) :=
  lv_isub hx hb hdg (by rw [pk_sub h]; exact k)
theorem wn_eq {a b : Nat} (hx : p.tables.exec = Jvm.exec) (hb : c.code = cc) {off : Int} {tgt : Nat} (hdg : decode cc pc = .ok (.if_icmp .eq off, 3)) (ht : (pc : Int) + off = (tgt : Int)) (ba : a < 2 ^ 31) (bb : b < 2 ^ 31)
    (kt : a = b → W p l e R s m args below meth c H locs cells slots Q (F0 m tgt ls rest)) (kf : ¬ a = b → W p l e R s m args below meth c H locs cells slots Q (F0 m (pc + 3) ls rest)) : W p l e R s m args below meth c H locs cells slots Q (F0 m pc ls (.int (nI b) :: .int (nI a) :: rest)) :=
  lv_icmp_eq hx hb hdg ht (fun h => kt ((nI_eq ba bb).mp h)) (fun h => kf (fun z => h ((nI_eq ba bb).mpr z)))
theorem wn_ne {a b : Nat} (hx : p.tables.exec = Jvm.exec) (hb : c.code = cc) {off : Int} {tgt : Nat} (hdg : decode cc pc = .ok (.if_icmp .ne off, 3)) (ht : (pc : Int) + off = (tgt : Int)) (ba : a < 2 ^ 31) (bb : b < 2 ^ 31)
    (kt : ¬ a = b → W p l e R s m args below meth c H locs cells slots Q (F0 m tgt ls rest)) (kf : a = b → W p l e R s m args below meth c H locs cells slots Q (F0 m (pc + 3) ls rest)) : W p l e R s m args below meth c H locs cells slots Q (F0 m pc ls (.int (nI b) :: .int (nI a) :: rest)) :=
  lv_icmp_ne hx hb hdg ht (fun h => kt (fun z => h ((nI_eq ba bb).mpr z))) (fun h => kf ((nI_eq ba bb).mp h))
theorem wn_lt {a b : Nat} (hx : p.tables.exec = Jvm.exec) (hb : c.code = cc) {off : Int} {tgt : Nat} (hdg : decode cc pc = .ok (.if_icmp .lt off, 3)) (ht : (pc : Int) + off = (tgt : Int)) (ba : a < 2 ^ 31) (bb : b < 2 ^ 31)
    (kt : a < b → W p l e R s m args below meth c H locs cells slots Q (F0 m tgt ls rest)) (kf : ¬ a < b → W p l e R s m args below meth c H locs cells slots Q (F0 m (pc + 3) ls rest)) : W p l e R s m args below meth c H locs cells slots Q (F0 m pc ls (.int (nI b) :: .int (nI a) :: rest)) :=
  lv_icmp_lt hx hb hdg ht (fun h => kt ((nI_ltI ba bb).mp h)) (fun h => kf (fun z => h ((nI_ltI ba bb).mpr z)))
theorem wn_ge {a b : Nat} (hx : p.tables.exec = Jvm.exec) (hb : c.code = cc) {off : Int} {tgt : Nat} (hdg : decode cc pc = .ok (.if_icmp .ge off, 3)) (ht : (pc : Int) + off = (tgt : Int)) (ba : a < 2 ^ 31) (bb : b < 2 ^ 31)
    (kt : ¬ a < b → W p l e R s m args below meth c H locs cells slots Q (F0 m tgt ls rest)) (kf : a < b → W p l e R s m args below meth c H locs cells slots Q (F0 m (pc + 3) ls rest)) : W p l e R s m args below meth c H locs cells slots Q (F0 m pc ls (.int (nI b) :: .int (nI a) :: rest)) :=
  lv_icmp_ge hx hb hdg ht (fun h => kt (Nat.not_lt.mpr ((nI_leI bb ba).mp h))) (fun h => kf (Nat.lt_of_not_le (fun z => h ((nI_leI bb ba).mpr z))))
theorem wn_gt {a b : Nat} (hx : p.tables.exec = Jvm.exec) (hb : c.code = cc) {off : Int} {tgt : Nat} (hdg : decode cc pc = .ok (.if_icmp .gt off, 3)) (ht : (pc : Int) + off = (tgt : Int)) (ba : a < 2 ^ 31) (bb : b < 2 ^ 31)
    (kt : b < a → W p l e R s m args below meth c H locs cells slots Q (F0 m tgt ls rest)) (kf : ¬ b < a → W p l e R s m args below meth c H locs cells slots Q (F0 m (pc + 3) ls rest)) : W p l e R s m args below meth c H locs cells slots Q (F0 m pc ls (.int (nI b) :: .int (nI a) :: rest)) :=
  lv_icmp_gt hx hb hdg ht (fun h => kt ((nI_ltI bb ba).mp h)) (fun h => kf (fun z => h ((nI_ltI bb ba).mpr z)))
theorem wn_le {a b : Nat} (hx : p.tables.exec = Jvm.exec) (hb : c.code = cc) {off : Int} {tgt : Nat} (hdg : decode cc pc = .ok (.if_icmp .le off, 3)) (ht : (pc : Int) + off = (tgt : Int)) (ba : a < 2 ^ 31) (bb : b < 2 ^ 31)
    (kt : ¬ b < a → W p l e R s m args below meth c H locs cells slots Q (F0 m tgt ls rest)) (kf : b < a → W p l e R s m args below meth c H locs cells slots Q (F0 m (pc + 3) ls rest)) : W p l e R s m args below meth c H locs cells slots Q (F0 m pc ls (.int (nI b) :: .int (nI a) :: rest)) :=
  lv_icmp_le hx hb hdg ht (fun h => kt (Nat.not_lt.mpr ((nI_leI ba bb).mp h))) (fun h => kf (Nat.lt_of_not_le (fun z => h ((nI_leI ba bb).mpr z))))
theorem wn_if_eq {a : Nat} (hx : p.tables.exec = Jvm.exec) (hb : c.code = cc) {off : Int} {tgt : Nat} (hdg : decode cc pc = .ok (.ifCond .eq off, 3)) (ht : (pc : Int) + off = (tgt : Int)) (ba : a < 2 ^ 31)
    (kt : a = 0 → W p l e R s m args below meth c H locs cells slots Q (F0 m tgt ls rest)) (kf : ¬ a = 0 → W p l e R s m args below meth c H locs cells slots Q (F0 m (pc + 3) ls rest)) : W p l e R s m args below meth c H locs cells slots Q (F0 m pc ls (.int (nI a) :: rest)) :=
  lv_if_eq hx hb hdg ht (fun h => kt ((wn_0 ba).mp h)) (fun h => kf (fun z => h ((wn_0 ba).mpr z)))
theorem wn_if_ne {a : Nat} (hx : p.tables.exec = Jvm.exec) (hb : c.code = cc) {off : Int} {tgt : Nat} (hdg : decode cc pc = .ok (.ifCond .ne off, 3)) (ht : (pc : Int) + off = (tgt : Int)) (ba : a < 2 ^ 31)
    (kt : ¬ a = 0 → W p l e R s m args below meth c H locs cells slots Q (F0 m tgt ls rest)) (kf : a = 0 → W p l e R s m args below meth c H locs cells slots Q (F0 m (pc + 3) ls rest)) : W p l e R s m args below meth c H locs cells slots Q (F0 m pc ls (.int (nI a) :: rest)) :=
  lv_if_ne hx hb hdg ht (fun h => kt (fun z => h ((wn_0 ba).mpr z))) (fun h => kf ((wn_0 ba).mp h))
theorem wn_if_gt {a : Nat} (hx : p.tables.exec = Jvm.exec) (hb : c.code = cc) {off : Int} {tgt : Nat} (hdg : decode cc pc = .ok (.ifCond .gt off, 3)) (ht : (pc : Int) + off = (tgt : Int)) (ba : a < 2 ^ 31)
    (kt : ¬ a = 0 → W p l e R s m args below meth c H locs cells slots Q (F0 m tgt ls rest)) (kf : a = 0 → W p l e R s m args below meth c H locs cells slots Q (F0 m (pc + 3) ls rest)) : W p l e R s m args below meth c H locs cells slots Q (F0 m pc ls (.int (nI a) :: rest)) :=
  lv_if_gt hx hb hdg ht (fun h => kt (fun z => by subst z; exact absurd h (by decide))) (fun h => kf (Classical.byContradiction fun z => h (nI_lt (a := 0) (by omega) ba)))
theorem wn_if_le {a : Nat} (hx : p.tables.exec = Jvm.exec) (hb : c.code = cc) {off : Int} {tgt : Nat} (hdg : decode cc pc = .ok (.ifCond .le off, 3)) (ht : (pc : Int) + off = (tgt : Int)) (ba : a < 2 ^ 31)
    (kt : a = 0 → W p l e R s m args below meth c H locs cells slots Q (F0 m tgt ls rest)) (kf : ¬ a = 0 → W p l e R s m args below meth c H locs cells slots Q (F0 m (pc + 3) ls rest)) : W p l e R s m args below meth c H locs cells slots Q (F0 m pc ls (.int (nI a) :: rest)) :=
  lv_if_le hx hb hdg ht (fun h => kt (Classical.byContradiction fun z => nI_nle (by omega) ba h)) (fun h => kf (fun z => h (by subst z; decide)))
end WN
end
