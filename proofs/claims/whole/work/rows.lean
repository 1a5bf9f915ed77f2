section
/-! Duality in the plane over whole numbers: points (X, Y, D) with D > 0 -/
def mz_cr (a b c d : Int) : Int := a * d - b * c
def mz_n (a b : Int) : Int := (a.natAbs : Int) + (b.natAbs : Int)
abbrev mz_G : Type := List (Int × Int × Int)
def mz_ft (G : mz_G) (X Y D : Int) : Prop := ∀ p q r : Int, (p, q, r) ∈ G → p * X + q * Y ≤ r * D
def mz_Feas (G : mz_G) : Prop := ∃ X Y D : Int, 0 < D ∧ mz_ft G X Y D
def mz_RC (p q r a b t d : Int) : Prop := mz_cr p q a b = 0 ∧ 0 < p * a + q * b ∧ t = r * mz_n a b ∧ d = mz_n p q
def mz_PC (p1 q1 r1 p2 q2 r2 a b t d : Int) : Prop := ∃ g : Int, (g = 1 ∨ g = -1) ∧ 0 < g * mz_cr p1 q1 p2 q2 ∧ 0 ≤ g * mz_cr a b p2 q2 ∧ 0 ≤ g * mz_cr p1 q1 a b ∧ t = r1 * (g * mz_cr a b p2 q2) + r2 * (g * mz_cr p1 q1 a b) ∧ d = g * mz_cr p1 q1 p2 q2
def mz_DC (G : mz_G) (a b t d : Int) : Prop := (∃ p q r : Int, (p, q, r) ∈ G ∧ mz_RC p q r a b t d) ∨ ∃ p1 q1 r1 p2 q2 r2 : Int, (p1, q1, r1) ∈ G ∧ (p2, q2, r2) ∈ G ∧ mz_PC p1 q1 r1 p2 q2 r2 a b t d
theorem mz_sq (x : Int) : 0 ≤ x * x := by
  rcases Int.le_total 0 x with h | h
  · exact Int.mul_nonneg h h
  · exact Int.mul_nonneg_of_nonpos_of_nonpos h h
theorem mz_n2 {a b : Int} (h : ¬ (a = 0 ∧ b = 0)) : 0 < a * a + b * b := by
  have h1 := mz_sq a
  have h2 := mz_sq b
  by_cases ha : a = 0
  · have hb : b ≠ 0 := fun z => h ⟨ha, z⟩
    have : b * b ≠ 0 := fun z => hb (by rcases Int.mul_eq_zero.mp z with z | z <;> exact z)
    omega
  · have : a * a ≠ 0 := fun z => ha (by rcases Int.mul_eq_zero.mp z with z | z <;> exact z)
    omega
theorem mz_abs {N k a p : Int} (hN : 0 < N) (hk : 0 < k) (h : N * a = k * p) : N * (a.natAbs : Int) = k * (p.natAbs : Int) := by
  have e := congrArg Int.natAbs h
  rw [Int.natAbs_mul, Int.natAbs_mul] at e
  have e2 : ((N.natAbs * a.natAbs : Nat) : Int) = ((k.natAbs * p.natAbs : Nat) : Int) := by rw [e]
  rw [Int.natCast_mul, Int.natCast_mul, Int.natAbs_of_nonneg (Int.le_of_lt hN), Int.natAbs_of_nonneg (Int.le_of_lt hk)] at e2
  exact e2
theorem mz_i1 {p q a b : Int} (h : p * b = q * a) : (p * p + q * q) * a = (p * a + q * b) * p := by
  have x1 : (p * p + q * q) * a = p * a * p + q * (q * a) := by grind
  have x2 : (p * a + q * b) * p = p * a * p + q * (p * b) := by grind
  rw [x1, x2, h]
theorem mz_i1b {p q a b : Int} (h : p * b = q * a) : (p * p + q * q) * b = (p * a + q * b) * q := by
  have x1 : (p * p + q * q) * b = p * (p * b) + q * b * q := by grind
  have x2 : (p * a + q * b) * q = p * (q * a) + q * b * q := by grind
  rw [x1, x2, h]
theorem mz_i2 {N T S k a p : Int} (hN : 0 < N) (ea : N * a = k * p) (eS : N * S = k * T) : T * a = S * p := by
  have x1 : N * (T * a) = T * (N * a) := by grind
  have x2 : N * (S * p) = (N * S) * p := by grind
  have x3 : T * (k * p) = k * T * p := by grind
  exact Int.eq_of_mul_eq_mul_left (a := N) (by omega) (by rw [x1, x2, ea, eS, x3])
theorem mz_npos {p q : Int} (h : ¬ (p = 0 ∧ q = 0)) : 0 < mz_n p q := by unfold mz_n; omega
/-- parallel and the same way: (|p|+|q|) (a, b) = (|a|+|b|) (p, q) -/
theorem mz_par {p q a b : Int} (h : mz_cr p q a b = 0) (hd : 0 < p * a + q * b) : 0 < mz_n a b ∧ 0 < mz_n p q ∧ mz_n p q * a = mz_n a b * p ∧ mz_n p q * b = mz_n a b * q := by
  have h' : p * b = q * a := by unfold mz_cr at h; omega
  have z1 : ¬ (p = 0 ∧ q = 0) := fun z => by rw [z.1, z.2] at hd; omega
  have z2 : ¬ (a = 0 ∧ b = 0) := fun z => by rw [z.1, z.2] at hd; omega
  have hN := mz_n2 z1
  have ea := mz_i1 h'
  have eb := mz_i1b h'
  have e1 := mz_abs hN hd ea
  have e2 := mz_abs hN hd eb
  have eS : (p * p + q * q) * mz_n a b = (p * a + q * b) * mz_n p q := by unfold mz_n; rw [Int.mul_add, Int.mul_add, e1, e2]
  exact ⟨mz_npos z2, mz_npos z1, mz_i2 hN ea eS, mz_i2 hN eb eS⟩
theorem mz_weak {a b X Y D p1 q1 r1 p2 q2 r2 l1 l2 t d : Int} (h1 : p1 * X + q1 * Y ≤ r1 * D) (h2 : p2 * X + q2 * Y ≤ r2 * D) (hl1 : 0 ≤ l1) (hl2 : 0 ≤ l2) (ha : d * a = l1 * p1 + l2 * p2) (hb : d * b = l1 * q1 + l2 * q2) (ht : t = l1 * r1 + l2 * r2) : d * (a * X + b * Y) ≤ t * D := by
  have i1 := Int.mul_le_mul_of_nonneg_left h1 hl1
  have i2 := Int.mul_le_mul_of_nonneg_left h2 hl2
  have e1 : d * (a * X + b * Y) = (d * a) * X + (d * b) * Y := by grind
  have e3 : (l1 * p1 + l2 * p2) * X + (l1 * q1 + l2 * q2) * Y = l1 * (p1 * X + q1 * Y) + l2 * (p2 * X + q2 * Y) := by grind
  have e2 : (l1 * r1 + l2 * r2) * D = l1 * (r1 * D) + l2 * (r2 * D) := by grind
  rw [e1, ha, hb, e3, ht, e2]
  omega
theorem mz_cra (g p1 q1 p2 q2 a b : Int) : g * mz_cr p1 q1 p2 q2 * a = g * mz_cr a b p2 q2 * p1 + g * mz_cr p1 q1 a b * p2 := by unfold mz_cr; grind
theorem mz_crb (g p1 q1 p2 q2 a b : Int) : g * mz_cr p1 q1 p2 q2 * b = g * mz_cr a b p2 q2 * q1 + g * mz_cr p1 q1 a b * q2 := by unfold mz_cr; grind
theorem mz_wk {G : mz_G} {a b t d : Int} (h : mz_DC G a b t d) : 0 < d ∧ ∀ X Y D : Int, mz_ft G X Y D → d * (a * X + b * Y) ≤ t * D := by
  rcases h with ⟨p, q, r, m, hc, hd, rfl, rfl⟩ | ⟨p1, q1, r1, p2, q2, r2, m1, m2, g, hg, hd, h1, h2, rfl, rfl⟩
  · obtain ⟨hS, hT, ea, eb⟩ := mz_par hc hd
    refine ⟨hT, fun X Y D hf => ?_⟩
    exact mz_weak (hf p q r m) (hf p q r m) (Int.le_of_lt hS) (Int.le_refl 0) (by rw [ea, Int.zero_mul, Int.add_zero]) (by rw [eb, Int.zero_mul, Int.add_zero]) (by rw [Int.mul_comm r, Int.zero_mul, Int.add_zero])
  · refine ⟨hd, fun X Y D hf => ?_⟩
    exact mz_weak (hf _ _ _ m1) (hf _ _ _ m2) h1 h2 (mz_cra g p1 q1 p2 q2 a b) (mz_crb g p1 q1 p2 q2 a b) (by rw [Int.mul_comm r1, Int.mul_comm r2])
/-- of a finite list the one with the greatest fraction -/
theorem mz_f3 {nv nw nx dv dw dx : Int} (hx : 0 < dx) (hw : 0 < dw) (hv : 0 < dv) (h1 : nv * dw ≤ nw * dv) (h2 : nw * dx ≤ nx * dw) : nv * dx ≤ nx * dv := by
  have b1 := Int.mul_le_mul_of_nonneg_left h1 (Int.le_of_lt hx)
  have b2 := Int.mul_le_mul_of_nonneg_left h2 (Int.le_of_lt hv)
  refine Int.le_of_mul_le_mul_left (a := dw) ?_ hw
  have e1 : dw * (nv * dx) = dx * (nv * dw) := by grind
  have e2 : dw * (nx * dv) = dv * (nx * dw) := by grind
  have e3 : dx * (nw * dv) = dv * (nw * dx) := by grind
  omega
theorem mz_best {α : Type} (P : α → Prop) (num den : α → Int) : ∀ (G : List α), (∀ w ∈ G, P w → 0 < den w) → (∃ w ∈ G, P w) → ∃ w ∈ G, P w ∧ ∀ v ∈ G, P v → num v * den w ≤ num w * den v := by
  intro G
  induction G with
  | nil => intro _ h; obtain ⟨w, hw, _⟩ := h; cases hw
  | cons x G ih =>
    intro hden hex
    by_cases hG : ∃ w ∈ G, P w
    · obtain ⟨w, hw, hPw, hbest⟩ := ih (fun w hw => hden w (List.mem_cons_of_mem _ hw)) hG
      by_cases hx : P x
      · rcases Int.le_total (num x * den w) (num w * den x) with hle | hle
        · refine ⟨w, List.mem_cons_of_mem _ hw, hPw, fun v hv hPv => ?_⟩
          rcases List.mem_cons.mp hv with rfl | hv
          · exact hle
          · exact hbest v hv hPv
        · refine ⟨x, List.mem_cons_self, hx, fun v hv hPv => ?_⟩
          rcases List.mem_cons.mp hv with rfl | hv
          · exact Int.le_refl _
          · exact mz_f3 (hden x List.mem_cons_self hx) (hden w (List.mem_cons_of_mem _ hw) hPw) (hden v (List.mem_cons_of_mem _ hv) hPv) (hbest v hv hPv) hle
      · refine ⟨w, List.mem_cons_of_mem _ hw, hPw, fun v hv hPv => ?_⟩
        rcases List.mem_cons.mp hv with rfl | hv
        · exact absurd hPv hx
        · exact hbest v hv hPv
    · have hx : P x := by
        obtain ⟨w, hw, hPw⟩ := hex
        rcases List.mem_cons.mp hw with rfl | hw
        · exact hPw
        · exact absurd ⟨w, hw, hPw⟩ hG
      refine ⟨x, List.mem_cons_self, hx, fun v hv hPv => ?_⟩
      rcases List.mem_cons.mp hv with rfl | hv
      · exact Int.le_refl _
      · exact absurd ⟨v, hv, hPv⟩ hG
theorem mz_l1 {s D c1 c2 k1 k2 r r1 r2 : Int} (hP : s * D - c2 * k1 = -(c1 * k2)) (hv : r * D < r1 * k2 + r2 * k1) (hc1 : 0 < c1) (hm : (r1 * c2 + r2 * c1) * k1 ≤ (r1 * s + r * c1) * D) : False := by
  have n := Int.mul_neg_of_pos_of_neg hc1 (show r * D - (r1 * k2 + r2 * k1) < 0 by omega)
  have e1 : (r1 * s + r * c1) * D - (r1 * c2 + r2 * c1) * k1 = r1 * (s * D - c2 * k1) + c1 * (r * D - r2 * k1) := by clear hm n hv hP hc1; grind
  have e2 : r1 * -(c1 * k2) + c1 * (r * D - r2 * k1) = c1 * (r * D - (r1 * k2 + r2 * k1)) := by clear e1 hm n hv hP hc1; grind
  rw [hP, e2] at e1
  omega
theorem mz_l2 {s D c1 c2 k1 k2 r r1 r2 : Int} (hP : s * D - c2 * k1 = -(c1 * k2)) (hv : r * D < r1 * k2 + r2 * k1) (hc2 : 0 < c2) (hm : (r1 * c2 + r2 * c1) * k2 ≤ (r * c2 + r2 * (-s)) * D) : False := by
  have n := Int.mul_neg_of_pos_of_neg hc2 (show r * D - (r1 * k2 + r2 * k1) < 0 by omega)
  have e1 : (r * c2 + r2 * (-s)) * D - (r1 * c2 + r2 * c1) * k2 = c2 * (r * D - r1 * k2) - r2 * (s * D - c2 * k1) - r2 * (c2 * k1) - r2 * (c1 * k2) := by clear hm n hv hP hc2; grind
  have e2 : c2 * (r * D - r1 * k2) - r2 * -(c1 * k2) - r2 * (c2 * k1) - r2 * (c1 * k2) = c2 * (r * D - (r1 * k2 + r2 * k1)) := by clear e1 hm n hv hP hc2; grind
  rw [hP, e2] at e1
  omega
theorem mz_l3 {D c1 c2 k1 k2 r r1 r2 S T : Int} (e1 : T * c2 = S * k2) (e2 : T * c1 = S * k1) (hv : r * D < r1 * k2 + r2 * k1) (hS : 0 < S) (hm : (r1 * c2 + r2 * c1) * T ≤ (r * S) * D) : False := by
  have n := Int.mul_neg_of_pos_of_neg hS (show r * D - (r1 * k2 + r2 * k1) < 0 by omega)
  have e3 : (r * S) * D - (r1 * c2 + r2 * c1) * T = r * S * D - r1 * (T * c2) - r2 * (T * c1) := by clear hm n hv e1 e2 hS; grind
  have e4 : r * S * D - r1 * (S * k2) - r2 * (S * k1) = S * (r * D - (r1 * k2 + r2 * k1)) := by clear hm n hv e1 e2 e3 hS; grind
  rw [e1, e2, e4] at e3
  omega
theorem mz_l4 {D k1 k2 r r1 r2 D0 v v1 v2 : Int} (hv : r * D < r1 * k2 + r2 * k1) (hD0 : 0 < D0) (hD : 0 < D) (h1 : k1 ≤ 0) (h2 : k2 ≤ 0) (hw1 : v1 ≤ r1 * D0) (hw2 : v2 ≤ r2 * D0) (hw : v ≤ r * D0) (e : D * v = k2 * v1 + k1 * v2) : False := by
  have i1 := Int.mul_le_mul_of_nonpos_left h2 hw1
  have i2 := Int.mul_le_mul_of_nonpos_left h1 hw2
  have i3 := Int.mul_le_mul_of_nonneg_left hw (Int.le_of_lt hD)
  have n := Int.mul_pos hD0 (show 0 < r1 * k2 + r2 * k1 - r * D by omega)
  have e2 : D0 * (r1 * k2 + r2 * k1 - r * D) = k2 * (r1 * D0) + k1 * (r2 * D0) - D * (r * D0) := by clear i1 i2 i3 n e hv hD0 hD h1 h2 hw1 hw2 hw; grind
  omega
theorem mz_vV (g p q p1 q1 r1 p2 q2 r2 : Int) : p * (g * (r1 * q2 - r2 * q1)) + q * (g * (p1 * r2 - p2 * r1)) = r1 * (g * mz_cr p q p2 q2) + r2 * (g * mz_cr p1 q1 p q) := by unfold mz_cr; grind
theorem mz_vP (g a b p q p1 q1 p2 q2 : Int) : (g * mz_cr a b p q) * (g * mz_cr p1 q1 p2 q2) - (g * mz_cr a b p2 q2) * (g * mz_cr p1 q1 p q) = -((g * mz_cr p1 q1 a b) * (g * mz_cr p q p2 q2)) := by unfold mz_cr; grind
theorem mz_sw (g a b p q : Int) : g * mz_cr p q a b = -(g * mz_cr a b p q) := by unfold mz_cr; grind
theorem mz_v3 (g p q p1 q1 p2 q2 X Y : Int) : g * mz_cr p1 q1 p2 q2 * (p * X + q * Y) = g * mz_cr p q p2 q2 * (p1 * X + q1 * Y) + g * mz_cr p1 q1 p q * (p2 * X + q2 * Y) := by unfold mz_cr; grind
theorem mz_v4 (g T a b p2 q2 : Int) : T * (g * mz_cr a b p2 q2) = g * ((T * a) * q2 - (T * b) * p2) := by unfold mz_cr; grind
theorem mz_v5 (g T a b p1 q1 : Int) : T * (g * mz_cr p1 q1 a b) = g * (p1 * (T * b) - q1 * (T * a)) := by unfold mz_cr; grind
theorem mz_v6 (g S p q p2 q2 : Int) : g * ((S * p) * q2 - (S * q) * p2) = S * (g * mz_cr p q p2 q2) := by unfold mz_cr; grind
theorem mz_v7 (g S p q p1 q1 : Int) : g * (p1 * (S * q) - q1 * (S * p)) = S * (g * mz_cr p1 q1 p q) := by unfold mz_cr; grind
theorem mz_v8 {a b p q : Int} (g p1 q1 : Int) (h : p * b - q * a = 0) : (a * a + b * b) * (g * mz_cr p1 q1 p q) = (p * a + q * b) * (g * mz_cr p1 q1 a b) := by
  have e : (a * a + b * b) * (g * mz_cr p1 q1 p q) - (p * a + q * b) * (g * mz_cr p1 q1 a b) = -(g * (p1 * a + q1 * b)) * (p * b - q * a) := by clear h; unfold mz_cr; grind
  rw [h, Int.mul_zero] at e
  omega
theorem mz_v9 {a b p q : Int} (g p2 q2 : Int) (h : p * b - q * a = 0) : (a * a + b * b) * (g * mz_cr p q p2 q2) = (p * a + q * b) * (g * mz_cr a b p2 q2) := by
  have e : (a * a + b * b) * (g * mz_cr p q p2 q2) - (p * a + q * b) * (g * mz_cr a b p2 q2) = (g * (p2 * a + q2 * b)) * (p * b - q * a) := by clear h; unfold mz_cr; grind
  rw [h, Int.mul_zero] at e
  omega
theorem mz_neg1 {x y : Int} (hx : x ≤ 0) (hy : 0 < y) : x * y ≤ 0 := Int.mul_nonpos_of_nonpos_of_nonneg hx (Int.le_of_lt hy)
theorem mz_vertex {G : mz_G} {a b : Int} (hab : ¬ (a = 0 ∧ b = 0)) (hF : mz_Feas G) {p1 q1 r1 p2 q2 r2 g : Int} (m1 : (p1, q1, r1) ∈ G) (m2 : (p2, q2, r2) ∈ G) (hg : g = 1 ∨ g = -1)
    (hd : 0 < g * mz_cr p1 q1 p2 q2) (h1 : 0 < g * mz_cr a b p2 q2) (h2 : 0 < g * mz_cr p1 q1 a b)
    (hmin : ∀ t d, mz_DC G a b t d → (r1 * (g * mz_cr a b p2 q2) + r2 * (g * mz_cr p1 q1 a b)) * d ≤ t * (g * mz_cr p1 q1 p2 q2)) :
    mz_ft G (g * (r1 * q2 - r2 * q1)) (g * (p1 * r2 - p2 * r1)) (g * mz_cr p1 q1 p2 q2) := by
  intro p q r mw
  refine Int.not_lt.mp (fun hv => ?_)
  rw [mz_vV] at hv
  have eP := mz_vP g a b p q p1 q1 p2 q2
  have eS := mz_sw g a b p q
  have hbad : ¬ (g * mz_cr p1 q1 p q ≤ 0 ∧ g * mz_cr p q p2 q2 ≤ 0) := by
    rintro ⟨n1, n2⟩
    obtain ⟨X0, Y0, D0, hD0, hft⟩ := hF
    exact mz_l4 (v := p * X0 + q * Y0) (v1 := p1 * X0 + q1 * Y0) (v2 := p2 * X0 + q2 * Y0) hv hD0 hd n1 n2 (hft _ _ _ m1) (hft _ _ _ m2) (hft _ _ _ mw) (mz_v3 g p q p1 q1 p2 q2 X0 Y0)
  rcases Int.lt_trichotomy (g * mz_cr a b p q) 0 with hs | hs | hs
  · by_cases hk : 0 < g * mz_cr p q p2 q2
    · have hm := hmin _ _ (Or.inr ⟨_, _, _, _, _, _, mw, m2, g, hg, hk, Int.le_of_lt h1, by omega, rfl, rfl⟩)
      rw [eS] at hm
      exact mz_l2 eP hv h1 hm
    · refine hbad ⟨?_, by omega⟩
      refine Int.not_lt.mp (fun hk1 => ?_)
      have x1 := Int.mul_pos h1 hk1
      have x2 := Int.mul_neg_of_neg_of_pos hs hd
      have x3 := mz_neg1 (show g * mz_cr p q p2 q2 ≤ 0 by omega) h2
      rw [Int.mul_comm] at x3
      omega
  · by_cases hdot : 0 < p * a + q * b
    · have hcr : mz_cr p q a b = 0 := by
        rw [hs] at eS
        rcases hg with rfl | rfl <;> omega
      obtain ⟨hS, hT, ea, eb⟩ := mz_par hcr hdot
      have hm := hmin _ _ (Or.inl ⟨_, _, _, mw, hcr, hdot, rfl, rfl⟩)
      refine mz_l3 (S := mz_n a b) (T := mz_n p q) ?_ ?_ hv hS hm
      · rw [mz_v4, ea, eb, mz_v6]
      · rw [mz_v5, ea, eb, mz_v7]
    · have hN := mz_n2 hab
      have hcr : p * b - q * a = 0 := by
        rw [hs] at eS
        have : mz_cr p q a b = 0 := by rcases hg with rfl | rfl <;> omega
        exact this
      have x1 := mz_v8 g p1 q1 hcr
      have x2 := mz_v9 g p2 q2 hcr
      refine hbad ⟨Int.not_lt.mp (fun z => ?_), Int.not_lt.mp (fun z => ?_)⟩
      · have y1 := Int.mul_pos hN z
        have y2 := mz_neg1 (show p * a + q * b ≤ 0 by omega) h2
        omega
      · have y1 := Int.mul_pos hN z
        have y2 := mz_neg1 (show p * a + q * b ≤ 0 by omega) h1
        omega
  · by_cases hk : 0 < g * mz_cr p1 q1 p q
    · have hm := hmin _ _ (Or.inr ⟨_, _, _, _, _, _, m1, mw, g, hg, hk, Int.le_of_lt hs, Int.le_of_lt h2, rfl, rfl⟩)
      exact mz_l1 eP hv h2 hm
    · refine hbad ⟨by omega, ?_⟩
      refine Int.not_lt.mp (fun hk2 => ?_)
      have x1 := Int.mul_pos h2 hk2
      have x2 := Int.mul_pos hs hd
      have x3 := mz_neg1 (show g * mz_cr p1 q1 p q ≤ 0 by omega) h1
      rw [Int.mul_comm] at x3
      omega
end
section
theorem mz_e1 (S T p q r p1 q1 r1 : Int) : (T * S) * (p * (p1 * r1) + q * (q1 * r1) - r * (p1 * p1 + q1 * q1)) = S * (r1 * (T * (p * p1 + q * q1))) - (r * S * T) * (p1 * p1 + q1 * q1) := by grind
theorem mz_e2 (S T Tw r p1 q1 r1 : Int) : S * (r1 * (Tw * (p1 * p1 + q1 * q1))) - (r * S * T) * (p1 * p1 + q1 * q1) = (p1 * p1 + q1 * q1) * (r1 * S * Tw - r * S * T) := by grind
theorem mz_e3 {p q p1 q1 : Int} (X Y : Int) (h : p1 * q = q1 * p) : (p1 * p1 + q1 * q1) * (p * X + q * Y) = (p * p1 + q * q1) * (p1 * X + q1 * Y) := by
  have e : (p1 * p1 + q1 * q1) * (p * X + q * Y) - (p * p1 + q * q1) * (p1 * X + q1 * Y) = (p1 * q - q1 * p) * (p1 * Y - q1 * X) := by clear h; grind
  rw [show p1 * q - q1 * p = 0 by omega, Int.zero_mul] at e
  omega
theorem mz_e4 (D0 p q r p1 q1 r1 : Int) : D0 * (p * (p1 * r1) + q * (q1 * r1) - r * (p1 * p1 + q1 * q1)) = (p * p1 + q * q1) * (r1 * D0) - (p1 * p1 + q1 * q1) * (r * D0) := by grind
theorem mz_e5 {T S p q a b p1 q1 : Int} (ea : T * a = S * p1) (eb : T * b = S * q1) : T * mz_cr p q a b = S * mz_cr p q p1 q1 := by
  have x1 : T * mz_cr p q a b = p * (T * b) - q * (T * a) := by clear ea eb; unfold mz_cr; grind
  have x2 : S * mz_cr p q p1 q1 = p * (S * q1) - q * (S * p1) := by clear ea eb x1; unfold mz_cr; grind
  rw [x1, x2, ea, eb]
theorem mz_e6 {T S p q a b p1 q1 : Int} (ea : T * a = S * p1) (eb : T * b = S * q1) : T * (p * a + q * b) = S * (p * p1 + q * q1) := by
  have x1 : T * (p * a + q * b) = p * (T * a) + q * (T * b) := by clear ea eb; grind
  have x2 : S * (p * p1 + q * q1) = p * (S * p1) + q * (S * q1) := by clear ea eb x1; grind
  rw [x1, x2, ea, eb]
theorem mz_e7 {T S p q a b p1 q1 : Int} (ea : T * a = S * p1) (eb : T * b = S * q1) : T * mz_cr a b p q = S * mz_cr p1 q1 p q := by
  have x1 : T * mz_cr a b p q = (T * a) * q - (T * b) * p := by clear ea eb; unfold mz_cr; grind
  have x2 : S * mz_cr p1 q1 p q = (S * p1) * q - (S * q1) * p := by clear ea eb x1; unfold mz_cr; grind
  rw [x1, x2, ea, eb]
theorem mz_e8 (e p q r p1 q1 r1 p2 q2 r2 : Int) : (p1 * p1 + q1 * q1) * (p * (-e * (r1 * q2 - r2 * q1)) + q * (-e * (p1 * r2 - p2 * r1)) - r * (-e * mz_cr p1 q1 p2 q2)) = (-(e * mz_cr p1 q1 p2 q2)) * (p * (p1 * r1) + q * (q1 * r1) - r * (p1 * p1 + q1 * q1)) - (-(e * mz_cr p1 q1 p q)) * (p2 * (p1 * r1) + q2 * (q1 * r1) - r2 * (p1 * p1 + q1 * q1)) := by unfold mz_cr; grind
theorem mz_e9 (e p q r p1 q1 r1 p2 q2 r2 : Int) : (p1 * p1 + q1 * q1) * (r1 * (e * mz_cr p2 q2 p q)) - (p1 * p1 + q1 * q1) * (r2 * (e * mz_cr p1 q1 p q) - r * (e * mz_cr p1 q1 p2 q2)) = (-(e * mz_cr p1 q1 p2 q2)) * (p * (p1 * r1) + q * (q1 * r1) - r * (p1 * p1 + q1 * q1)) - (-(e * mz_cr p1 q1 p q)) * (p2 * (p1 * r1) + q2 * (q1 * r1) - r2 * (p1 * p1 + q1 * q1)) := by unfold mz_cr; grind
theorem mz_e10 (e p q p1 q1 p2 q2 X Y : Int) : e * mz_cr p2 q2 p q * (p1 * X + q1 * Y) = e * mz_cr p1 q1 p q * (p2 * X + q2 * Y) + -(e * mz_cr p1 q1 p2 q2) * (p * X + q * Y) := by unfold mz_cr; grind
theorem mz_e11 (e p q p1 q1 r r1 p2 q2 r2 D0 : Int) : e * mz_cr p1 q1 p q * (r2 * D0) + -(e * mz_cr p1 q1 p2 q2) * (r * D0) = D0 * (r2 * (e * mz_cr p1 q1 p q) - r * (e * mz_cr p1 q1 p2 q2)) := by grind
/-- a row that breaks the foot of the row of the least bound isn't parallel to it -/
theorem mz_edgeZ {G : mz_G} {a b : Int} (hF : mz_Feas G) {p1 q1 r1 : Int} (m1 : (p1, q1, r1) ∈ G) (hc : mz_cr p1 q1 a b = 0) (hdot : 0 < p1 * a + q1 * b)
    (hmin : ∀ t d, mz_DC G a b t d → (r1 * mz_n a b) * d ≤ t * mz_n p1 q1) {p q r : Int} (mw : (p, q, r) ∈ G) (he : 0 < p * (p1 * r1) + q * (q1 * r1) - r * (p1 * p1 + q1 * q1)) : mz_cr p1 q1 p q ≠ 0 := by
  obtain ⟨hS, hT, ea, eb⟩ := mz_par hc hdot
  have hN : 0 < p1 * p1 + q1 * q1 := mz_n2 (fun z => by rw [z.1, z.2] at hdot; omega)
  obtain ⟨X0, Y0, D0, hD0, hft⟩ := hF
  intro hz
  have hz' : p1 * q = q1 * p := by unfold mz_cr at hz; omega
  by_cases hd1 : 0 < p * p1 + q * q1
  · have hcr1 : mz_cr p q p1 q1 = 0 := by
      have := Int.mul_comm p q1
      have := Int.mul_comm q p1
      unfold mz_cr
      omega
    obtain ⟨-, hTw, fa, fb⟩ := mz_par hcr1 hd1
    have hcr : mz_cr p q a b = 0 := by
      have t1 := mz_e5 (p := p) (q := q) ea eb
      rw [hcr1, Int.mul_zero] at t1
      rcases Int.mul_eq_zero.mp t1 with z | z
      · omega
      · exact z
    have hd2 : 0 < p * a + q * b := by
      have := Int.mul_pos hS hd1
      rw [← mz_e6 ea eb] at this
      exact Int.pos_of_mul_pos_right this hT
    have hm := hmin _ _ (Or.inl ⟨_, _, _, mw, hcr, hd2, rfl, rfl⟩)
    have e1 : mz_n p q * (p1 * p1 + q1 * q1) = mz_n p1 q1 * (p * p1 + q * q1) := by
      have y1 : mz_n p q * (p1 * p1 + q1 * q1) = (mz_n p q * p1) * p1 + (mz_n p q * q1) * q1 := by grind
      have y2 : mz_n p1 q1 * (p * p1 + q * q1) = (mz_n p1 q1 * p) * p1 + (mz_n p1 q1 * q) * q1 := by grind
      rw [y1, y2, fa, fb]
    have x1 := Int.mul_pos (Int.mul_pos hT hS) he
    rw [mz_e1, ← e1, mz_e2] at x1
    have x4 := Int.pos_of_mul_pos_right x1 hN
    omega
  · have e1 := mz_e3 X0 Y0 hz'
    have i1 := Int.mul_le_mul_of_nonpos_left (show p * p1 + q * q1 ≤ 0 by omega) (hft _ _ _ m1)
    have i2 := Int.mul_le_mul_of_nonneg_left (hft _ _ _ mw) (Int.le_of_lt hN)
    have i3 := Int.mul_pos hD0 he
    rw [mz_e4] at i3
    omega
/-- a row that gives the least bound: its foot is a point of the guard, or its corner with another row is -/
theorem mz_edge {G : mz_G} {a b : Int} (hF : mz_Feas G) {p1 q1 r1 : Int} (m1 : (p1, q1, r1) ∈ G) (hc : mz_cr p1 q1 a b = 0) (hdot : 0 < p1 * a + q1 * b)
    (hmin : ∀ t d, mz_DC G a b t d → (r1 * mz_n a b) * d ≤ t * mz_n p1 q1) :
    mz_ft G (p1 * r1) (q1 * r1) (p1 * p1 + q1 * q1) ∨ ∃ p2 q2 r2 : Int, (p2, q2, r2) ∈ G ∧ ∃ g : Int, (g = 1 ∨ g = -1) ∧ 0 < g * mz_cr p1 q1 p2 q2 ∧ mz_ft G (g * (r1 * q2 - r2 * q1)) (g * (p1 * r2 - p2 * r1)) (g * mz_cr p1 q1 p2 q2) := by
  obtain ⟨hS, hT, ea, eb⟩ := mz_par hc hdot
  have hN : 0 < p1 * p1 + q1 * q1 := mz_n2 (fun z => by rw [z.1, z.2] at hdot; omega)
  have hZ : ∀ p q r : Int, (p, q, r) ∈ G → 0 < p * (p1 * r1) + q * (q1 * r1) - r * (p1 * p1 + q1 * q1) → mz_cr p1 q1 p q ≠ 0 := fun p q r mw he => mz_edgeZ hF m1 hc hdot hmin mw he
  obtain ⟨X0, Y0, D0, hD0, hft⟩ := hF
  by_cases hfoot : mz_ft G (p1 * r1) (q1 * r1) (p1 * p1 + q1 * q1)
  · exact Or.inl hfoot
  refine Or.inr ?_
  obtain ⟨p0, q0, r0, m0, h0⟩ : ∃ p q r : Int, (p, q, r) ∈ G ∧ ¬ p * (p1 * r1) + q * (q1 * r1) ≤ r * (p1 * p1 + q1 * q1) := by
    by_cases hx : ∃ p q r : Int, (p, q, r) ∈ G ∧ ¬ p * (p1 * r1) + q * (q1 * r1) ≤ r * (p1 * p1 + q1 * q1)
    · exact hx
    · exact absurd (fun p q r hw => Classical.byContradiction (fun z => hx ⟨p, q, r, hw, z⟩)) hfoot
  have hc0 := hZ p0 q0 r0 m0 (by omega)
  obtain ⟨ε, hε, hε0⟩ : ∃ ε : Int, (ε = 1 ∨ ε = -1) ∧ ε * mz_cr p1 q1 p0 q0 < 0 := by
    rcases Int.lt_or_gt_of_ne hc0 with z | z
    · exact ⟨1, Or.inl rfl, by omega⟩
    · exact ⟨-1, Or.inr rfl, by omega⟩
  obtain ⟨⟨p2, q2, r2⟩, m2, ⟨he2, hk2⟩, hbest⟩ := mz_best (fun w : Int × Int × Int => 0 < w.1 * (p1 * r1) + w.2.1 * (q1 * r1) - w.2.2 * (p1 * p1 + q1 * q1) ∧ ε * mz_cr p1 q1 w.1 w.2.1 < 0) (fun w => w.1 * (p1 * r1) + w.2.1 * (q1 * r1) - w.2.2 * (p1 * p1 + q1 * q1)) (fun w => -(ε * mz_cr p1 q1 w.1 w.2.1)) G (fun w _ h => by have := h.2; omega) ⟨(p0, q0, r0), m0, by dsimp only; omega, hε0⟩
  dsimp only at he2 hk2 hbest
  refine ⟨p2, q2, r2, m2, -ε, by omega, by rw [Int.neg_mul]; omega, ?_⟩
  intro p q r mw
  refine Int.not_lt.mp (fun hv => ?_)
  have hpos := Int.mul_pos hN (show 0 < p * (-ε * (r1 * q2 - r2 * q1)) + q * (-ε * (p1 * r2 - p2 * r1)) - r * (-ε * mz_cr p1 q1 p2 q2) by omega)
  rw [mz_e8] at hpos
  have hb := hbest (p, q, r) mw
  dsimp only at hb
  have hz := hZ p q r mw
  have hk2' : 0 < -(ε * mz_cr p1 q1 p2 q2) := by omega
  rcases Int.lt_trichotomy (ε * mz_cr p1 q1 p q) 0 with hs | hs | hs
  · have x1 := Int.mul_pos (show 0 < -(ε * mz_cr p1 q1 p q) by omega) he2
    have he : 0 < p * (p1 * r1) + q * (q1 * r1) - r * (p1 * p1 + q1 * q1) := by
      refine Int.pos_of_mul_pos_right (a := -(ε * mz_cr p1 q1 p2 q2)) (by omega) hk2'
    have hb := hb ⟨he, hs⟩
    have c1 := Int.mul_comm (p * (p1 * r1) + q * (q1 * r1) - r * (p1 * p1 + q1 * q1)) (-(ε * mz_cr p1 q1 p2 q2))
    have c2 := Int.mul_comm (p2 * (p1 * r1) + q2 * (q1 * r1) - r2 * (p1 * p1 + q1 * q1)) (-(ε * mz_cr p1 q1 p q))
    omega
  · rw [hs, Int.neg_zero, Int.zero_mul, Int.sub_zero] at hpos
    have he := Int.pos_of_mul_pos_right hpos hk2'
    have : mz_cr p1 q1 p q = 0 := by rcases hε with rfl | rfl <;> omega
    exact hz he this
  · have hm2 : r1 * (ε * mz_cr p2 q2 p q) ≤ r2 * (ε * mz_cr p1 q1 p q) - r * (ε * mz_cr p1 q1 p2 q2) := by
      by_cases hk : 0 < ε * mz_cr p2 q2 p q
      · have g1 := mz_e7 (p := p) (q := q) ea eb
        have g2 := mz_e7 (p := p2) (q := q2) ea eb
        have g1' : mz_n p1 q1 * (ε * mz_cr a b p q) = mz_n a b * (ε * mz_cr p1 q1 p q) := by
          rw [Int.mul_left_comm, g1, Int.mul_left_comm]
        have g2' : mz_n p1 q1 * (ε * mz_cr p2 q2 a b) = mz_n a b * (-(ε * mz_cr p1 q1 p2 q2)) := by
          rw [mz_sw, Int.mul_neg, Int.mul_left_comm, g2, Int.mul_left_comm, Int.mul_neg]
        have l1 : 0 < ε * mz_cr a b p q := by
          refine Int.pos_of_mul_pos_right (a := mz_n p1 q1) ?_ hT
          rw [g1']; exact Int.mul_pos hS hs
        have l2 : 0 < ε * mz_cr p2 q2 a b := by
          refine Int.pos_of_mul_pos_right (a := mz_n p1 q1) ?_ hT
          rw [g2']; exact Int.mul_pos hS hk2'
        have hm := hmin _ _ (Or.inr ⟨_, _, _, _, _, _, m2, mw, ε, hε, hk, Int.le_of_lt l1, Int.le_of_lt l2, rfl, rfl⟩)
        have x1 : (r2 * (ε * mz_cr a b p q) + r * (ε * mz_cr p2 q2 a b)) * mz_n p1 q1 = r2 * (mz_n p1 q1 * (ε * mz_cr a b p q)) + r * (mz_n p1 q1 * (ε * mz_cr p2 q2 a b)) := by
          generalize ε * mz_cr a b p q = A
          generalize ε * mz_cr p2 q2 a b = B
          generalize mz_n p1 q1 = C
          grind
        rw [x1, g1', g2'] at hm
        have x2 : r1 * mz_n a b * (ε * mz_cr p2 q2 p q) = mz_n a b * (r1 * (ε * mz_cr p2 q2 p q)) := by
          rw [Int.mul_comm r1, Int.mul_assoc]
        have x3 : r2 * (mz_n a b * (ε * mz_cr p1 q1 p q)) + r * (mz_n a b * -(ε * mz_cr p1 q1 p2 q2)) = mz_n a b * (r2 * (ε * mz_cr p1 q1 p q) - r * (ε * mz_cr p1 q1 p2 q2)) := by
          generalize ε * mz_cr p1 q1 p q = A
          generalize ε * mz_cr p1 q1 p2 q2 = B
          generalize mz_n a b = C
          grind
        rw [x2, x3] at hm
        exact Int.le_of_mul_le_mul_left hm hS
      · have i1 := Int.mul_le_mul_of_nonneg_left (hft _ _ _ m2) (Int.le_of_lt hs)
        have i2 := Int.mul_le_mul_of_nonneg_left (hft _ _ _ mw) (Int.le_of_lt hk2')
        have i3 := Int.mul_le_mul_of_nonpos_left (show ε * mz_cr p2 q2 p q ≤ 0 by omega) (hft _ _ _ m1)
        rw [mz_e10] at i3
        have e2 := mz_e11 ε p q p1 q1 r r1 p2 q2 r2 D0
        have e3 : ε * mz_cr p2 q2 p q * (r1 * D0) = D0 * (r1 * (ε * mz_cr p2 q2 p q)) := by
          rw [Int.mul_comm, Int.mul_comm r1, Int.mul_assoc]
        refine Int.le_of_mul_le_mul_left (a := D0) ?_ hD0
        omega
    have hm3 := Int.mul_le_mul_of_nonneg_left hm2 (Int.le_of_lt hN)
    have e4 := mz_e9 ε p q r p1 q1 r1 p2 q2 r2
    omega
/-- the points that the reference tries -/
def mz_MP (G : mz_G) (X Y D : Int) : Prop := (X = 0 ∧ Y = 0 ∧ D = 1) ∨ (∃ p q r : Int, (p, q, r) ∈ G ∧ 0 < p * p + q * q ∧ X = p * r ∧ Y = q * r ∧ D = p * p + q * q) ∨ ∃ p1 q1 r1 p2 q2 r2 g : Int, (p1, q1, r1) ∈ G ∧ (p2, q2, r2) ∈ G ∧ (g = 1 ∨ g = -1) ∧ 0 < g * mz_cr p1 q1 p2 q2 ∧ X = g * (r1 * q2 - r2 * q1) ∧ Y = g * (p1 * r2 - p2 * r1) ∧ D = g * mz_cr p1 q1 p2 q2
theorem mz_MPpos {G : mz_G} {X Y D : Int} (h : mz_MP G X Y D) : 0 < D := by
  rcases h with ⟨-, -, rfl⟩ | ⟨p, q, r, -, h, -, -, rfl⟩ | ⟨p1, q1, r1, p2, q2, r2, g, -, -, -, h, -, -, rfl⟩
  · omega
  · exact h
  · exact h
theorem mz_s1 (g p1 q1 r1 p2 q2 r2 : Int) : p1 * (g * (r1 * q2 - r2 * q1)) + q1 * (g * (p1 * r2 - p2 * r1)) = r1 * (g * mz_cr p1 q1 p2 q2) := by unfold mz_cr; grind
theorem mz_s2 (g p1 q1 r1 p2 q2 r2 : Int) : p2 * (g * (r1 * q2 - r2 * q1)) + q2 * (g * (p1 * r2 - p2 * r1)) = r2 * (g * mz_cr p1 q1 p2 q2) := by unfold mz_cr; grind
theorem mz_s3 {T S a b p q r X Y D : Int} (ea : T * a = S * p) (eb : T * b = S * q) (h : p * X + q * Y = r * D) : T * (a * X + b * Y) = r * S * D := by
  have x1 : T * (a * X + b * Y) = (T * a) * X + (T * b) * Y := by clear ea eb h; grind
  have x2 : (S * p) * X + (S * q) * Y = S * (p * X + q * Y) := by clear ea eb h x1; grind
  rw [x1, ea, eb, x2, h]
  clear ea eb h x1 x2
  grind
/-- the least bound, if it comes of one row -/
theorem mz_strong1 {G : mz_G} {a b : Int} (hF : mz_Feas G) {p q r : Int} (m : (p, q, r) ∈ G) (hc : mz_cr p q a b = 0) (hdot : 0 < p * a + q * b)
    (hmin : ∀ t d, mz_DC G a b t d → (r * mz_n a b) * d ≤ t * mz_n p q) : ∃ X Y D : Int, mz_MP G X Y D ∧ mz_ft G X Y D ∧ mz_n p q * (a * X + b * Y) = r * mz_n a b * D := by
  obtain ⟨hS, hT, ea, eb⟩ := mz_par hc hdot
  rcases mz_edge hF m hc hdot hmin with h | ⟨p2, q2, r2, m2, g, hg, hd, h⟩
  · have hN : 0 < p * p + q * q := mz_n2 (fun z => by rw [z.1, z.2] at hdot; omega)
    exact ⟨_, _, _, Or.inr (Or.inl ⟨p, q, r, m, hN, rfl, rfl, rfl⟩), h, mz_s3 ea eb (by grind)⟩
  · exact ⟨_, _, _, Or.inr (Or.inr ⟨p, q, r, p2, q2, r2, g, m, m2, hg, hd, rfl, rfl, rfl⟩), h, mz_s3 ea eb (mz_s1 g p q r p2 q2 r2)⟩
theorem mz_s4 {d l p q a b : Int} (ha : d * a = l * p) (hb : d * b = l * q) : d * (p * a + q * b) = l * (p * p + q * q) := by
  have x1 : d * (p * a + q * b) = p * (d * a) + q * (d * b) := by clear ha hb; grind
  rw [x1, ha, hb]
  clear ha hb x1
  grind
theorem mz_s5 {T S d l a p : Int} (h1 : T * a = S * p) (h2 : d * a = l * p) : (S * d) * p = (l * T) * p := by
  have x1 : (S * d) * p = d * (S * p) := by clear h1 h2; grind
  have x2 : (l * T) * p = T * (l * p) := by clear h1 h2 x1; grind
  rw [x1, x2, ← h1, ← h2]
  clear x1 x2
  grind
/-- two rows, one of which counts for nothing -/
theorem mz_strong2 {G : mz_G} {a b : Int} (hab : ¬ (a = 0 ∧ b = 0)) (hF : mz_Feas G) {p1 q1 r1 d l t : Int} (m1 : (p1, q1, r1) ∈ G) (hd : 0 < d) (hl : 0 ≤ l) (hc : mz_cr p1 q1 a b = 0) (ha : d * a = l * p1) (hb : d * b = l * q1) (ht : t = r1 * l)
    (hmin : ∀ t' d', mz_DC G a b t' d' → t * d' ≤ t' * d) : ∃ X Y D : Int, mz_MP G X Y D ∧ mz_ft G X Y D ∧ d * (a * X + b * Y) = t * D := by
  have hl' : 0 < l := by
    rcases Int.lt_or_eq_of_le hl with h | h
    · exact h
    · exfalso
      rw [← h, Int.zero_mul] at ha hb
      refine hab ⟨?_, ?_⟩
      · rcases Int.mul_eq_zero.mp ha with z | z
        · omega
        · exact z
      · rcases Int.mul_eq_zero.mp hb with z | z
        · omega
        · exact z
  have hp : ¬ (p1 = 0 ∧ q1 = 0) := by
    rintro ⟨rfl, rfl⟩
    rw [Int.mul_zero] at ha hb
    refine hab ⟨?_, ?_⟩
    · rcases Int.mul_eq_zero.mp ha with z | z
      · omega
      · exact z
    · rcases Int.mul_eq_zero.mp hb with z | z
      · omega
      · exact z
  have hdot : 0 < p1 * a + q1 * b := by
    have := Int.mul_pos hl' (mz_n2 hp)
    rw [← mz_s4 ha hb] at this
    exact Int.pos_of_mul_pos_right this hd
  obtain ⟨hS, hT, ea, eb⟩ := mz_par hc hdot
  have eK : mz_n a b * d = l * mz_n p1 q1 := by
    by_cases hz : p1 = 0
    · have hq : q1 ≠ 0 := fun z => hp ⟨hz, z⟩
      exact Int.eq_of_mul_eq_mul_right hq (mz_s5 eb hb)
    · exact Int.eq_of_mul_eq_mul_right hz (mz_s5 ea ha)
  have hmin1 : ∀ t' d', mz_DC G a b t' d' → (r1 * mz_n a b) * d' ≤ t' * mz_n p1 q1 := by
    intro t' d' h
    have h1 := Int.mul_le_mul_of_nonneg_left (hmin t' d' h) (Int.le_of_lt hT)
    refine Int.le_of_mul_le_mul_left (a := d) ?_ hd
    have x1 : mz_n p1 q1 * (t * d') = (l * mz_n p1 q1) * r1 * d' := by
      rw [ht]
      generalize mz_n p1 q1 = T
      grind
    have x2 : d * (r1 * mz_n a b * d') = (mz_n a b * d) * r1 * d' := by
      generalize mz_n a b = S
      grind
    have x3 : d * (t' * mz_n p1 q1) = mz_n p1 q1 * (t' * d) := by
      generalize mz_n p1 q1 = T
      grind
    rw [x2, x3, eK, ← x1]
    exact h1
  obtain ⟨X, Y, D, h1, h2, h3⟩ := mz_strong1 hF m1 hc hdot hmin1
  refine ⟨X, Y, D, h1, h2, ?_⟩
  refine Int.eq_of_mul_eq_mul_left (a := mz_n p1 q1) (by omega) ?_
  have x1 : mz_n p1 q1 * (d * (a * X + b * Y)) = d * (mz_n p1 q1 * (a * X + b * Y)) := Int.mul_left_comm _ _ _
  have x2 : d * (r1 * mz_n a b * D) = (mz_n a b * d) * r1 * D := by
    generalize mz_n a b = S
    grind
  have x3 : mz_n p1 q1 * (t * D) = (l * mz_n p1 q1) * r1 * D := by
    rw [ht]
    generalize mz_n p1 q1 = T
    grind
  rw [x1, h3, x2, x3, eK]
/-- the least bound is reached, at a point that the reference tries -/
theorem mz_strong {G : mz_G} {a b : Int} (hab : ¬ (a = 0 ∧ b = 0)) (hF : mz_Feas G) {t d : Int} (hDC : mz_DC G a b t d)
    (hmin : ∀ t' d', mz_DC G a b t' d' → t * d' ≤ t' * d) : ∃ X Y D : Int, mz_MP G X Y D ∧ mz_ft G X Y D ∧ d * (a * X + b * Y) = t * D := by
  rcases hDC with ⟨p, q, r, m, hc, hd, rfl, rfl⟩ | ⟨p1, q1, r1, p2, q2, r2, m1, m2, g, hg, hd, h1, h2, ht, hde⟩
  · exact mz_strong1 hF m hc hd hmin
  · have ha := mz_cra g p1 q1 p2 q2 a b
    have hb := mz_crb g p1 q1 p2 q2 a b
    rw [← hde] at ha hb hd
    rcases Int.lt_or_eq_of_le h2 with h2' | h2'
    · rcases Int.lt_or_eq_of_le h1 with h1' | h1'
      · subst ht
        subst hde
        refine ⟨_, _, _, Or.inr (Or.inr ⟨p1, q1, r1, p2, q2, r2, g, m1, m2, hg, hd, rfl, rfl, rfl⟩), mz_vertex hab hF m1 m2 hg hd h1' h2' hmin, ?_⟩
        have e1 := mz_s1 g p1 q1 r1 p2 q2 r2
        have e2 := mz_s2 g p1 q1 r1 p2 q2 r2
        generalize g * (r1 * q2 - r2 * q1) = X at *
        generalize g * (p1 * r2 - p2 * r1) = Y at *
        generalize g * mz_cr p1 q1 p2 q2 = D at *
        generalize g * mz_cr a b p2 q2 = L1 at *
        generalize g * mz_cr p1 q1 a b = L2 at *
        have x1 : D * (a * X + b * Y) = (D * a) * X + (D * b) * Y := by clear ha hb e1 e2 hmin h1 h2 h1' h2' hd; grind
        have x2 : (L1 * p1 + L2 * p2) * X + (L1 * q1 + L2 * q2) * Y = L1 * (p1 * X + q1 * Y) + L2 * (p2 * X + q2 * Y) := by clear ha hb e1 e2 hmin h1 h2 h1' h2' hd; grind
        rw [x1, ha, hb, x2, e1, e2]
        clear ha hb e1 e2 hmin h1 h2 h1' h2' hd x1 x2
        grind
      · have hc : mz_cr p2 q2 a b = 0 := by
          have := mz_sw g p2 q2 a b
          have h9 := mz_sw 1 a b p2 q2
          rcases hg with rfl | rfl <;> omega
        rw [← h1', Int.zero_mul, Int.zero_add] at ha hb
        exact mz_strong2 hab hF m2 hd h2 hc ha hb (by rw [ht, ← h1', Int.mul_zero, Int.zero_add]) hmin
    · have hc : mz_cr p1 q1 a b = 0 := by rcases hg with rfl | rfl <;> omega
      rw [← h2', Int.zero_mul, Int.add_zero] at ha hb
      exact mz_strong2 hab hF m1 hd h1 hc ha hb (by rw [ht, ← h2', Int.mul_zero, Int.add_zero]) hmin
theorem mz_w1 (a b p q u v : Int) : (a * a + b * b) * mz_cr p q u v = (p * a + q * b) * mz_cr a b u v - mz_cr a b p q * (u * a + v * b) := by unfold mz_cr; grind
/-- no bound at all: a direction that the reference tries -/
theorem mz_way {G : mz_G} {a b : Int} (hab : ¬ (a = 0 ∧ b = 0)) (hno : ∀ t d, ¬ mz_DC G a b t d) : mz_ft G a b 0 ∧ 0 < a * a + b * b ∨ ∃ p q r e : Int, (p, q, r) ∈ G ∧ (e = 1 ∨ e = -1) ∧ 0 < a * (e * q) + b * (-(e * p)) ∧ mz_ft G (e * q) (-(e * p)) 0 := by
  have hN := mz_n2 hab
  by_cases hall : mz_ft G a b 0
  · exact Or.inl ⟨hall, hN⟩
  refine Or.inr ?_
  obtain ⟨p0, q0, r0, m0, h0⟩ : ∃ p q r : Int, (p, q, r) ∈ G ∧ 0 < p * a + q * b := by
    by_cases hx : ∃ p q r : Int, (p, q, r) ∈ G ∧ 0 < p * a + q * b
    · exact hx
    · refine absurd (fun p q r hw => ?_) hall
      rw [Int.mul_zero]
      exact Int.not_lt.mp (fun z => hx ⟨p, q, r, hw, z⟩)
  have hc0 : mz_cr a b p0 q0 ≠ 0 := by
    intro hz
    refine hno _ _ (Or.inl ⟨p0, q0, r0, m0, ?_, h0, rfl, rfl⟩)
    have := mz_sw 1 a b p0 q0
    omega
  obtain ⟨ε, hε, hε0⟩ : ∃ ε : Int, (ε = 1 ∨ ε = -1) ∧ 0 < ε * mz_cr a b p0 q0 := by
    rcases Int.lt_or_gt_of_ne hc0 with z | z
    · exact ⟨-1, Or.inr rfl, by omega⟩
    · exact ⟨1, Or.inl rfl, by omega⟩
  obtain ⟨⟨p1, q1, r1⟩, m1, ⟨hy1, hx1⟩, hbest⟩ := mz_best (fun w : Int × Int × Int => 0 < w.1 * a + w.2.1 * b ∧ 0 < ε * mz_cr a b w.1 w.2.1) (fun w => w.1 * a + w.2.1 * b) (fun w => ε * mz_cr a b w.1 w.2.1) G (fun w _ h => h.2) ⟨(p0, q0, r0), m0, h0, hε0⟩
  dsimp only at hy1 hx1 hbest
  refine ⟨p1, q1, r1, ε, m1, hε, ?_, ?_⟩
  · have e : a * (ε * q1) + b * (-(ε * p1)) = ε * mz_cr a b p1 q1 := by unfold mz_cr; grind
    rw [e]; exact hx1
  · intro p q r mw
    rw [Int.mul_zero]
    refine Int.not_lt.mp (fun hv => ?_)
    have e : p * (ε * q1) + q * (-(ε * p1)) = -(ε * mz_cr p1 q1 p q) := by unfold mz_cr; grind
    rw [e] at hv
    have eW : (a * a + b * b) * (-(ε * mz_cr p1 q1 p q)) = (ε * mz_cr a b p1 q1) * (p * a + q * b) - (p1 * a + q1 * b) * (ε * mz_cr a b p q) := by
      have h := mz_w1 a b p1 q1 p q
      have h2 : (a * a + b * b) * (-(ε * mz_cr p1 q1 p q)) = -(ε * ((a * a + b * b) * mz_cr p1 q1 p q)) := by
        generalize mz_cr p1 q1 p q = Z
        generalize a * a + b * b = N
        grind
      rw [h2, h]
      generalize mz_cr a b p q = Z
      generalize mz_cr a b p1 q1 = Z1
      generalize p * a + q * b = y
      generalize p1 * a + q1 * b = y1
      grind
    have hpos := Int.mul_pos hN hv
    rw [eW] at hpos
    rcases Int.lt_trichotomy (ε * mz_cr a b p q) 0 with hs | hs | hs
    · refine hno _ _ (Or.inr ⟨p1, q1, r1, p, q, r, m1, mw, -ε, by omega, by rw [Int.neg_mul]; exact hv, by rw [Int.neg_mul]; omega, ?_, rfl, rfl⟩)
      have := mz_sw (-ε) a b p1 q1
      rw [this, Int.neg_mul, Int.neg_neg]
      omega
    · rw [hs, Int.mul_zero, Int.sub_zero] at hpos
      have hy := Int.pos_of_mul_pos_right hpos hx1
      refine hno _ _ (Or.inl ⟨p, q, r, mw, ?_, hy, rfl, rfl⟩)
      have := mz_sw 1 a b p q
      rcases hε with rfl | rfl <;> omega
    · have z1 := Int.mul_pos hy1 hs
      have hy : 0 < p * a + q * b := Int.pos_of_mul_pos_right (a := ε * mz_cr a b p1 q1) (by omega) hx1
      have hb := hbest (p, q, r) mw ⟨hy, hs⟩
      dsimp only at hb
      have c1 := Int.mul_comm (p * a + q * b) (ε * mz_cr a b p1 q1)
      omega
end
section
/-! The class's search for the least bound, and the reference's search among points, over whole numbers -/
def mz_lo (s : Int × Int) (t d : Int) : Int × Int := if s.2 = 0 ∨ t * s.2 < s.1 * d then (t, d) else s
def mz_rs (a b p q r : Int) (s : Int × Int) : Int × Int := if mz_cr p q a b = 0 ∧ 0 < p * a + q * b then mz_lo s (r * mz_n a b) (mz_n p q) else s
def mz_sg (c : Int) : Int := if c < 0 then -1 else 1
def mz_ps (a b p1 q1 r1 p2 q2 r2 : Int) (s : Int × Int) : Int × Int :=
  if mz_cr p1 q1 p2 q2 ≠ 0 ∧ 0 ≤ mz_sg (mz_cr p1 q1 p2 q2) * mz_cr a b p2 q2 ∧ 0 ≤ mz_sg (mz_cr p1 q1 p2 q2) * mz_cr p1 q1 a b then
    mz_lo s (r1 * (mz_sg (mz_cr p1 q1 p2 q2) * mz_cr a b p2 q2) + r2 * (mz_sg (mz_cr p1 q1 p2 q2) * mz_cr p1 q1 a b)) (mz_sg (mz_cr p1 q1 p2 q2) * mz_cr p1 q1 p2 q2)
  else s
def mz_in (P Q R : Nat → Int) (a b : Int) (i : Nat) : Nat → Nat → Int × Int → Int × Int
  | 0, _, s => s
  | k + 1, j, s => mz_in P Q R a b i k (j + 1) (mz_ps a b (P i) (Q i) (R i) (P j) (Q j) (R j) s)
def mz_out (P Q R : Nat → Int) (a b : Int) : Nat → Nat → Int × Int → Int × Int
  | 0, _, s => s
  | k + 1, i, s => mz_out P Q R a b k (i + 1) (mz_in P Q R a b i k (i + 1) (mz_rs a b (P i) (Q i) (R i) s))
def mz_L (P Q R : Nat → Int) (n : Nat) : mz_G := (List.range n).map (fun i => (P i, Q i, R i))
theorem mz_L_mem {P Q R : Nat → Int} {n : Nat} {p q r : Int} : (p, q, r) ∈ mz_L P Q R n ↔ ∃ i, i < n ∧ P i = p ∧ Q i = q ∧ R i = r := by
  unfold mz_L
  simp [List.mem_map, List.mem_range, Prod.mk.injEq]
def mz_I (C : Int → Int → Prop) (s : Int × Int) : Prop := (∀ t d, C t d → 0 < d) ∧ ((s.2 = 0 ∧ ∀ t d, ¬ C t d) ∨ (0 < s.2 ∧ C s.1 s.2 ∧ ∀ t d, C t d → s.1 * d ≤ t * s.2))
theorem mz_I_congr {C C' : Int → Int → Prop} {s : Int × Int} (h : mz_I C s) (e : ∀ t d, C t d ↔ C' t d) : mz_I C' s := by
  obtain ⟨h0, h1⟩ := h
  refine ⟨fun t d z => h0 t d ((e t d).mpr z), ?_⟩
  rcases h1 with ⟨x, y⟩ | ⟨x, y, z⟩
  · exact Or.inl ⟨x, fun t d w => y t d ((e t d).mpr w)⟩
  · exact Or.inr ⟨x, (e _ _).mp y, fun t d w => z t d ((e t d).mpr w)⟩
theorem mz_lo_I {C : Int → Int → Prop} {s : Int × Int} {t d : Int} (h : mz_I C s) (hd : 0 < d) : mz_I (fun t' d' => C t' d' ∨ (t' = t ∧ d' = d)) (mz_lo s t d) := by
  obtain ⟨h0, h1⟩ := h
  refine ⟨fun t' d' z => ?_, Or.inr ?_⟩
  · rcases z with z | ⟨-, rfl⟩
    · exact h0 t' d' z
    · exact hd
  · rcases h1 with ⟨x, y⟩ | ⟨x, y, z⟩
    · have e : mz_lo s t d = (t, d) := by unfold mz_lo; rw [if_pos (Or.inl x)]
      rw [e]
      refine ⟨hd, Or.inr ⟨rfl, rfl⟩, fun t' d' w => ?_⟩
      rcases w with w | ⟨rfl, rfl⟩
      · exact absurd w (y t' d')
      · exact Int.le_refl _
    · by_cases hlt : t * s.2 < s.1 * d
      · have e : mz_lo s t d = (t, d) := by unfold mz_lo; rw [if_pos (Or.inr hlt)]
        rw [e]
        refine ⟨hd, Or.inr ⟨rfl, rfl⟩, fun t' d' w => ?_⟩
        rcases w with w | ⟨rfl, rfl⟩
        · exact mz_f3 (h0 t' d' w) x hd (Int.le_of_lt hlt) (z t' d' w)
        · exact Int.le_refl _
      · have e : mz_lo s t d = s := by
          unfold mz_lo
          rw [if_neg]
          rintro (w | w)
          · omega
          · exact hlt w
        rw [e]
        refine ⟨x, Or.inl y, fun t' d' w => ?_⟩
        rcases w with w | ⟨rfl, rfl⟩
        · exact z t' d' w
        · omega
/-- what a step adds: E is the kind of bound that it looks for -/
def mz_T (E : Int → Int → Prop) (s s' : Int × Int) : Prop := ∀ C : Int → Int → Prop, mz_I C s → ∃ C' : Int → Int → Prop, mz_I C' s' ∧ ∀ t d, C' t d ↔ C t d ∨ E t d
theorem mz_T_refl {E : Int → Int → Prop} (h : ∀ t d, ¬ E t d) (s : Int × Int) : mz_T E s s := fun C hC => ⟨C, hC, fun t d => ⟨Or.inl, fun z => by rcases z with z | z; exact z; exact absurd z (h t d)⟩⟩
theorem mz_T_trans {E F G : Int → Int → Prop} {s1 s2 s3 : Int × Int} (h1 : mz_T E s1 s2) (h2 : mz_T F s2 s3) (h : ∀ t d, G t d ↔ E t d ∨ F t d) : mz_T G s1 s3 := by
  intro C hC
  obtain ⟨C1, a1, b1⟩ := h1 C hC
  obtain ⟨C2, a2, b2⟩ := h2 C1 a1
  refine ⟨C2, a2, fun t d => ?_⟩
  rw [b2, b1, h, or_assoc]
theorem mz_T_lo {E : Int → Int → Prop} {s : Int × Int} {t d : Int} (hd : 0 < d) (h : ∀ t' d', E t' d' ↔ t' = t ∧ d' = d) : mz_T E s (mz_lo s t d) := fun C hC => ⟨_, mz_lo_I hC hd, fun t' d' => by rw [h]⟩
theorem mz_T_rs (a b p q r : Int) (s : Int × Int) : mz_T (mz_RC p q r a b) s (mz_rs a b p q r s) := by
  unfold mz_rs
  by_cases hc : mz_cr p q a b = 0 ∧ 0 < p * a + q * b
  · rw [if_pos hc]
    refine mz_T_lo (mz_par hc.1 hc.2).2.1 (fun t d => ?_)
    exact ⟨fun z => ⟨z.2.2.1, z.2.2.2⟩, fun z => ⟨hc.1, hc.2, z.1, z.2⟩⟩
  · rw [if_neg hc]
    exact mz_T_refl (fun t d z => hc ⟨z.1, z.2.1⟩) s
theorem mz_sg1 (c : Int) : mz_sg c = 1 ∨ mz_sg c = -1 := by
  unfold mz_sg
  split <;> omega
theorem mz_sgp {c : Int} (h : c ≠ 0) : 0 < mz_sg c * c := by
  unfold mz_sg
  split <;> omega
theorem mz_sgu {c g : Int} (hg : g = 1 ∨ g = -1) (h : 0 < g * c) : g = mz_sg c := by
  unfold mz_sg
  rcases hg with rfl | rfl <;> split <;> omega
theorem mz_T_ps (a b p1 q1 r1 p2 q2 r2 : Int) (s : Int × Int) : mz_T (mz_PC p1 q1 r1 p2 q2 r2 a b) s (mz_ps a b p1 q1 r1 p2 q2 r2 s) := by
  unfold mz_ps
  by_cases hc : mz_cr p1 q1 p2 q2 ≠ 0 ∧ 0 ≤ mz_sg (mz_cr p1 q1 p2 q2) * mz_cr a b p2 q2 ∧ 0 ≤ mz_sg (mz_cr p1 q1 p2 q2) * mz_cr p1 q1 a b
  · rw [if_pos hc]
    refine mz_T_lo (mz_sgp hc.1) (fun t d => ⟨fun z => ?_, fun z => ?_⟩)
    · obtain ⟨g, hg, h0, h1, h2, ht, hd⟩ := z
      have e := mz_sgu hg h0
      subst e
      exact ⟨ht, hd⟩
    · exact ⟨_, mz_sg1 _, mz_sgp hc.1, hc.2.1, hc.2.2, z.1, z.2⟩
  · rw [if_neg hc]
    refine mz_T_refl (fun t d z => hc ?_) s
    obtain ⟨g, hg, h0, h1, h2, ht, hd⟩ := z
    have e := mz_sgu hg h0
    subst e
    refine ⟨fun z => ?_, h1, h2⟩
    rw [z, Int.mul_zero] at h0
    omega
theorem mz_T_in (P Q R : Nat → Int) (a b : Int) (i : Nat) : ∀ (k j : Nat) (s : Int × Int), mz_T (fun t d => ∃ l, j ≤ l ∧ l < j + k ∧ mz_PC (P i) (Q i) (R i) (P l) (Q l) (R l) a b t d) s (mz_in P Q R a b i k j s) := by
  intro k
  induction k with
  | zero => intro j s; exact mz_T_refl (fun t d z => by obtain ⟨l, h1, h2, -⟩ := z; omega) s
  | succ k ih =>
    intro j s
    refine mz_T_trans (mz_T_ps a b (P i) (Q i) (R i) (P j) (Q j) (R j) s) (ih (j + 1) _) (fun t d => ⟨fun z => ?_, fun z => ?_⟩)
    · obtain ⟨l, h1, h2, h3⟩ := z
      by_cases e : l = j
      · subst e; exact Or.inl h3
      · exact Or.inr ⟨l, by omega, by omega, h3⟩
    · rcases z with z | ⟨l, h1, h2, h3⟩
      · exact ⟨j, by omega, by omega, z⟩
      · exact ⟨l, by omega, by omega, h3⟩
theorem mz_T_out (P Q R : Nat → Int) (a b : Int) : ∀ (k i : Nat) (s : Int × Int), mz_T (fun t d => (∃ l, i ≤ l ∧ l < i + k ∧ mz_RC (P l) (Q l) (R l) a b t d) ∨ ∃ l m, i ≤ l ∧ l < m ∧ m < i + k ∧ mz_PC (P l) (Q l) (R l) (P m) (Q m) (R m) a b t d) s (mz_out P Q R a b k i s) := by
  intro k
  induction k with
  | zero => intro i s; exact mz_T_refl (fun t d z => by rcases z with ⟨l, h1, h2, -⟩ | ⟨l, m, h1, h2, h3, -⟩ <;> omega) s
  | succ k ih =>
    intro i s
    refine mz_T_trans (mz_T_trans (mz_T_rs a b (P i) (Q i) (R i) s) (mz_T_in P Q R a b i k (i + 1) _) (fun t d => Iff.rfl)) (ih (i + 1) _) (fun t d => ⟨fun z => ?_, fun z => ?_⟩)
    · rcases z with ⟨l, h1, h2, h3⟩ | ⟨l, m, h1, h2, h3, h4⟩
      · by_cases e : l = i
        · subst e; exact Or.inl (Or.inl h3)
        · exact Or.inr (Or.inl ⟨l, by omega, by omega, h3⟩)
      · by_cases e : l = i
        · subst e; exact Or.inl (Or.inr ⟨m, by omega, by omega, h4⟩)
        · exact Or.inr (Or.inr ⟨l, m, by omega, by omega, by omega, h4⟩)
    · rcases z with (z | ⟨m, h1, h2, h3⟩) | (⟨l, h1, h2, h3⟩ | ⟨l, m, h1, h2, h3, h4⟩)
      · exact Or.inl ⟨i, by omega, by omega, z⟩
      · exact Or.inr ⟨i, m, by omega, by omega, by omega, h3⟩
      · exact Or.inl ⟨l, by omega, by omega, h3⟩
      · exact Or.inr ⟨l, m, by omega, by omega, by omega, h4⟩
theorem mz_PC_sw {p1 q1 r1 p2 q2 r2 a b t d : Int} (h : mz_PC p1 q1 r1 p2 q2 r2 a b t d) : mz_PC p2 q2 r2 p1 q1 r1 a b t d := by
  obtain ⟨g, hg, h0, h1, h2, ht, hd⟩ := h
  have e0 : -g * mz_cr p2 q2 p1 q1 = g * mz_cr p1 q1 p2 q2 := by unfold mz_cr; grind
  have e1 : -g * mz_cr a b p1 q1 = g * mz_cr p1 q1 a b := by unfold mz_cr; grind
  have e2 : -g * mz_cr p2 q2 a b = g * mz_cr a b p2 q2 := by unfold mz_cr; grind
  refine ⟨-g, by omega, by rw [e0]; exact h0, by rw [e1]; exact h2, by rw [e2]; exact h1, ?_, by rw [e0]; exact hd⟩
  rw [e1, e2, ht, Int.add_comm]
theorem mz_PC_ne {p q r r' a b t d : Int} (h : mz_PC p q r p q r' a b t d) : False := by
  obtain ⟨g, hg, h0, h1, h2, ht, hd⟩ := h
  have e : mz_cr p q p q = 0 := by unfold mz_cr; rw [Int.mul_comm]; omega
  rw [e, Int.mul_zero] at h0
  omega
/-- the class's search -/
theorem mz_cm (P Q R : Nat → Int) (n : Nat) (a b : Int) : mz_I (mz_DC (mz_L P Q R n) a b) (mz_out P Q R a b n 0 (0, 0)) := by
  obtain ⟨C', h1, h2⟩ := mz_T_out P Q R a b n 0 (0, 0) (fun _ _ => False) ⟨fun _ _ z => z.elim, Or.inl ⟨rfl, fun _ _ z => z⟩⟩
  refine mz_I_congr h1 (fun t d => ?_)
  rw [h2]
  constructor
  · rintro (z | ⟨l, -, h3, h4⟩ | ⟨l, m, -, h3, h5, h4⟩)
    · exact z.elim
    · exact Or.inl ⟨_, _, _, mz_L_mem.mpr ⟨l, by omega, rfl, rfl, rfl⟩, h4⟩
    · exact Or.inr ⟨_, _, _, _, _, _, mz_L_mem.mpr ⟨l, by omega, rfl, rfl, rfl⟩, mz_L_mem.mpr ⟨m, by omega, rfl, rfl, rfl⟩, h4⟩
  · rintro (⟨p, q, r, hm, h⟩ | ⟨p1, q1, r1, p2, q2, r2, hm1, hm2, h⟩)
    · obtain ⟨l, hl, rfl, rfl, rfl⟩ := mz_L_mem.mp hm
      exact Or.inr (Or.inl ⟨l, by omega, by omega, h⟩)
    · obtain ⟨l, hl, rfl, rfl, rfl⟩ := mz_L_mem.mp hm1
      obtain ⟨m, hm, rfl, rfl, rfl⟩ := mz_L_mem.mp hm2
      rcases Nat.lt_trichotomy l m with z | z | z
      · exact Or.inr (Or.inr ⟨l, m, by omega, z, by omega, h⟩)
      · subst z; exact (mz_PC_ne h).elim
      · exact Or.inr (Or.inr ⟨m, l, by omega, z, by omega, mz_PC_sw h⟩)
/-! the reference -/
def mz_ck (P Q R : Nat → Int) (X Y D : Int) : Nat → Nat → Bool
  | 0, _ => true
  | k + 1, i => if R i * D < P i * X + Q i * Y then false else mz_ck P Q R X Y D k (i + 1)
theorem mz_ck_iff (P Q R : Nat → Int) (X Y D : Int) : ∀ (k i : Nat), mz_ck P Q R X Y D k i = true ↔ ∀ l, i ≤ l → l < i + k → P l * X + Q l * Y ≤ R l * D := by
  intro k
  induction k with
  | zero => intro i; exact ⟨fun _ l h1 h2 => by omega, fun _ => rfl⟩
  | succ k ih =>
    intro i
    unfold mz_ck
    by_cases h : R i * D < P i * X + Q i * Y
    · rw [if_pos h]
      exact ⟨fun z => (by cases z), fun z => absurd (z i (by omega) (by omega)) (by omega)⟩
    · rw [if_neg h, ih (i + 1)]
      refine ⟨fun z l h1 h2 => ?_, fun z l h1 h2 => z l (by omega) (by omega)⟩
      by_cases e : l = i
      · subst e; omega
      · exact z l (by omega) (by omega)
theorem mz_ck_ft (P Q R : Nat → Int) (n : Nat) (X Y D : Int) : mz_ck P Q R X Y D n 0 = true ↔ mz_ft (mz_L P Q R n) X Y D := by
  rw [mz_ck_iff]
  constructor
  · intro h p q r hm
    obtain ⟨l, hl, rfl, rfl, rfl⟩ := mz_L_mem.mp hm
    exact h l (by omega) (by omega)
  · intro h l _ h2
    exact h _ _ _ (mz_L_mem.mpr ⟨l, by omega, rfl, rfl, rfl⟩)
abbrev mz_S : Type := Bool × Int × Int
def mz_mt (P Q R : Nat → Int) (n : Nat) (u v X Y D : Int) (s : mz_S) : mz_S :=
  if mz_ck P Q R X Y D n 0 = true then (if s.1 = false ∨ s.2.1 * D < (u * X + v * Y) * s.2.2 then (true, u * X + v * Y, D) else s) else s
def mz_mn (P Q R : Nat → Int) (n : Nat) (u v X Y D : Int) (s : mz_S) : mz_S := mz_mt P Q R n u v (if D < 0 then -X else X) (if D < 0 then -Y else Y) (if D < 0 then -D else D) s
def mz_fo (P Q R : Nat → Int) (n : Nat) (u v : Int) (i : Nat) (s : mz_S) : mz_S :=
  if 0 < P i * P i + Q i * Q i then mz_mn P Q R n u v (P i * R i) (Q i * R i) (P i * P i + Q i * Q i) s else s
def mz_co (P Q R : Nat → Int) (n : Nat) (u v : Int) (i j : Nat) (s : mz_S) : mz_S :=
  if P i * Q j - P j * Q i ≠ 0 then mz_mn P Q R n u v (R i * Q j - R j * Q i) (P i * R j - P j * R i) (P i * Q j - P j * Q i) s else s
def mz_li (P Q R : Nat → Int) (n : Nat) (u v : Int) (i : Nat) : Nat → Nat → mz_S → mz_S
  | 0, _, s => s
  | k + 1, j, s => mz_li P Q R n u v i k (j + 1) (mz_co P Q R n u v i j s)
def mz_lu (P Q R : Nat → Int) (n : Nat) (u v : Int) : Nat → Nat → mz_S → mz_S
  | 0, _, s => s
  | k + 1, i, s => mz_lu P Q R n u v k (i + 1) (mz_li P Q R n u v i i 0 (mz_fo P Q R n u v i s))
def mz_lk (P Q R : Nat → Int) (n : Nat) (u v : Int) : mz_S := mz_lu P Q R n u v n 0 (mz_mn P Q R n u v 0 0 1 (false, 0, 1))
def mz_J (u v : Int) (C : Int → Int → Int → Prop) (s : mz_S) : Prop := (∀ X Y D, C X Y D → 0 < D) ∧ ((s.1 = false ∧ ∀ X Y D, ¬ C X Y D) ∨ (s.1 = true ∧ 0 < s.2.2 ∧ (∃ X Y, C X Y s.2.2 ∧ s.2.1 = u * X + v * Y) ∧ ∀ X Y D, C X Y D → (u * X + v * Y) * s.2.2 ≤ s.2.1 * D))
def mz_U (u v : Int) (E : Int → Int → Int → Prop) (s s' : mz_S) : Prop := ∀ C : Int → Int → Int → Prop, mz_J u v C s → ∃ C' : Int → Int → Int → Prop, mz_J u v C' s' ∧ ∀ X Y D, C' X Y D ↔ C X Y D ∨ E X Y D
theorem mz_U_refl {u v : Int} {E : Int → Int → Int → Prop} (h : ∀ X Y D, ¬ E X Y D) (s : mz_S) : mz_U u v E s s := fun C hC => ⟨C, hC, fun X Y D => ⟨Or.inl, fun z => by rcases z with z | z; exact z; exact absurd z (h X Y D)⟩⟩
theorem mz_U_trans {u v : Int} {E F G : Int → Int → Int → Prop} {s1 s2 s3 : mz_S} (h1 : mz_U u v E s1 s2) (h2 : mz_U u v F s2 s3) (h : ∀ X Y D, G X Y D ↔ E X Y D ∨ F X Y D) : mz_U u v G s1 s3 := by
  intro C hC
  obtain ⟨C1, a1, b1⟩ := h1 C hC
  obtain ⟨C2, a2, b2⟩ := h2 C1 a1
  refine ⟨C2, a2, fun X Y D => ?_⟩
  rw [b2, b1, h, or_assoc]
theorem mz_U_mt (P Q R : Nat → Int) (n : Nat) (u v X Y D : Int) (hD : 0 < D) (s : mz_S) : mz_U u v (fun X' Y' D' => (X' = X ∧ Y' = Y ∧ D' = D) ∧ mz_ft (mz_L P Q R n) X' Y' D') s (mz_mt P Q R n u v X Y D s) := by
  unfold mz_mt
  by_cases hc : mz_ck P Q R X Y D n 0 = true
  · rw [if_pos hc]
    have hf := (mz_ck_ft P Q R n X Y D).mp hc
    intro C hC
    obtain ⟨h0, h1⟩ := hC
    refine ⟨fun X' Y' D' => C X' Y' D' ∨ (X' = X ∧ Y' = Y ∧ D' = D) ∧ mz_ft (mz_L P Q R n) X' Y' D', ?_, fun _ _ _ => Iff.rfl⟩
    have hpos : ∀ X' Y' D', (C X' Y' D' ∨ (X' = X ∧ Y' = Y ∧ D' = D) ∧ mz_ft (mz_L P Q R n) X' Y' D') → 0 < D' := by
      intro X' Y' D' z
      rcases z with z | ⟨⟨rfl, rfl, rfl⟩, -⟩
      · exact h0 _ _ _ z
      · exact hD
    refine ⟨hpos, Or.inr ?_⟩
    rcases h1 with ⟨x, y⟩ | ⟨x, x2, x3, z⟩
    · rw [if_pos (Or.inl x)]
      refine ⟨rfl, hD, ⟨X, Y, Or.inr ⟨⟨rfl, rfl, rfl⟩, hf⟩, rfl⟩, fun X' Y' D' w => ?_⟩
      rcases w with w | ⟨⟨rfl, rfl, rfl⟩, -⟩
      · exact absurd w (y _ _ _)
      · exact Int.le_refl _
    · by_cases hlt : s.2.1 * D < (u * X + v * Y) * s.2.2
      · rw [if_pos (Or.inr hlt)]
        refine ⟨rfl, hD, ⟨X, Y, Or.inr ⟨⟨rfl, rfl, rfl⟩, hf⟩, rfl⟩, fun X' Y' D' w => ?_⟩
        rcases w with w | ⟨⟨rfl, rfl, rfl⟩, -⟩
        · exact mz_f3 hD x2 (h0 _ _ _ w) (z _ _ _ w) (Int.le_of_lt hlt)
        · exact Int.le_refl _
      · rw [if_neg (fun w => w.elim (fun w => by rw [x] at w; cases w) hlt)]
        obtain ⟨X0, Y0, c0, e0⟩ := x3
        refine ⟨x, x2, ⟨X0, Y0, Or.inl c0, e0⟩, fun X' Y' D' w => ?_⟩
        rcases w with w | ⟨⟨rfl, rfl, rfl⟩, -⟩
        · exact z _ _ _ w
        · omega
  · rw [if_neg hc]
    refine mz_U_refl (fun X' Y' D' z => hc ?_) s
    obtain ⟨⟨rfl, rfl, rfl⟩, hf⟩ := z
    exact (mz_ck_ft P Q R n X' Y' D').mpr hf
theorem mz_mn_pos (P Q R : Nat → Int) (n : Nat) (u v X Y D : Int) (hD : 0 < D) (s : mz_S) : mz_mn P Q R n u v X Y D s = mz_mt P Q R n u v X Y D s := by
  unfold mz_mn
  rw [if_neg (by omega), if_neg (by omega), if_neg (by omega)]
theorem mz_mn_sg (P Q R : Nat → Int) (n : Nat) (u v X Y D : Int) (s : mz_S) : mz_mn P Q R n u v X Y D s = mz_mt P Q R n u v (mz_sg D * X) (mz_sg D * Y) (mz_sg D * D) s := by
  unfold mz_mn mz_sg
  by_cases h : D < 0
  · simp only [if_pos h, Int.neg_mul, Int.one_mul]
  · simp only [if_neg h, Int.one_mul]
def mz_Ef (P Q R : Nat → Int) (n : Nat) (i : Nat) (X Y D : Int) : Prop := (0 < P i * P i + Q i * Q i ∧ X = P i * R i ∧ Y = Q i * R i ∧ D = P i * P i + Q i * Q i) ∧ mz_ft (mz_L P Q R n) X Y D
def mz_Ec (P Q R : Nat → Int) (n : Nat) (i j : Nat) (X Y D : Int) : Prop := (∃ g : Int, (g = 1 ∨ g = -1) ∧ 0 < g * mz_cr (P i) (Q i) (P j) (Q j) ∧ X = g * (R i * Q j - R j * Q i) ∧ Y = g * (P i * R j - P j * R i) ∧ D = g * mz_cr (P i) (Q i) (P j) (Q j)) ∧ mz_ft (mz_L P Q R n) X Y D
theorem mz_U_fo (P Q R : Nat → Int) (n : Nat) (u v : Int) (i : Nat) (s : mz_S) : mz_U u v (mz_Ef P Q R n i) s (mz_fo P Q R n u v i s) := by
  unfold mz_fo
  by_cases h : 0 < P i * P i + Q i * Q i
  · rw [if_pos h, mz_mn_pos _ _ _ _ _ _ _ _ _ h]
    refine mz_U_trans (mz_U_mt P Q R n u v _ _ _ h s) (mz_U_refl (E := fun _ _ _ => False) (fun _ _ _ z => z) _) (fun X Y D => ?_)
    unfold mz_Ef
    exact ⟨fun z => Or.inl ⟨⟨z.1.2.1, z.1.2.2.1, z.1.2.2.2⟩, z.2⟩, fun z => by
      rcases z with z | z
      · exact ⟨⟨h, z.1.1, z.1.2.1, z.1.2.2⟩, z.2⟩
      · exact z.elim⟩
  · rw [if_neg h]
    exact mz_U_refl (fun X Y D z => h z.1.1) s
theorem mz_crc (p q p' q' : Int) : p * q' - p' * q = mz_cr p q p' q' := by unfold mz_cr; rw [Int.mul_comm p' q]
theorem mz_U_co (P Q R : Nat → Int) (n : Nat) (u v : Int) (i j : Nat) (s : mz_S) : mz_U u v (mz_Ec P Q R n i j) s (mz_co P Q R n u v i j s) := by
  unfold mz_co
  rw [mz_crc]
  by_cases h : mz_cr (P i) (Q i) (P j) (Q j) ≠ 0
  · rw [if_pos h, mz_mn_sg]
    refine mz_U_trans (mz_U_mt P Q R n u v _ _ _ (mz_sgp h) s) (mz_U_refl (E := fun _ _ _ => False) (fun _ _ _ z => z) _) (fun X Y D => ?_)
    unfold mz_Ec
    constructor
    · rintro ⟨⟨g, hg, h0, hX, hY, hD⟩, hf⟩
      have e := mz_sgu hg h0
      subst e
      exact Or.inl ⟨⟨hX, hY, hD⟩, hf⟩
    · rintro (⟨⟨hX, hY, hD⟩, hf⟩ | z)
      · exact ⟨⟨_, mz_sg1 _, mz_sgp h, hX, hY, hD⟩, hf⟩
      · exact z.elim
  · rw [if_neg h]
    refine mz_U_refl (fun X Y D z => h ?_) s
    obtain ⟨⟨g, hg, h0, -⟩, -⟩ := z
    intro e
    rw [e, Int.mul_zero] at h0
    omega
theorem mz_U_li (P Q R : Nat → Int) (n : Nat) (u v : Int) (i : Nat) : ∀ (k j : Nat) (s : mz_S), mz_U u v (fun X Y D => ∃ l, j ≤ l ∧ l < j + k ∧ mz_Ec P Q R n i l X Y D) s (mz_li P Q R n u v i k j s) := by
  intro k
  induction k with
  | zero => intro j s; exact mz_U_refl (fun X Y D z => by obtain ⟨l, h1, h2, -⟩ := z; omega) s
  | succ k ih =>
    intro j s
    refine mz_U_trans (mz_U_co P Q R n u v i j s) (ih (j + 1) _) (fun X Y D => ⟨fun z => ?_, fun z => ?_⟩)
    · obtain ⟨l, h1, h2, h3⟩ := z
      by_cases e : l = j
      · subst e; exact Or.inl h3
      · exact Or.inr ⟨l, by omega, by omega, h3⟩
    · rcases z with z | ⟨l, h1, h2, h3⟩
      · exact ⟨j, by omega, by omega, z⟩
      · exact ⟨l, by omega, by omega, h3⟩
theorem mz_U_lu (P Q R : Nat → Int) (n : Nat) (u v : Int) : ∀ (k i : Nat) (s : mz_S), mz_U u v (fun X Y D => (∃ l, i ≤ l ∧ l < i + k ∧ mz_Ef P Q R n l X Y D) ∨ ∃ l m, i ≤ l ∧ l < i + k ∧ m < l ∧ mz_Ec P Q R n l m X Y D) s (mz_lu P Q R n u v k i s) := by
  intro k
  induction k with
  | zero => intro i s; exact mz_U_refl (fun X Y D z => by rcases z with ⟨l, h1, h2, -⟩ | ⟨l, m, h1, h2, -⟩ <;> omega) s
  | succ k ih =>
    intro i s
    refine mz_U_trans (mz_U_trans (mz_U_fo P Q R n u v i s) (mz_U_li P Q R n u v i i 0 _) (fun X Y D => Iff.rfl)) (ih (i + 1) _) (fun X Y D => ⟨fun z => ?_, fun z => ?_⟩)
    · rcases z with ⟨l, h1, h2, h3⟩ | ⟨l, m, h1, h2, h3, h4⟩
      · by_cases e : l = i
        · subst e; exact Or.inl (Or.inl h3)
        · exact Or.inr (Or.inl ⟨l, by omega, by omega, h3⟩)
      · by_cases e : l = i
        · subst e; exact Or.inl (Or.inr ⟨m, by omega, by omega, h4⟩)
        · exact Or.inr (Or.inr ⟨l, m, by omega, by omega, h3, h4⟩)
    · rcases z with (z | ⟨m, h1, h2, h3⟩) | (⟨l, h1, h2, h3⟩ | ⟨l, m, h1, h2, h3, h4⟩)
      · exact Or.inl ⟨i, by omega, by omega, z⟩
      · exact Or.inr ⟨i, m, by omega, by omega, by omega, h3⟩
      · exact Or.inl ⟨l, by omega, by omega, h3⟩
      · exact Or.inr ⟨l, m, by omega, by omega, h3, h4⟩
/-- the reference's search -/
theorem mz_lm (P Q R : Nat → Int) (n : Nat) (u v : Int) : mz_J u v (fun X Y D => mz_MP (mz_L P Q R n) X Y D ∧ mz_ft (mz_L P Q R n) X Y D) (mz_lk P Q R n u v) := by
  unfold mz_lk
  rw [mz_mn_pos _ _ _ _ _ _ _ _ _ (show (0 : Int) < 1 by omega)]
  obtain ⟨C', h1, h2⟩ := mz_U_trans (mz_U_mt P Q R n u v 0 0 1 (by omega) (false, 0, 1)) (mz_U_lu P Q R n u v n 0 _) (fun X Y D => Iff.rfl) (fun _ _ _ => False) ⟨fun _ _ _ z => z.elim, Or.inl ⟨rfl, fun _ _ _ z => z⟩⟩
  have e : ∀ X Y D, C' X Y D ↔ (mz_MP (mz_L P Q R n) X Y D ∧ mz_ft (mz_L P Q R n) X Y D) := by
    intro X Y D
    rw [h2]
    constructor
    · rintro (z | ⟨h3, h4⟩ | ⟨l, -, h5, h3, h4⟩ | ⟨l, m, -, h5, h6, ⟨g, hg, h0, hX, hY, hD⟩, h4⟩)
      · exact z.elim
      · exact ⟨Or.inl h3, h4⟩
      · exact ⟨Or.inr (Or.inl ⟨P l, Q l, R l, mz_L_mem.mpr ⟨l, by omega, rfl, rfl, rfl⟩, h3⟩), h4⟩
      · exact ⟨Or.inr (Or.inr ⟨P l, Q l, R l, P m, Q m, R m, g, mz_L_mem.mpr ⟨l, by omega, rfl, rfl, rfl⟩, mz_L_mem.mpr ⟨m, by omega, rfl, rfl, rfl⟩, hg, h0, hX, hY, hD⟩), h4⟩
    · rintro ⟨h3 | ⟨p, q, r, hm, h3⟩ | ⟨p1, q1, r1, p2, q2, r2, g, hm1, hm2, hg, h0, hX, hY, hD⟩, h4⟩
      · exact Or.inr (Or.inl ⟨h3, h4⟩)
      · obtain ⟨l, hl, rfl, rfl, rfl⟩ := mz_L_mem.mp hm
        exact Or.inr (Or.inr (Or.inl ⟨l, by omega, by omega, h3, h4⟩))
      · obtain ⟨l, hl, rfl, rfl, rfl⟩ := mz_L_mem.mp hm1
        obtain ⟨m, hm, rfl, rfl, rfl⟩ := mz_L_mem.mp hm2
        rcases Nat.lt_trichotomy l m with z | z | z
        · refine Or.inr (Or.inr (Or.inr ⟨m, l, by omega, by omega, z, ⟨-g, by omega, ?_, ?_, ?_, ?_⟩, h4⟩))
          · have : -g * mz_cr (P m) (Q m) (P l) (Q l) = g * mz_cr (P l) (Q l) (P m) (Q m) := by unfold mz_cr; grind
            rw [this]; exact h0
          · rw [hX]; grind
          · rw [hY]; grind
          · rw [hD]; unfold mz_cr; grind
        · subst z
          have e : mz_cr (P l) (Q l) (P l) (Q l) = 0 := by unfold mz_cr; rw [Int.mul_comm]; omega
          rw [e, Int.mul_zero] at h0
          omega
        · exact Or.inr (Or.inr (Or.inr ⟨l, m, by omega, by omega, z, ⟨g, hg, h0, hX, hY, hD⟩, h4⟩))
  obtain ⟨a0, a1⟩ := h1
  refine ⟨fun X Y D z => a0 X Y D ((e X Y D).mpr z), ?_⟩
  rcases a1 with ⟨x, y⟩ | ⟨x, x2, ⟨X0, Y0, c0, e0⟩, z⟩
  · exact Or.inl ⟨x, fun X Y D w => y X Y D ((e X Y D).mpr w)⟩
  · exact Or.inr ⟨x, x2, ⟨X0, Y0, (e _ _ _).mp c0, e0⟩, fun X Y D w => z X Y D ((e X Y D).mpr w)⟩
/-! what the two searches have in common -/
theorem mz_feasMP {G : mz_G} (hmin : ∀ a b : Int, (∀ t d, ¬ mz_DC G a b t d) ∨ ∃ t d, mz_DC G a b t d ∧ ∀ t' d', mz_DC G a b t' d' → t * d' ≤ t' * d) (hF : mz_Feas G) : ∃ X Y D, mz_MP G X Y D ∧ mz_ft G X Y D := by
  by_cases h0 : mz_ft G 0 0 1
  · exact ⟨0, 0, 1, Or.inl ⟨rfl, rfl, rfl⟩, h0⟩
  · obtain ⟨p, q, r, m, h⟩ : ∃ p q r : Int, (p, q, r) ∈ G ∧ r < 0 := by
      by_cases hx : ∃ p q r : Int, (p, q, r) ∈ G ∧ r < 0
      · exact hx
      · refine absurd (fun p q r hw => ?_) h0
        have : ¬ r < 0 := fun z => hx ⟨p, q, r, hw, z⟩
        omega
    have hpq : ¬ (p = 0 ∧ q = 0) := by
      rintro ⟨rfl, rfl⟩
      obtain ⟨X, Y, D, hD, hf⟩ := hF
      have h1 := hf _ _ _ m
      have h2 := Int.mul_neg_of_neg_of_pos h hD
      omega
    have hdc : mz_DC G p q (r * mz_n p q) (mz_n p q) := Or.inl ⟨p, q, r, m, by unfold mz_cr; rw [Int.mul_comm]; omega, mz_n2 hpq, rfl, rfl⟩
    rcases hmin p q with z | ⟨t, d, h1, h2⟩
    · exact absurd hdc (z _ _)
    · obtain ⟨X, Y, D, a, b, -⟩ := mz_strong hpq hF h1 h2
      exact ⟨X, Y, D, a, b⟩
theorem mz_minEx (P Q R : Nat → Int) (n : Nat) (a b : Int) : (∀ t d, ¬ mz_DC (mz_L P Q R n) a b t d) ∨ ∃ t d, mz_DC (mz_L P Q R n) a b t d ∧ ∀ t' d', mz_DC (mz_L P Q R n) a b t' d' → t * d' ≤ t' * d := by
  rcases (mz_cm P Q R n a b).2 with h | ⟨-, h1, h2⟩
  · exact Or.inl h.2
  · exact Or.inr ⟨_, _, h1, h2⟩
/-- the reference finds a point exactly where there is one -/
theorem mz_lk_some (P Q R : Nat → Int) (n : Nat) (u v : Int) : (mz_lk P Q R n u v).1 = true ↔ mz_Feas (mz_L P Q R n) := by
  rcases (mz_lm P Q R n u v).2 with ⟨x, y⟩ | ⟨x, x2, ⟨X, Y, c, -⟩, -⟩
  · constructor
    · intro z; rw [x] at z; cases z
    · intro z
      obtain ⟨X, Y, D, h⟩ := mz_feasMP (mz_minEx P Q R n) z
      exact absurd h (y X Y D)
  · exact ⟨fun _ => ⟨X, Y, _, x2, c.2⟩, fun _ => x⟩
def mz_ca (P Q R : Nat → Int) (n : Nat) (a b : Int) : Int × Int := if a = 0 ∧ b = 0 then (0, 1) else mz_out P Q R a b n 0 (0, 0)
def mz_Wy (G : mz_G) (u v x y : Int) : Prop := 0 < u * x + v * y ∧ mz_ft G x y 0
def mz_End (G : mz_G) (u v : Int) : Prop := mz_Wy G u v u v ∨ ∃ p q r : Int, (p, q, r) ∈ G ∧ (mz_Wy G u v (-q) p ∨ mz_Wy G u v q (-p) ∨ mz_Wy G u v (-p) (-q))
theorem mz_ca_end (P Q R : Nat → Int) (n : Nat) (a b : Int) : (mz_ca P Q R n a b).2 = 0 ↔ mz_End (mz_L P Q R n) a b := by
  unfold mz_ca
  by_cases hab : a = 0 ∧ b = 0
  · rw [if_pos hab]
    obtain ⟨rfl, rfl⟩ := hab
    constructor
    · intro z; exact absurd z (by decide)
    · rintro (⟨h, -⟩ | ⟨p, q, r, -, ⟨h, -⟩ | ⟨h, -⟩ | ⟨h, -⟩⟩) <;> omega
  · rw [if_neg hab]
    have hI := mz_cm P Q R n a b
    constructor
    · intro z
      rcases hI.2 with ⟨-, h⟩ | ⟨h, -⟩
      · rcases mz_way hab h with ⟨h1, h2⟩ | ⟨p, q, r, e, m, he, h1, h2⟩
        · exact Or.inl ⟨h2, h1⟩
        · refine Or.inr ⟨p, q, r, m, ?_⟩
          rcases he with rfl | rfl
          · rw [Int.one_mul, Int.one_mul] at h1 h2
            exact Or.inr (Or.inl ⟨h1, h2⟩)
          · rw [Int.neg_mul, Int.one_mul, Int.neg_mul, Int.one_mul, Int.neg_neg] at h1 h2
            exact Or.inl ⟨h1, h2⟩
      · omega
    · intro z
      rcases hI.2 with h | ⟨h0, h, -⟩
      · exact h.1
      · exfalso
        obtain ⟨hd, hw⟩ := mz_wk h
        have key : ∀ x y, ¬ mz_Wy (mz_L P Q R n) a b x y := by
          rintro x y ⟨h1, h2⟩
          have h3 := hw x y 0 h2
          have h4 := Int.mul_pos hd h1
          rw [Int.mul_zero] at h3
          omega
        rcases z with z | ⟨p, q, r, -, z | z | z⟩
        · exact key _ _ z
        · exact key _ _ z
        · exact key _ _ z
        · exact key _ _ z
/-- both searches find the same fraction -/
theorem mz_ca_eq {P Q R : Nat → Int} {n : Nat} (hF : mz_Feas (mz_L P Q R n)) {a b : Int} (h : (mz_ca P Q R n a b).2 ≠ 0) :
    0 < (mz_ca P Q R n a b).2 ∧ 0 < (mz_lk P Q R n a b).2.2 ∧ (mz_ca P Q R n a b).1 * (mz_lk P Q R n a b).2.2 = (mz_lk P Q R n a b).2.1 * (mz_ca P Q R n a b).2 ∧ ∃ X Y D, 0 < D ∧ mz_ft (mz_L P Q R n) X Y D ∧ (mz_ca P Q R n a b).2 * (a * X + b * Y) = (mz_ca P Q R n a b).1 * D ∧ ∀ X Y D, 0 < D → mz_ft (mz_L P Q R n) X Y D → (mz_ca P Q R n a b).2 * (a * X + b * Y) ≤ (mz_ca P Q R n a b).1 * D := by
  have hs := (mz_lk_some P Q R n a b).mpr hF
  rcases (mz_lm P Q R n a b).2 with ⟨x, -⟩ | ⟨-, hB, ⟨X, Y, c, e⟩, hmax⟩
  · rw [hs] at x; cases x
  unfold mz_ca at h ⊢
  by_cases hab : a = 0 ∧ b = 0
  · rw [if_pos hab] at h ⊢
    dsimp only at h ⊢
    obtain ⟨rfl, rfl⟩ := hab
    refine ⟨by omega, hB, ?_, X, Y, _, hB, c.2, by omega, fun X Y D _ _ => by omega⟩
    rw [e]
    omega
  · rw [if_neg hab] at h ⊢
    rcases (mz_cm P Q R n a b).2 with z | ⟨h0, h1, h2⟩
    · exact absurd z.1 h
    · obtain ⟨hd, hw⟩ := mz_wk h1
      obtain ⟨X1, Y1, D1, m1, f1, e1⟩ := mz_strong hab hF h1 h2
      have p1 := mz_MPpos m1
      have w0 := hw X Y _ c.2
      have m0 := hmax X1 Y1 D1 ⟨m1, f1⟩
      rw [← e] at w0
      refine ⟨h0, hB, ?_, X1, Y1, D1, p1, f1, e1, fun X Y D _ hf => hw X Y D hf⟩
      generalize (mz_lk P Q R n a b).2.2 = B at *
      generalize (mz_lk P Q R n a b).2.1 = T at *
      generalize (mz_out P Q R a b n 0 (0, 0)).1 = t at *
      generalize (mz_out P Q R a b n 0 (0, 0)).2 = d at *
      have c1 := Int.mul_comm T d
      refine Int.le_antisymm ?_ (by omega)
      refine Int.le_of_mul_le_mul_left (a := D1) ?_ p1
      have x1 := Int.mul_le_mul_of_nonneg_left m0 (Int.le_of_lt h0)
      have x2 : D1 * (t * B) = (t * D1) * B := by rw [Int.mul_left_comm, ← Int.mul_assoc]
      have x3 : d * ((a * X1 + b * Y1) * B) = (d * (a * X1 + b * Y1)) * B := by rw [Int.mul_assoc]
      have x4 : D1 * (T * d) = d * (T * D1) := by rw [Int.mul_left_comm, Int.mul_comm D1 d, Int.mul_left_comm]
      rw [x2, ← e1, ← x3, x4]
      exact x1
/-- a row more: what the class looks at -/
theorem mz_add {P Q R : Nat → Int} {n : Nat} (hF : mz_Feas (mz_L P Q R n)) : mz_Feas (mz_L P Q R (n + 1)) ↔ ¬ ((mz_ca P Q R n (-P n) (-Q n)).2 ≠ 0 ∧ (mz_ca P Q R n (-P n) (-Q n)).1 < -R n * (mz_ca P Q R n (-P n) (-Q n)).2) := by
  have hsplit : ∀ X Y D, mz_ft (mz_L P Q R (n + 1)) X Y D ↔ mz_ft (mz_L P Q R n) X Y D ∧ P n * X + Q n * Y ≤ R n * D := by
    intro X Y D
    constructor
    · intro h
      refine ⟨fun p q r hm => ?_, h _ _ _ (mz_L_mem.mpr ⟨n, by omega, rfl, rfl, rfl⟩)⟩
      obtain ⟨l, hl, rfl, rfl, rfl⟩ := mz_L_mem.mp hm
      exact h _ _ _ (mz_L_mem.mpr ⟨l, by omega, rfl, rfl, rfl⟩)
    · rintro ⟨h1, h2⟩ p q r hm
      obtain ⟨l, hl, rfl, rfl, rfl⟩ := mz_L_mem.mp hm
      by_cases e : l = n
      · subst e; exact h2
      · exact h1 _ _ _ (mz_L_mem.mpr ⟨l, by omega, rfl, rfl, rfl⟩)
  have hng : ∀ X Y : Int, -P n * X + -Q n * Y = -(P n * X + Q n * Y) := fun X Y => by rw [Int.neg_mul, Int.neg_mul]; omega
  by_cases hz : (mz_ca P Q R n (-P n) (-Q n)).2 = 0
  · refine ⟨fun _ z => z.1 hz, fun _ => ?_⟩
    have hE := (mz_ca_end P Q R n (-P n) (-Q n)).mp hz
    obtain ⟨x, y, h1, h2⟩ : ∃ x y, mz_Wy (mz_L P Q R n) (-P n) (-Q n) x y := by
      rcases hE with z | ⟨p, q, r, -, z | z | z⟩
      · exact ⟨_, _, z⟩
      · exact ⟨_, _, z⟩
      · exact ⟨_, _, z⟩
      · exact ⟨_, _, z⟩
    obtain ⟨X, Y, D, hD, hf⟩ := hF
    rw [hng] at h1
    -- far enough along that way
    refine ⟨X + ((P n * X + Q n * Y - R n * D).natAbs : Int) * x, Y + ((P n * X + Q n * Y - R n * D).natAbs : Int) * y, D, hD, (hsplit _ _ _).mpr ⟨fun p q r hm => ?_, ?_⟩⟩
    · have k1 := hf p q r hm
      have k2 := h2 p q r hm
      rw [Int.mul_zero] at k2
      generalize hK : ((P n * X + Q n * Y - R n * D).natAbs : Int) = K
      have hK0 : 0 ≤ K := by omega
      have k3 := Int.mul_nonpos_of_nonneg_of_nonpos hK0 k2
      have e : p * (X + K * x) + q * (Y + K * y) = p * X + q * Y + K * (p * x + q * y) := by clear hK hK0 k1 k2 k3 h1 h2; grind
      omega
    · generalize hK : ((P n * X + Q n * Y - R n * D).natAbs : Int) = K
      have hK0 : 0 ≤ K := by omega
      have e : P n * (X + K * x) + Q n * (Y + K * y) = P n * X + Q n * Y + K * (P n * x + Q n * y) := by clear hK hK0 h1 h2; grind
      have k3 := Int.mul_le_mul_of_nonneg_left (show P n * x + Q n * y ≤ -1 by omega) hK0
      omega
  · obtain ⟨hd, -, -, X, Y, D, hD, hf, e, hw⟩ := mz_ca_eq hF hz
    generalize (mz_ca P Q R n (-P n) (-Q n)).2 = d at *
    generalize (mz_ca P Q R n (-P n) (-Q n)).1 = t at *
    constructor
    · rintro ⟨X1, Y1, D1, hD1, hf1⟩ ⟨-, h2⟩
      obtain ⟨g1, g2⟩ := (hsplit _ _ _).mp hf1
      have g3 := hw X1 Y1 D1 hD1 g1
      rw [hng] at g3
      have g4 := Int.mul_le_mul_of_nonneg_left g2 (Int.le_of_lt hd)
      have g5 := Int.mul_lt_mul_of_pos_right h2 hD1
      have e2 : -R n * d * D1 = -(d * (R n * D1)) := by clear hw e g1 g2 g3 g4 g5 h2; grind
      rw [Int.mul_neg] at g3
      omega
    · intro h
      have h' : ¬ t < -R n * d := fun z => h ⟨hz, z⟩
      refine ⟨X, Y, D, hD, (hsplit _ _ _).mpr ⟨hf, ?_⟩⟩
      refine Int.le_of_mul_le_mul_left (a := d) ?_ hd
      have g5 := Int.mul_le_mul_of_nonneg_right (show -R n * d ≤ t by omega) (Int.le_of_lt hD)
      have e2 : -R n * d * D = -(d * (R n * D)) := by clear hw e g5 h h'; grind
      rw [hng, Int.mul_neg] at e
      omega
end
section
/-! Worlds cut and joined again, in any place; contracts of one form -/
theorem wk_P {D : va_G} {cl : List vw_C} {ws : va_W} {H : Heap} : va_P D cl ws H ↔ ∀ q ∈ ws, va_at D cl q H :=
  ⟨fun h q hq => by obtain ⟨k, hk⟩ := List.mem_iff_getElem?.mp hq; exact h k q hk, fun h k q hk => h q (List.mem_of_getElem? hk)⟩
theorem wk_D {A : Nat → Prop} {ws : va_W} : va_D A ws ↔ ws.Pairwise (fun a b => a.1 ≠ b.1) ∧ ∀ q ∈ ws, A q.1 := by
  constructor
  · intro h
    refine ⟨List.pairwise_iff_getElem.mpr (fun i j hi hj hij e => ?_), fun q hq => ?_⟩
    · have := h.1 i j _ _ (List.getElem?_eq_getElem hi) (List.getElem?_eq_getElem hj) e
      omega
    · obtain ⟨k, hk⟩ := List.mem_iff_getElem?.mp hq
      exact h.2 k q hk
  · intro h
    refine ⟨fun i j p q hi hj e => ?_, fun k q hk => h.2 q (List.mem_of_getElem? hk)⟩
    obtain ⟨hi', rfl⟩ := List.getElem?_eq_some_iff.mp hi
    obtain ⟨hj', rfl⟩ := List.getElem?_eq_some_iff.mp hj
    have h1 := List.pairwise_iff_getElem.mp h.1
    rcases Nat.lt_trichotomy i j with z | z | z
    · exact absurd e (h1 i j hi' hj' z)
    · exact z
    · exact absurd e.symm (h1 j i hj' hi' z)
theorem wk_A {ws : va_W} {sz q : Nat} : va_A ws sz q ↔ (∃ x ∈ ws, x.1 = q) ∨ sz ≤ q := by
  constructor
  · rintro (⟨k, e, h⟩ | h)
    · exact Or.inl ⟨_, List.mem_of_getElem? h, rfl⟩
    · exact Or.inr h
  · rintro (⟨x, h, rfl⟩ | h)
    · obtain ⟨k, hk⟩ := List.mem_iff_getElem?.mp h
      exact Or.inl ⟨k, x.2, hk⟩
    · exact Or.inr h
theorem wk_cutP {D : va_G} {cl : List vw_C} {w1 wc w2 : va_W} {H : Heap} (h : va_P D cl (w1 ++ (wc ++ w2)) H) : va_P D cl wc H :=
  wk_P.mpr (fun q hq => wk_P.mp h q (List.mem_append_right _ (List.mem_append_left _ hq)))
theorem wk_cutD {A : Nat → Prop} {w1 wc w2 : va_W} (h : va_D A (w1 ++ (wc ++ w2))) : va_D A wc := by
  have h1 := wk_D.mp h
  refine wk_D.mpr ⟨?_, fun q hq => h1.2 q (List.mem_append_right _ (List.mem_append_left _ hq))⟩
  exact (List.pairwise_append.mp (List.pairwise_append.mp h1.1).2.1).1
theorem wk_free {A0 : Nat → Prop} {w1 wc w2 : va_W} {H0 H : Heap} {locs : List Loc} (hD : va_D A0 (w1 ++ (wc ++ w2))) (hS : va_S A0 H0 H locs) (hA : ∀ q, H0.size ≤ q → A0 q) : ∀ q, va_A wc H.size q → A0 q := by
  intro q h
  rcases wk_A.mp h with ⟨x, hx, rfl⟩ | h
  · exact (wk_D.mp hD).2 x (List.mem_append_right _ (List.mem_append_left _ hx))
  · exact hA q (Nat.le_trans hS.1 h)
theorem wk_join {A0 : Nat → Prop} {D : va_G} {cl : List vw_C} {w1 wc w2 wn : va_W} {H H1 : Heap} (hP : va_P D cl (w1 ++ (wc ++ w2)) H) (hD : va_D A0 (w1 ++ (wc ++ w2)))
    (hk : ∀ q : Nat, q < H.size → ¬ va_A wc H.size q → H1[q]? = H[q]?) (hF : ∀ q, va_A wc H.size q → A0 q) (hP1 : va_P D cl wn H1) (hD1 : va_D (va_A wc H.size) wn) : va_P D cl (w1 ++ (wn ++ w2)) H1 ∧ va_D A0 (w1 ++ (wn ++ w2)) := by
  have p0 := wk_P.mp hP
  have p1 := wk_P.mp hP1
  obtain ⟨d0, a0⟩ := wk_D.mp hD
  obtain ⟨d1, a1⟩ := wk_D.mp hD1
  obtain ⟨x1, x2, x3⟩ := List.pairwise_append.mp d0
  obtain ⟨y1, y2, y3⟩ := List.pairwise_append.mp x2
  have l1 : ∀ q ∈ w1, q.1 < H.size ∧ ¬ va_A wc H.size q.1 := by
    intro q hq
    have hl := (p0 q (List.mem_append_left _ hq)).lt
    refine ⟨hl, fun h => ?_⟩
    rcases wk_A.mp h with ⟨x, hx, e⟩ | h
    · exact x3 q hq x (List.mem_append_left _ hx) e.symm
    · omega
  have l2 : ∀ q ∈ w2, q.1 < H.size ∧ ¬ va_A wc H.size q.1 := by
    intro q hq
    have hl := (p0 q (List.mem_append_right _ (List.mem_append_right _ hq))).lt
    refine ⟨hl, fun h => ?_⟩
    rcases wk_A.mp h with ⟨x, hx, e⟩ | h
    · exact y3 x hx q hq e
    · omega
  constructor
  · refine wk_P.mpr (fun q hq => ?_)
    rcases List.mem_append.mp hq with h | h
    · exact (p0 q (List.mem_append_left _ h)).kept (hk q.1 (l1 q h).1 (l1 q h).2)
    · rcases List.mem_append.mp h with h | h
      · exact p1 q h
      · exact (p0 q (List.mem_append_right _ (List.mem_append_right _ h))).kept (hk q.1 (l2 q h).1 (l2 q h).2)
  · refine wk_D.mpr ⟨List.pairwise_append.mpr ⟨x1, List.pairwise_append.mpr ⟨d1, y2, fun a ha b hb e => ?_⟩, fun a ha b hb e => ?_⟩, fun q hq => ?_⟩
    · exact (l2 b hb).2 (by rw [← e]; exact a1 a ha)
    · rcases List.mem_append.mp hb with hb | hb
      · exact (l1 a ha).2 (by rw [e]; exact a1 b hb)
      · exact x3 a ha b (List.mem_append_right _ hb) e
    · rcases List.mem_append.mp hq with h | h
      · exact a0 q (List.mem_append_left _ h)
      · rcases List.mem_append.mp h with h | h
        · exact hF _ (a1 q h)
        · exact a0 q (List.mem_append_right _ (List.mem_append_right _ h))
/-- the same cells in another order -/
theorem wk_permP {D : va_G} {cl : List vw_C} {ws ws' : va_W} {H : Heap} (h : va_P D cl ws H) (hp : ws'.Perm ws) : va_P D cl ws' H := wk_P.mpr (fun q hq => wk_P.mp h q (hp.mem_iff.mp hq))
theorem wk_permD {A : Nat → Prop} {ws ws' : va_W} (h : va_D A ws) (hp : ws'.Perm ws) : va_D A ws' := by
  obtain ⟨h1, h2⟩ := wk_D.mp h
  exact wk_D.mpr ⟨hp.symm.pairwise h1 (fun z e => z e.symm), fun q hq => h2 q (hp.mem_iff.mp hq)⟩
/-- the words of nest mates -/
def wk_nest (w : Cond) : Prop := (∃ a i b n d h, w = Cond.fieldLinkNest a i b n d h) ∨ ∃ a i x h, w = Cond.methodLinkNest a i x h
def wk_Z (nz : List Cond) (U : State) : Prop := ∀ w ∈ nz, va_Nw w U
theorem wk_Z.warm {nz : List Cond} {s U : State} (hn : ∀ w ∈ nz, wk_nest w) (hW : s.WarmedH U.vm) (h : wk_Z nz s) : wk_Z nz U := by
  intro w hw
  have h1 := h w hw
  rcases hn w hw with ⟨a, i, b, n, d, x, rfl⟩ | ⟨a, i, x, y, rfl⟩
  · exact va_Nw.warmF hW h1
  · exact va_Nw.warmM hW h1
def wk_B (D : va_G) (cl : List vw_C) (tys : List (ClassId × FieldType)) (nz : List Cond) (w : va_W) (sz : Nat) (U : State) : Prop := U.heap.size = sz ∧ va_P D cl w U.heap ∧ va_K D cl tys U ∧ va_D (fun _ => True) w ∧ wk_Z nz U
def wk_E (D : va_G) (cl : List vw_C) (A : Nat → Prop) (u : va_W) (t : State) : Prop := va_P D cl u t.heap ∧ va_D A u
def wk_kv (l : Launch) (y : MethodName) (ws : List Cond) (rm : Room) (D : va_G) (cl : List vw_C) (tys : List (ClassId × FieldType)) (nz : List Cond) (av : List Value) (w : va_W) (Pw : va_W → Prop) : Prop :=
  ∀ sz, Met l y ws rm (va_Pc av (wk_B D cl tys nz w sz)) (va_Qv (fun u : va_W => Pw u) (wk_E D cl (va_A w sz)) (va_A w sz)) 0 0 (va_A w sz)
def wk_ki (l : Launch) (y : MethodName) (ws : List Cond) (rm : Room) (D : va_G) (cl : List vw_C) (tys : List (ClassId × FieldType)) (nz : List Cond) (av : List Value) (w : va_W) (Pw : va_W → Prop) (r : Int32) : Prop :=
  ∀ sz, Met l y ws rm (va_Pc av (wk_B D cl tys nz w sz)) (va_Qi (fun (x : Int32) (u : va_W) => x = r ∧ Pw u) (wk_E D cl (va_A w sz)) (va_A w sz)) 0 0 (va_A w sz)
def wk_kl (l : Launch) (y : MethodName) (ws : List Cond) (rm : Room) (D : va_G) (cl : List vw_C) (tys : List (ClassId × FieldType)) (nz : List Cond) (av : List Value) (w : va_W) (Pw : va_W → Prop) (r : Int64) : Prop :=
  ∀ sz, Met l y ws rm (va_Pc av (wk_B D cl tys nz w sz)) (va_Ql (fun (x : Int64) (u : va_W) => x = r ∧ Pw u) (wk_E D cl (va_A w sz)) (va_A w sz)) 0 0 (va_A w sz)
theorem wk_blind {D : va_G} {cl : List vw_C} {tys : List (ClassId × FieldType)} {nz : List Cond} {av : List Value} {w : va_W} {sz : Nat} (hn : ∀ w ∈ nz, wk_nest w) : FrameBlind (va_Pc av (wk_B D cl tys nz w sz)) := by
  intro a U g mk q
  obtain ⟨q0, q1, qP, qK, qD, qZ⟩ := q
  exact ⟨q0, q1, qP, va_K.moved (u := U) (U := U.calling g mk a) (Vm.Alike.refl U.vm) qK, qD, fun z hz => va_Nw.same (u := U) (U := U.calling g mk a) (by rcases hn z hz with ⟨_, _, _, _, _, _, rfl⟩ | ⟨_, _, _, _, rfl⟩ <;> rfl) rfl (qZ z hz)⟩
section WK
variable {p : Program} {l : Launch} {e : Env} {R : Room} {s : State} {m : MethodId} {args : Array Value} {below : List Frame} {meth : Method} {c : Code} {H H0 : Heap} {locs : List Loc} {cells slots : Nat} {Q : State → Prop}
variable {D : va_G} {cl : List vw_C} {tys : List (ClassId × FieldType)} {nz : List Cond} {A0 : Nat → Prop} {w1 wc w2 ws0 : va_W} {Pw : va_W → Prop} {cc : ByteArray} {pc : Nat} {ls : Array Slot} {rest st0 : List Value} {a : Array Value}
theorem wk_pre {av : List Value} (hn : ∀ w ∈ nz, wk_nest w) (hK : va_K D cl tys s) (hZ : wk_Z nz s) (hP : va_P D cl wc H) (hD : va_D A0 wc) : PreS s H (va_Pc av (wk_B D cl tys nz wc H.size)) av :=
  ⟨wk_blind hn, fun U hU hW => ⟨rfl, by rw [hU], by rw [hU]; exact hP, va_K.moved hW.alike hK, hD.weaken (fun _ _ _ _ => trivial), hZ.warm hn hW⟩⟩
theorem wk_preV {b : Nat} {As : List Value} {q0 ci : Nat} {q : vw_C} {fs : List Value} (hn : ∀ w ∈ nz, wk_nest w) (hK : va_K D cl tys s) (hZ : wk_Z nz s) (hP : va_P D cl wc H) (hD : va_D A0 wc) (hc : cl[ci]? = some q) (he : wc[q0]? = some (b, .inr (ci, fs))) : PreV s H q.1 b (va_Pc (.ref b :: As) (wk_B D cl tys nz wc H.size)) As :=
  ⟨wk_blind hn, va_recv hK hP hc he, (wk_pre hn hK hZ hP hD).2⟩
theorem wk_callv (hr : va_Run p l e R s m args below meth c H locs cells slots 0 0 (F0 m pc ls st0) rest (va_Qv (fun u : va_W => Pw u) (wk_E D cl (va_A wc H.size)) (va_A wc H.size) a) (va_A wc H.size)) (hw : ws0 = w1 ++ (wc ++ w2)) (hP : va_P D cl ws0 H) (hD : va_D A0 ws0) (hS : va_S A0 H0 H locs) (hA : ∀ q, H0.size ≤ q → A0 q)
    (kk : ∀ (H1 : Heap) (locs1 : List Loc) (wn : va_W), Pw wn → va_P D cl (w1 ++ (wn ++ w2)) H1 → va_D A0 (w1 ++ (wn ++ w2)) → va_S A0 H0 H1 locs1 → W p l e R s m args below meth c H1 locs1 cells slots Q (F0 m (pc + 3) ls rest)) : W p l e R s m args below meth c H locs cells slots Q (F0 m pc ls st0) := by
  subst hw
  have hF := wk_free hD hS hA
  refine va_callv hr hS (fun q _ h => hF q h) hF (fun u t H1 locs1 ht hvm h5 hB hz1 hk1 hS1 => ?_)
  obtain ⟨hP1, hD1⟩ := hB
  rw [ht] at hP1
  obtain ⟨hP2, hD2⟩ := wk_join hP hD hk1 hF hP1 hD1
  exact kk H1 locs1 u h5 hP2 hD2 hS1
theorem wk_calli {r : Int32} (hr : va_Run p l e R s m args below meth c H locs cells slots 0 0 (F0 m pc ls st0) rest (va_Qi (fun (x : Int32) (u : va_W) => x = r ∧ Pw u) (wk_E D cl (va_A wc H.size)) (va_A wc H.size) a) (va_A wc H.size)) (hw : ws0 = w1 ++ (wc ++ w2)) (hP : va_P D cl ws0 H) (hD : va_D A0 ws0) (hS : va_S A0 H0 H locs) (hA : ∀ q, H0.size ≤ q → A0 q)
    (kk : ∀ (H1 : Heap) (locs1 : List Loc) (wn : va_W), Pw wn → va_P D cl (w1 ++ (wn ++ w2)) H1 → va_D A0 (w1 ++ (wn ++ w2)) → va_S A0 H0 H1 locs1 → W p l e R s m args below meth c H1 locs1 cells slots Q (F0 m (pc + 3) ls (.int r :: rest))) : W p l e R s m args below meth c H locs cells slots Q (F0 m pc ls st0) := by
  subst hw
  have hF := wk_free hD hS hA
  refine va_calli hr hS (fun q _ h => hF q h) hF (fun r u t H1 locs1 ht hvm h5 hB hz1 hk1 hS1 => ?_)
  obtain ⟨rfl, h5⟩ := h5
  obtain ⟨hP1, hD1⟩ := hB
  rw [ht] at hP1
  obtain ⟨hP2, hD2⟩ := wk_join hP hD hk1 hF hP1 hD1
  exact kk H1 locs1 u h5 hP2 hD2 hS1
theorem wk_calll {r : Int64} (hr : va_Run p l e R s m args below meth c H locs cells slots 0 0 (F0 m pc ls st0) rest (va_Ql (fun (x : Int64) (u : va_W) => x = r ∧ Pw u) (wk_E D cl (va_A wc H.size)) (va_A wc H.size) a) (va_A wc H.size)) (hw : ws0 = w1 ++ (wc ++ w2)) (hP : va_P D cl ws0 H) (hD : va_D A0 ws0) (hS : va_S A0 H0 H locs) (hA : ∀ q, H0.size ≤ q → A0 q)
    (kk : ∀ (H1 : Heap) (locs1 : List Loc) (wn : va_W), Pw wn → va_P D cl (w1 ++ (wn ++ w2)) H1 → va_D A0 (w1 ++ (wn ++ w2)) → va_S A0 H0 H1 locs1 → W p l e R s m args below meth c H1 locs1 cells slots Q (F0 m (pc + 3) ls (.long r :: rest))) : W p l e R s m args below meth c H locs cells slots Q (F0 m pc ls st0) := by
  subst hw
  have hF := wk_free hD hS hA
  refine va_calll hr hS (fun q _ h => hF q h) hF (fun r u t H1 locs1 ht hvm h5 hB hz1 hk1 hS1 => ?_)
  obtain ⟨rfl, h5⟩ := h5
  obtain ⟨hP1, hD1⟩ := hB
  rw [ht] at hP1
  obtain ⟨hP2, hD2⟩ := wk_join hP hD hk1 hF hP1 hD1
  exact kk H1 locs1 u h5 hP2 hD2 hS1
/-! a comparison of longs and the branch behind it -/
theorem wl_eq (hx : p.tables.exec = Jvm.exec) (hb : c.code = cc) {x y : Int64} {off : Int} {tgt : Nat} (h1 : decode cc pc = .ok (.lcmp, 1)) (h2 : decode cc (pc + 1) = .ok (.ifCond .eq off, 3)) (ht : ((pc + 1 : Nat) : Int) + off = (tgt : Int))
    (kt : x = y → W p l e R s m args below meth c H locs cells slots Q (F0 m tgt ls rest)) (kf : ¬ x = y → W p l e R s m args below meth c H locs cells slots Q (F0 m (pc + 4) ls rest)) : W p l e R s m args below meth c H locs cells slots Q (F0 m pc ls (.long y :: .long x :: rest)) :=
  W.lcmp hx hb h1 (lv_if_eq hx hb h2 ht (fun h => kt ((lg_cmp_eq x y).mp h)) (fun h => kf (fun z => h ((lg_cmp_eq x y).mpr z))))
theorem wl_ne (hx : p.tables.exec = Jvm.exec) (hb : c.code = cc) {x y : Int64} {off : Int} {tgt : Nat} (h1 : decode cc pc = .ok (.lcmp, 1)) (h2 : decode cc (pc + 1) = .ok (.ifCond .ne off, 3)) (ht : ((pc + 1 : Nat) : Int) + off = (tgt : Int))
    (kt : ¬ x = y → W p l e R s m args below meth c H locs cells slots Q (F0 m tgt ls rest)) (kf : x = y → W p l e R s m args below meth c H locs cells slots Q (F0 m (pc + 4) ls rest)) : W p l e R s m args below meth c H locs cells slots Q (F0 m pc ls (.long y :: .long x :: rest)) :=
  W.lcmp hx hb h1 (lv_if_ne hx hb h2 ht (fun h => kt (fun z => h ((lg_cmp_eq x y).mpr z))) (fun h => kf ((lg_cmp_eq x y).mp h)))
theorem wl_lt (hx : p.tables.exec = Jvm.exec) (hb : c.code = cc) {x y : Int64} {off : Int} {tgt : Nat} (h1 : decode cc pc = .ok (.lcmp, 1)) (h2 : decode cc (pc + 1) = .ok (.ifCond .lt off, 3)) (ht : ((pc + 1 : Nat) : Int) + off = (tgt : Int))
    (kt : x < y → W p l e R s m args below meth c H locs cells slots Q (F0 m tgt ls rest)) (kf : ¬ x < y → W p l e R s m args below meth c H locs cells slots Q (F0 m (pc + 4) ls rest)) : W p l e R s m args below meth c H locs cells slots Q (F0 m pc ls (.long y :: .long x :: rest)) :=
  W.lcmp hx hb h1 (lv_if_lt hx hb h2 ht (fun h => kt ((lg_cmp_lt x y).mp h)) (fun h => kf (fun z => h ((lg_cmp_lt x y).mpr z))))
theorem wl_ge (hx : p.tables.exec = Jvm.exec) (hb : c.code = cc) {x y : Int64} {off : Int} {tgt : Nat} (h1 : decode cc pc = .ok (.lcmp, 1)) (h2 : decode cc (pc + 1) = .ok (.ifCond .ge off, 3)) (ht : ((pc + 1 : Nat) : Int) + off = (tgt : Int))
    (kt : ¬ x < y → W p l e R s m args below meth c H locs cells slots Q (F0 m tgt ls rest)) (kf : x < y → W p l e R s m args below meth c H locs cells slots Q (F0 m (pc + 4) ls rest)) : W p l e R s m args below meth c H locs cells slots Q (F0 m pc ls (.long y :: .long x :: rest)) :=
  W.lcmp hx hb h1 (lv_if_ge hx hb h2 ht (fun h => kt (Int64.not_lt.mpr ((lg_cmp_ge x y).mp h))) (fun h => kf (Int64.not_le.mp (fun z => h ((lg_cmp_ge x y).mpr z)))))
theorem wl_gt (hx : p.tables.exec = Jvm.exec) (hb : c.code = cc) {x y : Int64} {off : Int} {tgt : Nat} (h1 : decode cc pc = .ok (.lcmp, 1)) (h2 : decode cc (pc + 1) = .ok (.ifCond .gt off, 3)) (ht : ((pc + 1 : Nat) : Int) + off = (tgt : Int))
    (kt : y < x → W p l e R s m args below meth c H locs cells slots Q (F0 m tgt ls rest)) (kf : ¬ y < x → W p l e R s m args below meth c H locs cells slots Q (F0 m (pc + 4) ls rest)) : W p l e R s m args below meth c H locs cells slots Q (F0 m pc ls (.long y :: .long x :: rest)) :=
  W.lcmp hx hb h1 (lv_if_gt hx hb h2 ht (fun h => kt ((lg_cmp_gt x y).mp h)) (fun h => kf (fun z => h ((lg_cmp_gt x y).mpr z))))
theorem wl_le (hx : p.tables.exec = Jvm.exec) (hb : c.code = cc) {x y : Int64} {off : Int} {tgt : Nat} (h1 : decode cc pc = .ok (.lcmp, 1)) (h2 : decode cc (pc + 1) = .ok (.ifCond .le off, 3)) (ht : ((pc + 1 : Nat) : Int) + off = (tgt : Int))
    (kt : ¬ y < x → W p l e R s m args below meth c H locs cells slots Q (F0 m tgt ls rest)) (kf : y < x → W p l e R s m args below meth c H locs cells slots Q (F0 m (pc + 4) ls rest)) : W p l e R s m args below meth c H locs cells slots Q (F0 m pc ls (.long y :: .long x :: rest)) :=
  W.lcmp hx hb h1 (lv_if_le hx hb h2 ht (fun h => kt (Int64.not_lt.mpr ((lg_cmp_le x y).mp h))) (fun h => kf (Int64.not_le.mp (fun z => h ((lg_cmp_le x y).mpr z)))))
/-! arrays, at a place that is a known number -/
theorem wa_ild (hx : p.tables.exec = Jvm.exec) (hb : c.code = cc) (hK : va_K D cl tys s) (hP : va_P D cl ws0 H) (q0 t0 : Nat) {ad : Nat} {cA : ClassId} {n : Nat} {f : Nat → Int32} (ha : ws0[q0]? = some (ad, .inl (cA, n, .inl f))) (ht : tys[t0]? = some (cA, .int)) {i : Int32} (k : Nat) (hi : i = nI k) (hk : k < n) (hn : n < 2 ^ 31) (hdg : decode cc pc = .ok (.iaload, 1))
    (kk : W p l e R s m args below meth c H locs cells slots Q (F0 m (pc + 1) ls (.int (f k) :: rest))) : W p l e R s m args below meth c H locs cells slots Q (F0 m pc ls (.int i :: .ref ad :: rest)) := by
  subst hi
  refine va_iald hx hb hK hP q0 t0 ha ht (vp_in_nI hk hn) hdg ?_
  rw [nI_clamp (Nat.lt_trans hk hn)]
  exact kk
theorem wa_lld (hx : p.tables.exec = Jvm.exec) (hb : c.code = cc) (hK : va_K D cl tys s) (hP : va_P D cl ws0 H) (q0 t0 : Nat) {ad : Nat} {cA : ClassId} {n : Nat} {f : Nat → Int64} (ha : ws0[q0]? = some (ad, .inl (cA, n, .inr (.inl f)))) (ht : tys[t0]? = some (cA, .long)) {i : Int32} (k : Nat) (hi : i = nI k) (hk : k < n) (hn : n < 2 ^ 31) (hdg : decode cc pc = .ok (.laload, 1))
    (kk : W p l e R s m args below meth c H locs cells slots Q (F0 m (pc + 1) ls (.long (f k) :: rest))) : W p l e R s m args below meth c H locs cells slots Q (F0 m pc ls (.int i :: .ref ad :: rest)) := by
  subst hi
  refine va_lald hx hb hK hP q0 t0 ha ht (vp_in_nI hk hn) hdg ?_
  rw [nI_clamp (Nat.lt_trans hk hn)]
  exact kk
theorem wa_ald (hx : p.tables.exec = Jvm.exec) (hb : c.code = cc) (hK : va_K D cl tys s) (hP : va_P D cl ws0 H) (q0 t0 : Nat) {ad b : Nat} {cA : ClassId} {C : String} {n : Nat} {f : Nat → Option Nat} (ha : ws0[q0]? = some (ad, .inl (cA, n, .inr (.inr (.inr (.inr f)))))) (ht : tys[t0]? = some (cA, .object C)) {i : Int32} (k : Nat) (hi : i = nI k) (hk : k < n) (hn : n < 2 ^ 31) (hf : f k = some b) (hdg : decode cc pc = .ok (.aaload, 1))
    (kk : W p l e R s m args below meth c H locs cells slots Q (F0 m (pc + 1) ls (.ref b :: rest))) : W p l e R s m args below meth c H locs cells slots Q (F0 m pc ls (.int i :: .ref ad :: rest)) := by
  subst hi
  refine va_aldq hx hb hK hP q0 t0 ha ht (vp_in_nI hk hn) hdg ?_
  rw [nI_clamp (Nat.lt_trans hk hn), hf]
  exact kk
theorem wa_ist (hx : p.tables.exec = Jvm.exec) (hb : c.code = cc) (hK : va_K D cl tys s) (hP : va_P D cl ws0 H) (hD : va_D A0 ws0) (hS : va_S A0 H0 H locs) (q0 t0 : Nat) {ad : Nat} {cA : ClassId} {n : Nat} {f : Nat → Int32} (ha : ws0[q0]? = some (ad, .inl (cA, n, .inl f))) (ht : tys[t0]? = some (cA, .int)) {i x : Int32} (k : Nat) (hi : i = nI k) (hk : k < n) (hn : n < 2 ^ 31) (hdg : decode cc pc = .ok (.iastore, 1))
    (kk : ∀ (H1 : Heap) (locs1 : List Loc), va_P D cl (ws0.set q0 (ad, .inl (cA, n, .inl (upd f k x)))) H1 → va_D A0 (ws0.set q0 (ad, .inl (cA, n, .inl (upd f k x)))) → va_S A0 H0 H1 locs1 → W p l e R s m args below meth c H1 locs1 cells slots Q (F0 m (pc + 1) ls rest)) : W p l e R s m args below meth c H locs cells slots Q (F0 m pc ls (.int x :: .int i :: .ref ad :: rest)) := by
  subst hi
  refine va_iast hx hb hK hP hD hS q0 t0 ha ht (vp_in_nI hk hn) hdg ?_
  rw [nI_clamp (Nat.lt_trans hk hn)]
  exact kk
theorem wa_lst (hx : p.tables.exec = Jvm.exec) (hb : c.code = cc) (hK : va_K D cl tys s) (hP : va_P D cl ws0 H) (hD : va_D A0 ws0) (hS : va_S A0 H0 H locs) (q0 t0 : Nat) {ad : Nat} {cA : ClassId} {n : Nat} {f : Nat → Int64} (ha : ws0[q0]? = some (ad, .inl (cA, n, .inr (.inl f)))) (ht : tys[t0]? = some (cA, .long)) {i : Int32} {x : Int64} (k : Nat) (hi : i = nI k) (hk : k < n) (hn : n < 2 ^ 31) (hdg : decode cc pc = .ok (.lastore, 1))
    (kk : ∀ (H1 : Heap) (locs1 : List Loc), va_P D cl (ws0.set q0 (ad, .inl (cA, n, .inr (.inl (vp_updL f k x))))) H1 → va_D A0 (ws0.set q0 (ad, .inl (cA, n, .inr (.inl (vp_updL f k x))))) → va_S A0 H0 H1 locs1 → W p l e R s m args below meth c H1 locs1 cells slots Q (F0 m (pc + 1) ls rest)) : W p l e R s m args below meth c H locs cells slots Q (F0 m pc ls (.long x :: .int i :: .ref ad :: rest)) := by
  subst hi
  refine va_last hx hb hK hP hD hS q0 t0 ha ht (vp_in_nI hk hn) hdg ?_
  rw [nI_clamp (Nat.lt_trans hk hn)]
  exact kk
theorem wa_ast (hx : p.tables.exec = Jvm.exec) (hb : c.code = cc) (hK : va_K D cl tys s) (hP : va_P D cl ws0 H) (hD : va_D A0 ws0) (hS : va_S A0 H0 H locs) (q0 t0 qk ci : Nat) {ad v : Nat} {cA : ClassId} {r : vw_C} {n : Nat} {vs : List Value} {f : Nat → Option Nat} (ha : ws0[q0]? = some (ad, .inl (cA, n, .inr (.inr (.inr (.inr f)))))) (ht : tys[t0]? = some (cA, .object r.1)) (hv : ws0[qk]? = some (v, .inr (ci, vs))) (hc : cl[ci]? = some r) {i : Int32} (k : Nat) (hi : i = nI k) (hk : k < n) (hn : n < 2 ^ 31) (hdg : decode cc pc = .ok (.aastore, 1))
    (kk : ∀ (H1 : Heap) (locs1 : List Loc), va_P D cl (ws0.set q0 (ad, .inl (cA, n, .inr (.inr (.inr (.inr (va_up f k (some v)))))))) H1 → va_D A0 (ws0.set q0 (ad, .inl (cA, n, .inr (.inr (.inr (.inr (va_up f k (some v)))))))) → va_S A0 H0 H1 locs1 → W p l e R s m args below meth c H1 locs1 cells slots Q (F0 m (pc + 1) ls rest)) : W p l e R s m args below meth c H locs cells slots Q (F0 m pc ls (.ref v :: .int i :: .ref ad :: rest)) := by
  subst hi
  refine va_astq hx hb hK hP hD hS q0 t0 qk ci ha ht hv hc (vp_in_nI hk hn) hdg ?_
  rw [nI_clamp (Nat.lt_trans hk hn)]
  exact kk
end WK
/-! what stays the same from a method's beginning to its end -/
def wk_X (p : Program) (s : State) (m : MethodId) (args : Array Value) (meth : Method) (c : Code) (cc : ByteArray) (own : String) (nL : Nat) (Ts : List Cond) (D : va_G) (cl : List vw_C) (tys : List (ClassId × FieldType)) (nz : List Cond) (A : Nat → Prop) : Prop :=
  (p.tables.exec = Jvm.exec ∧ c.code = cc ∧ c.maxLocals = nL ∧ s.vm.findClass own = some m.cls ∧ ∀ w ∈ Ts, w.before args s = true) ∧ va_K D cl tys s ∧ wk_Z nz s ∧ (∀ q, s.heap.size ≤ q → A q) ∧ meth.locks = false
theorem wk_met {l : Launch} {y : MethodName} {ws' : List Cond} {rm : Room} {Pc : Array Value → State → Prop} {Qc : Array Value → State → Outcome → State → Prop} {mc ms : Nat} {free : Addr → Prop} {cc : ByteArray} {maxL : Nat} {ret : Option FieldType} (hy : plainFor y = true)
    (body : ∀ p e s m args below meth c s₁, BodyLoose p l y (headSpec (Cond.code y cc maxL ret :: ws') rm) cc maxL ret e s m args below meth c s₁ → c.maxLocals = maxL → Pc args s → W p l e rm s m args below meth c s.heap [] 0 0 (MQ below Qc args s mc ms free) (entryFrame m args maxL)) : Met l y (Cond.code y cc maxL ret :: ws') rm Pc Qc mc ms free := by
  refine MetFree.of_bodySF (code := cc) (maxLocals := maxL) (ret := ret) hy (fun args s m h hn => ?_) (fun p e s m args below meth c s₁ B hml hP _ => ?_)
  · have hc := atoms_spec (ws := Cond.code y cc maxL ret :: ws') h _ List.mem_cons_self
    obtain ⟨meth, c, h1, h2, h3, h4, h5, h6, -, -⟩ := Cond.code_spec hn hc
    exact ⟨meth, c, h1, h2, h3, h4, h5, h6⟩
  · have hh : s₁.heap = s.heap := by rw [B.state]; rfl
    obtain ⟨t, a1, o, b1, b2, b3⟩ := body p e s m args below meth c s₁ B hml hP s₁ hh (Stand.of_body B)
    exact ⟨t, o, a1, b1, b2, b3⟩
theorem wk_start {l : Launch} {y : MethodName} {ws' : List Cond} {rm : Room} {av : List Value} {w : va_W} {sz : Nat} {cc : ByteArray} {maxL mc ms : Nat} {ret : Option FieldType} {D : va_G} {cl : List vw_C} {tys : List (ClassId × FieldType)} {nz : List Cond} (QF : (Nat → Prop) → Array Value → State → Outcome → State → Prop) (hy : plainFor y = true) (hlen : (lg_sl av).length ≤ maxL)
    (body : ∀ (p : Program) (e : Env) (s : State) (m : MethodId) (below : List Frame) (meth : Method) (c : Code) (A : Nat → Prop) (ls : Array Slot), wk_X p s m av.toArray meth c cc y.cls maxL ws' D cl tys nz A → meth.sig.returnType = ret → meth.name = y.name → lv_has ls maxL (lv_args 0 av) → va_P D cl w s.heap → va_D A w → va_S A s.heap s.heap [] → W p l e rm s m av.toArray below meth c s.heap [] 0 0 (MQ below (QF A) av.toArray s mc ms A) (F0 m 0 ls [])) :
    Met l y (Cond.code y cc maxL ret :: ws') rm (va_Pc av (wk_B D cl tys nz w sz)) (QF (va_A w sz)) mc ms (va_A w sz) := by
  refine wk_met hy ?_
  intro p e s m args below meth c s₁ B hml hv
  obtain ⟨rfl, hsz, hP, hK, hD0, hZ⟩ := hv
  have hts := atoms_spec (ws := Cond.code y cc maxL ret :: ws') B.pre
  have hown := findClass_of_methodNamed B.named
  have hname := (name_of_methodNamed B.named B.method).1
  subst hsz
  have hD := hD0.self (sz := s.heap.size)
  have hl := lv_entry av (n := maxL) hlen
  rw [lg_entry_eq]
  exact body p e s m below meth c (va_A w s.heap.size) _ ⟨⟨B.exec, B.bytes, hml, hown, fun w hw => hts w (List.mem_cons_of_mem _ hw)⟩, hK, hZ, fun q h => Or.inr h, B.notSynchronized⟩ B.returns hname hl hP hD va_S.rf
section WE
variable {p : Program} {l : Launch} {e : Env} {R : Room} {s : State} {m : MethodId} {args : Array Value} {below : List Frame} {meth : Method} {c : Code} {H : Heap} {locs : List Loc} {cells slots mc ms : Nat} {Q : State → Prop}
variable {D : va_G} {cl : List vw_C} {tys : List (ClassId × FieldType)} {nz Ts : List Cond} {A : Nat → Prop} {w1 wc w2 ws0 : va_W} {Pw : va_W → Prop} {cc : ByteArray} {pc nL : Nat} {own : String} {ls : Array Slot} {rest st0 : List Value}
theorem we_i {v r : Int32} (X : wk_X p s m args meth c cc own nL Ts D cl tys nz A) (hr : meth.sig.returnType = some .int) (hP : va_P D cl ws0 H) (hD : va_D A ws0) (hS : va_S A s.heap H locs) (hdg : decode cc pc = .ok (.ireturn, 1)) (hc0 : cells ≤ mc) (hs0 : slots ≤ ms) (hv : v = r) (hu : Pw ws0) :
    W p l e R s m args below meth c H locs cells slots (MQ below (va_Qi (fun (x : Int32) (y : va_W) => x = r ∧ Pw y) (wk_E D cl A) A) args s mc ms A) (F0 m pc ls [.int v]) := by
  subst hv
  have hlocks := X.2.2.2.2
  exact W.widen (k := mc) (n := ms) hc0 hs0 (W.iret X.1.1 X.1.2.1 hr (fun t ht hW => ⟨⟨v, ws0, rfl, ⟨rfl, hu⟩, by rw [ht]; exact hP, hD⟩, hS.F ht⟩) hS.2.2 hdg hlocks)
theorem we_z {v r : Int32} (X : wk_X p s m args meth c cc own nL Ts D cl tys nz A) (hr : meth.sig.returnType = some .boolean) (hP : va_P D cl ws0 H) (hD : va_D A ws0) (hS : va_S A s.heap H locs) (hdg : decode cc pc = .ok (.ireturn, 1)) (hc0 : cells ≤ mc) (hs0 : slots ≤ ms) (hb : v = 0 ∨ v = 1) (hv : v = r) (hu : Pw ws0) :
    W p l e R s m args below meth c H locs cells slots (MQ below (va_Qi (fun (x : Int32) (y : va_W) => x = r ∧ Pw y) (wk_E D cl A) A) args s mc ms A) (F0 m pc ls [.int v]) := by
  subst hv
  have hlocks := X.2.2.2.2
  exact W.widen (k := mc) (n := ms) hc0 hs0 (W.zret X.1.1 X.1.2.1 hr (by rcases hb with rfl | rfl <;> rfl) (fun t ht hW => ⟨⟨v, ws0, rfl, ⟨rfl, hu⟩, by rw [ht]; exact hP, hD⟩, hS.F ht⟩) hS.2.2 hdg hlocks)
theorem we_l {v r : Int64} (X : wk_X p s m args meth c cc own nL Ts D cl tys nz A) (hr : meth.sig.returnType = some .long) (hP : va_P D cl ws0 H) (hD : va_D A ws0) (hS : va_S A s.heap H locs) (hdg : decode cc pc = .ok (.lreturn, 1)) (hc0 : cells ≤ mc) (hs0 : slots ≤ ms) (hv : v = r) (hu : Pw ws0) :
    W p l e R s m args below meth c H locs cells slots (MQ below (va_Ql (fun (x : Int64) (y : va_W) => x = r ∧ Pw y) (wk_E D cl A) A) args s mc ms A) (F0 m pc ls [.long v]) := by
  subst hv
  have hlocks := X.2.2.2.2
  exact W.widen (k := mc) (n := ms) hc0 hs0 (W.lret X.1.1 X.1.2.1 hr (fun t ht hW => ⟨⟨v, ws0, rfl, ⟨rfl, hu⟩, by rw [ht]; exact hP, hD⟩, hS.F ht⟩) hS.2.2 hdg hlocks)
theorem we_v (X : wk_X p s m args meth c cc own nL Ts D cl tys nz A) (hr : meth.sig.returnType = none) (hP : va_P D cl ws0 H) (hD : va_D A ws0) (hS : va_S A s.heap H locs) (hdg : decode cc pc = .ok (.return_, 1)) (hc0 : cells ≤ mc) (hs0 : slots ≤ ms) (hu : Pw ws0) :
    W p l e R s m args below meth c H locs cells slots (MQ below (va_Qv (fun (y : va_W) => Pw y) (wk_E D cl A) A) args s mc ms A) (F0 m pc ls []) := by
  have hlocks := X.2.2.2.2
  exact W.widen (k := mc) (n := ms) hc0 hs0 (W.vret X.1.1 X.1.2.1 hr (fun t ht hW => ⟨⟨ws0, rfl, hu, by rw [ht]; exact hP, hD⟩, hS.F ht⟩) hS.2.2 hdg hlocks)
theorem wc_Vv {y : MethodName} {bytes : ByteArray} {maxL n index : Nat} {ret : Option FieldType} {rm : Room} (As : List Value) {b : Nat} {q : vw_C} {fs : List Value} (ci q0 : Nat) (X : wk_X p s m args meth c cc own nL Ts D cl tys nz A) (hn : ∀ w ∈ nz, wk_nest w) (hM : wk_kv l y (Cond.code y bytes maxL ret :: Ts) rm D cl tys nz (.ref b :: As) wc Pw) (cw : CallW R s args own q.1 index y bytes maxL ret (Cond.code y bytes maxL ret :: Ts) rm 0 0 n) (w1 w2 : va_W) (hw : ws0 = w1 ++ (wc ++ w2)) (hP : va_P D cl ws0 H) (hD : va_D A ws0) (hS : va_S A s.heap H locs) (hc : cl[ci]? = some q) (he : wc[q0]? = some (b, .inr (ci, fs))) (hst : st0 = As.reverse ++ .ref b :: rest) (hlen : As.length = n) (hsize : ls.size = nL) (hroom : (rest.map fun v => v.category).sum ≤ 8) (hf : cells ≤ R.cells ∧ slots ≤ R.slots) (hdg : decode cc pc = .ok (.invokevirtual index, 3))
    (kk : ∀ (H1 : Heap) (locs1 : List Loc) (wn : va_W), Pw wn → va_P D cl (w1 ++ (wn ++ w2)) H1 → va_D A (w1 ++ (wn ++ w2)) → va_S A s.heap H1 locs1 → W p l e R s m args below meth c H1 locs1 cells slots Q (F0 m (pc + 3) ls rest)) : W p l e R s m args below meth c H locs cells slots Q (F0 m pc ls st0) := by
  subst hst
  have hP0 := hw ▸ hP
  have hD0 := hw ▸ hD
  exact wk_callv (va_runV (g := F0 m pc ls _) (As := As) (rest := rest) X.1 (hM H.size) cw (wk_preV hn X.2.1 X.2.2.1 (wk_cutP hP0) (wk_cutD hD0) hc he) rfl hlen hsize rfl (lv_room hroom) hdg hf) hw hP hD hS X.2.2.2.1 kk
theorem wc_Nv {y : MethodName} {bytes : ByteArray} {maxL n index : Nat} {ret : Option FieldType} {rm : Room} {host : String} (As : List Value) {b : Nat} {q : vw_C} {fs : List Value} (ci q0 : Nat) (X : wk_X p s m args meth c cc own nL Ts D cl tys nz A) (hn : ∀ w ∈ nz, wk_nest w) (hM : wk_kv l y (Cond.code y bytes maxL ret :: Ts) rm D cl tys nz (.ref b :: As) wc Pw) (cw : va_CN R s args own index y host bytes maxL ret (Cond.code y bytes maxL ret :: Ts) rm 0 0 n ∧ (Cond.instanceMethod y).before args s = true ∧ (Cond.selects q.1 y y).before args s = true) (w1 w2 : va_W) (hw : ws0 = w1 ++ (wc ++ w2)) (hP : va_P D cl ws0 H) (hD : va_D A ws0) (hS : va_S A s.heap H locs) (hc : cl[ci]? = some q) (he : wc[q0]? = some (b, .inr (ci, fs))) (hst : st0 = As.reverse ++ .ref b :: rest) (hlen : As.length = n) (hsize : ls.size = nL) (hroom : (rest.map fun v => v.category).sum ≤ 8) (hf : cells ≤ R.cells ∧ slots ≤ R.slots) (hdg : decode cc pc = .ok (.invokevirtual index, 3))
    (kk : ∀ (H1 : Heap) (locs1 : List Loc) (wn : va_W), Pw wn → va_P D cl (w1 ++ (wn ++ w2)) H1 → va_D A (w1 ++ (wn ++ w2)) → va_S A s.heap H1 locs1 → W p l e R s m args below meth c H1 locs1 cells slots Q (F0 m (pc + 3) ls rest)) : W p l e R s m args below meth c H locs cells slots Q (F0 m pc ls st0) := by
  subst hst
  have hP0 := hw ▸ hP
  have hD0 := hw ▸ hD
  exact wk_callv (va_runVN (g := F0 m pc ls _) (As := As) (rest := rest) X.1 (hM H.size) cw (wk_preV hn X.2.1 X.2.2.1 (wk_cutP hP0) (wk_cutD hD0) hc he) rfl hlen hsize rfl (lv_room hroom) hdg hf) hw hP hD hS X.2.2.2.1 kk
theorem wc_Sv {y : MethodName} {bytes : ByteArray} {maxL n index : Nat} {ret : Option FieldType} {rm : Room} (As : List Value) (X : wk_X p s m args meth c cc own nL Ts D cl tys nz A) (hn : ∀ w ∈ nz, wk_nest w) (hM : wk_kv l y (Cond.code y bytes maxL ret :: Ts) rm D cl tys nz As wc Pw) (cw : CallB R s args own index y bytes maxL ret (Cond.code y bytes maxL ret :: Ts) rm 0 0 n ∧ (Cond.static y).before args s = true) (w1 w2 : va_W) (hw : ws0 = w1 ++ (wc ++ w2)) (hP : va_P D cl ws0 H) (hD : va_D A ws0) (hS : va_S A s.heap H locs) (hst : st0 = As.reverse ++ rest) (hlen : As.length = n) (hsize : ls.size = nL) (hroom : (rest.map fun v => v.category).sum ≤ 8) (hf : cells ≤ R.cells ∧ slots ≤ R.slots) (hdg : decode cc pc = .ok (.invokestatic index, 3))
    (kk : ∀ (H1 : Heap) (locs1 : List Loc) (wn : va_W), Pw wn → va_P D cl (w1 ++ (wn ++ w2)) H1 → va_D A (w1 ++ (wn ++ w2)) → va_S A s.heap H1 locs1 → W p l e R s m args below meth c H1 locs1 cells slots Q (F0 m (pc + 3) ls rest)) : W p l e R s m args below meth c H locs cells slots Q (F0 m pc ls st0) := by
  subst hst
  have hP0 := hw ▸ hP
  have hD0 := hw ▸ hD
  exact wk_callv (va_runS (g := F0 m pc ls _) (As := As) (rest := rest) X.1 (hM H.size) cw (wk_pre hn X.2.1 X.2.2.1 (wk_cutP hP0) (wk_cutD hD0)) rfl hlen hsize rfl (lv_room hroom) hdg hf) hw hP hD hS X.2.2.2.1 kk
theorem wc_Tv {y : MethodName} {bytes : ByteArray} {maxL n index : Nat} {ret : Option FieldType} {rm : Room} {host : String} (As : List Value) (X : wk_X p s m args meth c cc own nL Ts D cl tys nz A) (hn : ∀ w ∈ nz, wk_nest w) (hM : wk_kv l y (Cond.code y bytes maxL ret :: Ts) rm D cl tys nz As wc Pw) (cw : va_CN R s args own index y host bytes maxL ret (Cond.code y bytes maxL ret :: Ts) rm 0 0 n ∧ (Cond.static y).before args s = true ∧ True) (w1 w2 : va_W) (hw : ws0 = w1 ++ (wc ++ w2)) (hP : va_P D cl ws0 H) (hD : va_D A ws0) (hS : va_S A s.heap H locs) (hst : st0 = As.reverse ++ rest) (hlen : As.length = n) (hsize : ls.size = nL) (hroom : (rest.map fun v => v.category).sum ≤ 8) (hf : cells ≤ R.cells ∧ slots ≤ R.slots) (hdg : decode cc pc = .ok (.invokestatic index, 3))
    (kk : ∀ (H1 : Heap) (locs1 : List Loc) (wn : va_W), Pw wn → va_P D cl (w1 ++ (wn ++ w2)) H1 → va_D A (w1 ++ (wn ++ w2)) → va_S A s.heap H1 locs1 → W p l e R s m args below meth c H1 locs1 cells slots Q (F0 m (pc + 3) ls rest)) : W p l e R s m args below meth c H locs cells slots Q (F0 m pc ls st0) := by
  subst hst
  have hP0 := hw ▸ hP
  have hD0 := hw ▸ hD
  exact wk_callv (va_runSN (g := F0 m pc ls _) (As := As) (rest := rest) X.1 (hM H.size) cw (wk_pre hn X.2.1 X.2.2.1 (wk_cutP hP0) (wk_cutD hD0)) rfl hlen hsize rfl (lv_room hroom) hdg hf) hw hP hD hS X.2.2.2.1 kk
theorem wc_Vi {y : MethodName} {bytes : ByteArray} {maxL n index : Nat} {ret : Option FieldType} {rm : Room} {r : Int32} (As : List Value) {b : Nat} {q : vw_C} {fs : List Value} (ci q0 : Nat) (X : wk_X p s m args meth c cc own nL Ts D cl tys nz A) (hn : ∀ w ∈ nz, wk_nest w) (hM : wk_ki l y (Cond.code y bytes maxL ret :: Ts) rm D cl tys nz (.ref b :: As) wc Pw r) (cw : CallW R s args own q.1 index y bytes maxL ret (Cond.code y bytes maxL ret :: Ts) rm 0 0 n) (w1 w2 : va_W) (hw : ws0 = w1 ++ (wc ++ w2)) (hP : va_P D cl ws0 H) (hD : va_D A ws0) (hS : va_S A s.heap H locs) (hc : cl[ci]? = some q) (he : wc[q0]? = some (b, .inr (ci, fs))) (hst : st0 = As.reverse ++ .ref b :: rest) (hlen : As.length = n) (hsize : ls.size = nL) (hroom : (rest.map fun v => v.category).sum ≤ 8) (hf : cells ≤ R.cells ∧ slots ≤ R.slots) (hdg : decode cc pc = .ok (.invokevirtual index, 3))
    (kk : ∀ (H1 : Heap) (locs1 : List Loc) (wn : va_W), Pw wn → va_P D cl (w1 ++ (wn ++ w2)) H1 → va_D A (w1 ++ (wn ++ w2)) → va_S A s.heap H1 locs1 → W p l e R s m args below meth c H1 locs1 cells slots Q (F0 m (pc + 3) ls (.int r :: rest))) : W p l e R s m args below meth c H locs cells slots Q (F0 m pc ls st0) := by
  subst hst
  have hP0 := hw ▸ hP
  have hD0 := hw ▸ hD
  exact wk_calli (va_runV (g := F0 m pc ls _) (As := As) (rest := rest) X.1 (hM H.size) cw (wk_preV hn X.2.1 X.2.2.1 (wk_cutP hP0) (wk_cutD hD0) hc he) rfl hlen hsize rfl (lv_room hroom) hdg hf) hw hP hD hS X.2.2.2.1 kk
theorem wc_Ni {y : MethodName} {bytes : ByteArray} {maxL n index : Nat} {ret : Option FieldType} {rm : Room} {host : String} {r : Int32} (As : List Value) {b : Nat} {q : vw_C} {fs : List Value} (ci q0 : Nat) (X : wk_X p s m args meth c cc own nL Ts D cl tys nz A) (hn : ∀ w ∈ nz, wk_nest w) (hM : wk_ki l y (Cond.code y bytes maxL ret :: Ts) rm D cl tys nz (.ref b :: As) wc Pw r) (cw : va_CN R s args own index y host bytes maxL ret (Cond.code y bytes maxL ret :: Ts) rm 0 0 n ∧ (Cond.instanceMethod y).before args s = true ∧ (Cond.selects q.1 y y).before args s = true) (w1 w2 : va_W) (hw : ws0 = w1 ++ (wc ++ w2)) (hP : va_P D cl ws0 H) (hD : va_D A ws0) (hS : va_S A s.heap H locs) (hc : cl[ci]? = some q) (he : wc[q0]? = some (b, .inr (ci, fs))) (hst : st0 = As.reverse ++ .ref b :: rest) (hlen : As.length = n) (hsize : ls.size = nL) (hroom : (rest.map fun v => v.category).sum ≤ 8) (hf : cells ≤ R.cells ∧ slots ≤ R.slots) (hdg : decode cc pc = .ok (.invokevirtual index, 3))
    (kk : ∀ (H1 : Heap) (locs1 : List Loc) (wn : va_W), Pw wn → va_P D cl (w1 ++ (wn ++ w2)) H1 → va_D A (w1 ++ (wn ++ w2)) → va_S A s.heap H1 locs1 → W p l e R s m args below meth c H1 locs1 cells slots Q (F0 m (pc + 3) ls (.int r :: rest))) : W p l e R s m args below meth c H locs cells slots Q (F0 m pc ls st0) := by
  subst hst
  have hP0 := hw ▸ hP
  have hD0 := hw ▸ hD
  exact wk_calli (va_runVN (g := F0 m pc ls _) (As := As) (rest := rest) X.1 (hM H.size) cw (wk_preV hn X.2.1 X.2.2.1 (wk_cutP hP0) (wk_cutD hD0) hc he) rfl hlen hsize rfl (lv_room hroom) hdg hf) hw hP hD hS X.2.2.2.1 kk
theorem wc_Si {y : MethodName} {bytes : ByteArray} {maxL n index : Nat} {ret : Option FieldType} {rm : Room} {r : Int32} (As : List Value) (X : wk_X p s m args meth c cc own nL Ts D cl tys nz A) (hn : ∀ w ∈ nz, wk_nest w) (hM : wk_ki l y (Cond.code y bytes maxL ret :: Ts) rm D cl tys nz As wc Pw r) (cw : CallB R s args own index y bytes maxL ret (Cond.code y bytes maxL ret :: Ts) rm 0 0 n ∧ (Cond.static y).before args s = true) (w1 w2 : va_W) (hw : ws0 = w1 ++ (wc ++ w2)) (hP : va_P D cl ws0 H) (hD : va_D A ws0) (hS : va_S A s.heap H locs) (hst : st0 = As.reverse ++ rest) (hlen : As.length = n) (hsize : ls.size = nL) (hroom : (rest.map fun v => v.category).sum ≤ 8) (hf : cells ≤ R.cells ∧ slots ≤ R.slots) (hdg : decode cc pc = .ok (.invokestatic index, 3))
    (kk : ∀ (H1 : Heap) (locs1 : List Loc) (wn : va_W), Pw wn → va_P D cl (w1 ++ (wn ++ w2)) H1 → va_D A (w1 ++ (wn ++ w2)) → va_S A s.heap H1 locs1 → W p l e R s m args below meth c H1 locs1 cells slots Q (F0 m (pc + 3) ls (.int r :: rest))) : W p l e R s m args below meth c H locs cells slots Q (F0 m pc ls st0) := by
  subst hst
  have hP0 := hw ▸ hP
  have hD0 := hw ▸ hD
  exact wk_calli (va_runS (g := F0 m pc ls _) (As := As) (rest := rest) X.1 (hM H.size) cw (wk_pre hn X.2.1 X.2.2.1 (wk_cutP hP0) (wk_cutD hD0)) rfl hlen hsize rfl (lv_room hroom) hdg hf) hw hP hD hS X.2.2.2.1 kk
theorem wc_Ti {y : MethodName} {bytes : ByteArray} {maxL n index : Nat} {ret : Option FieldType} {rm : Room} {host : String} {r : Int32} (As : List Value) (X : wk_X p s m args meth c cc own nL Ts D cl tys nz A) (hn : ∀ w ∈ nz, wk_nest w) (hM : wk_ki l y (Cond.code y bytes maxL ret :: Ts) rm D cl tys nz As wc Pw r) (cw : va_CN R s args own index y host bytes maxL ret (Cond.code y bytes maxL ret :: Ts) rm 0 0 n ∧ (Cond.static y).before args s = true ∧ True) (w1 w2 : va_W) (hw : ws0 = w1 ++ (wc ++ w2)) (hP : va_P D cl ws0 H) (hD : va_D A ws0) (hS : va_S A s.heap H locs) (hst : st0 = As.reverse ++ rest) (hlen : As.length = n) (hsize : ls.size = nL) (hroom : (rest.map fun v => v.category).sum ≤ 8) (hf : cells ≤ R.cells ∧ slots ≤ R.slots) (hdg : decode cc pc = .ok (.invokestatic index, 3))
    (kk : ∀ (H1 : Heap) (locs1 : List Loc) (wn : va_W), Pw wn → va_P D cl (w1 ++ (wn ++ w2)) H1 → va_D A (w1 ++ (wn ++ w2)) → va_S A s.heap H1 locs1 → W p l e R s m args below meth c H1 locs1 cells slots Q (F0 m (pc + 3) ls (.int r :: rest))) : W p l e R s m args below meth c H locs cells slots Q (F0 m pc ls st0) := by
  subst hst
  have hP0 := hw ▸ hP
  have hD0 := hw ▸ hD
  exact wk_calli (va_runSN (g := F0 m pc ls _) (As := As) (rest := rest) X.1 (hM H.size) cw (wk_pre hn X.2.1 X.2.2.1 (wk_cutP hP0) (wk_cutD hD0)) rfl hlen hsize rfl (lv_room hroom) hdg hf) hw hP hD hS X.2.2.2.1 kk
theorem wc_Vl {y : MethodName} {bytes : ByteArray} {maxL n index : Nat} {ret : Option FieldType} {rm : Room} {r : Int64} (As : List Value) {b : Nat} {q : vw_C} {fs : List Value} (ci q0 : Nat) (X : wk_X p s m args meth c cc own nL Ts D cl tys nz A) (hn : ∀ w ∈ nz, wk_nest w) (hM : wk_kl l y (Cond.code y bytes maxL ret :: Ts) rm D cl tys nz (.ref b :: As) wc Pw r) (cw : CallW R s args own q.1 index y bytes maxL ret (Cond.code y bytes maxL ret :: Ts) rm 0 0 n) (w1 w2 : va_W) (hw : ws0 = w1 ++ (wc ++ w2)) (hP : va_P D cl ws0 H) (hD : va_D A ws0) (hS : va_S A s.heap H locs) (hc : cl[ci]? = some q) (he : wc[q0]? = some (b, .inr (ci, fs))) (hst : st0 = As.reverse ++ .ref b :: rest) (hlen : As.length = n) (hsize : ls.size = nL) (hroom : (rest.map fun v => v.category).sum ≤ 8) (hf : cells ≤ R.cells ∧ slots ≤ R.slots) (hdg : decode cc pc = .ok (.invokevirtual index, 3))
    (kk : ∀ (H1 : Heap) (locs1 : List Loc) (wn : va_W), Pw wn → va_P D cl (w1 ++ (wn ++ w2)) H1 → va_D A (w1 ++ (wn ++ w2)) → va_S A s.heap H1 locs1 → W p l e R s m args below meth c H1 locs1 cells slots Q (F0 m (pc + 3) ls (.long r :: rest))) : W p l e R s m args below meth c H locs cells slots Q (F0 m pc ls st0) := by
  subst hst
  have hP0 := hw ▸ hP
  have hD0 := hw ▸ hD
  exact wk_calll (va_runV (g := F0 m pc ls _) (As := As) (rest := rest) X.1 (hM H.size) cw (wk_preV hn X.2.1 X.2.2.1 (wk_cutP hP0) (wk_cutD hD0) hc he) rfl hlen hsize rfl (lv_room hroom) hdg hf) hw hP hD hS X.2.2.2.1 kk
theorem wc_Nl {y : MethodName} {bytes : ByteArray} {maxL n index : Nat} {ret : Option FieldType} {rm : Room} {host : String} {r : Int64} (As : List Value) {b : Nat} {q : vw_C} {fs : List Value} (ci q0 : Nat) (X : wk_X p s m args meth c cc own nL Ts D cl tys nz A) (hn : ∀ w ∈ nz, wk_nest w) (hM : wk_kl l y (Cond.code y bytes maxL ret :: Ts) rm D cl tys nz (.ref b :: As) wc Pw r) (cw : va_CN R s args own index y host bytes maxL ret (Cond.code y bytes maxL ret :: Ts) rm 0 0 n ∧ (Cond.instanceMethod y).before args s = true ∧ (Cond.selects q.1 y y).before args s = true) (w1 w2 : va_W) (hw : ws0 = w1 ++ (wc ++ w2)) (hP : va_P D cl ws0 H) (hD : va_D A ws0) (hS : va_S A s.heap H locs) (hc : cl[ci]? = some q) (he : wc[q0]? = some (b, .inr (ci, fs))) (hst : st0 = As.reverse ++ .ref b :: rest) (hlen : As.length = n) (hsize : ls.size = nL) (hroom : (rest.map fun v => v.category).sum ≤ 8) (hf : cells ≤ R.cells ∧ slots ≤ R.slots) (hdg : decode cc pc = .ok (.invokevirtual index, 3))
    (kk : ∀ (H1 : Heap) (locs1 : List Loc) (wn : va_W), Pw wn → va_P D cl (w1 ++ (wn ++ w2)) H1 → va_D A (w1 ++ (wn ++ w2)) → va_S A s.heap H1 locs1 → W p l e R s m args below meth c H1 locs1 cells slots Q (F0 m (pc + 3) ls (.long r :: rest))) : W p l e R s m args below meth c H locs cells slots Q (F0 m pc ls st0) := by
  subst hst
  have hP0 := hw ▸ hP
  have hD0 := hw ▸ hD
  exact wk_calll (va_runVN (g := F0 m pc ls _) (As := As) (rest := rest) X.1 (hM H.size) cw (wk_preV hn X.2.1 X.2.2.1 (wk_cutP hP0) (wk_cutD hD0) hc he) rfl hlen hsize rfl (lv_room hroom) hdg hf) hw hP hD hS X.2.2.2.1 kk
theorem wc_Sl {y : MethodName} {bytes : ByteArray} {maxL n index : Nat} {ret : Option FieldType} {rm : Room} {r : Int64} (As : List Value) (X : wk_X p s m args meth c cc own nL Ts D cl tys nz A) (hn : ∀ w ∈ nz, wk_nest w) (hM : wk_kl l y (Cond.code y bytes maxL ret :: Ts) rm D cl tys nz As wc Pw r) (cw : CallB R s args own index y bytes maxL ret (Cond.code y bytes maxL ret :: Ts) rm 0 0 n ∧ (Cond.static y).before args s = true) (w1 w2 : va_W) (hw : ws0 = w1 ++ (wc ++ w2)) (hP : va_P D cl ws0 H) (hD : va_D A ws0) (hS : va_S A s.heap H locs) (hst : st0 = As.reverse ++ rest) (hlen : As.length = n) (hsize : ls.size = nL) (hroom : (rest.map fun v => v.category).sum ≤ 8) (hf : cells ≤ R.cells ∧ slots ≤ R.slots) (hdg : decode cc pc = .ok (.invokestatic index, 3))
    (kk : ∀ (H1 : Heap) (locs1 : List Loc) (wn : va_W), Pw wn → va_P D cl (w1 ++ (wn ++ w2)) H1 → va_D A (w1 ++ (wn ++ w2)) → va_S A s.heap H1 locs1 → W p l e R s m args below meth c H1 locs1 cells slots Q (F0 m (pc + 3) ls (.long r :: rest))) : W p l e R s m args below meth c H locs cells slots Q (F0 m pc ls st0) := by
  subst hst
  have hP0 := hw ▸ hP
  have hD0 := hw ▸ hD
  exact wk_calll (va_runS (g := F0 m pc ls _) (As := As) (rest := rest) X.1 (hM H.size) cw (wk_pre hn X.2.1 X.2.2.1 (wk_cutP hP0) (wk_cutD hD0)) rfl hlen hsize rfl (lv_room hroom) hdg hf) hw hP hD hS X.2.2.2.1 kk
theorem wc_Tl {y : MethodName} {bytes : ByteArray} {maxL n index : Nat} {ret : Option FieldType} {rm : Room} {host : String} {r : Int64} (As : List Value) (X : wk_X p s m args meth c cc own nL Ts D cl tys nz A) (hn : ∀ w ∈ nz, wk_nest w) (hM : wk_kl l y (Cond.code y bytes maxL ret :: Ts) rm D cl tys nz As wc Pw r) (cw : va_CN R s args own index y host bytes maxL ret (Cond.code y bytes maxL ret :: Ts) rm 0 0 n ∧ (Cond.static y).before args s = true ∧ True) (w1 w2 : va_W) (hw : ws0 = w1 ++ (wc ++ w2)) (hP : va_P D cl ws0 H) (hD : va_D A ws0) (hS : va_S A s.heap H locs) (hst : st0 = As.reverse ++ rest) (hlen : As.length = n) (hsize : ls.size = nL) (hroom : (rest.map fun v => v.category).sum ≤ 8) (hf : cells ≤ R.cells ∧ slots ≤ R.slots) (hdg : decode cc pc = .ok (.invokestatic index, 3))
    (kk : ∀ (H1 : Heap) (locs1 : List Loc) (wn : va_W), Pw wn → va_P D cl (w1 ++ (wn ++ w2)) H1 → va_D A (w1 ++ (wn ++ w2)) → va_S A s.heap H1 locs1 → W p l e R s m args below meth c H1 locs1 cells slots Q (F0 m (pc + 3) ls (.long r :: rest))) : W p l e R s m args below meth c H locs cells slots Q (F0 m pc ls st0) := by
  subst hst
  have hP0 := hw ▸ hP
  have hD0 := hw ▸ hD
  exact wk_calll (va_runSN (g := F0 m pc ls _) (As := As) (rest := rest) X.1 (hM H.size) cw (wk_pre hn X.2.1 X.2.2.1 (wk_cutP hP0) (wk_cutD hD0)) rfl hlen hsize rfl (lv_room hroom) hdg hf) hw hP hD hS X.2.2.2.1 kk
end WE
/-! a contract's beginning, its ends as a hypothesis -/
section WS
variable {l : Launch} {y : MethodName} {ws' : List Cond} {rm : Room} {av : List Value} {w : va_W} {Pw : va_W → Prop} {cc : ByteArray} {maxL : Nat} {D : va_G} {cl : List vw_C} {tys : List (ClassId × FieldType)} {nz : List Cond}
theorem ws_v (hy : plainFor y = true) (hlen : (lg_sl av).length ≤ maxL)
    (body : ∀ (p : Program) (e : Env) (s : State) (m : MethodId) (below : List Frame) (meth : Method) (c : Code) (A : Nat → Prop) (ls : Array Slot) (Q : State → Prop), wk_X p s m av.toArray meth c cc y.cls maxL ws' D cl tys nz A →
      (∀ (pc : Nat) (H : Heap) (locs : List Loc) (ls : Array Slot) (ws0 : va_W), va_P D cl ws0 H → va_D A ws0 → va_S A s.heap H locs → decode cc pc = .ok (.return_, 1) → Pw ws0 → W p l e rm s m av.toArray below meth c H locs 0 0 Q (F0 m pc ls [])) →
      lv_has ls maxL (lv_args 0 av) → va_P D cl w s.heap → va_D A w → va_S A s.heap s.heap [] → W p l e rm s m av.toArray below meth c s.heap [] 0 0 Q (F0 m 0 ls [])) :
    wk_kv l y (Cond.code y cc maxL none :: ws') rm D cl tys nz av w Pw := by
  intro sz
  refine wk_start (fun A => va_Qv (fun u : va_W => Pw u) (wk_E D cl A) A) hy hlen ?_
  intro p e s m below meth c A ls X hr hname hl hP hD hS
  exact body p e s m below meth c A ls _ X (fun pc H locs ls ws0 hP hD hS hd hu => we_v X hr hP hD hS hd (Nat.le_refl _) (Nat.le_refl _) hu) hl hP hD hS
theorem ws_i {r : Int32} (hy : plainFor y = true) (hlen : (lg_sl av).length ≤ maxL)
    (body : ∀ (p : Program) (e : Env) (s : State) (m : MethodId) (below : List Frame) (meth : Method) (c : Code) (A : Nat → Prop) (ls : Array Slot) (Q : State → Prop), wk_X p s m av.toArray meth c cc y.cls maxL ws' D cl tys nz A →
      (∀ (pc : Nat) (H : Heap) (locs : List Loc) (ls : Array Slot) (ws0 : va_W) (v : Int32), va_P D cl ws0 H → va_D A ws0 → va_S A s.heap H locs → decode cc pc = .ok (.ireturn, 1) → v = r → Pw ws0 → W p l e rm s m av.toArray below meth c H locs 0 0 Q (F0 m pc ls [.int v])) →
      lv_has ls maxL (lv_args 0 av) → va_P D cl w s.heap → va_D A w → va_S A s.heap s.heap [] → W p l e rm s m av.toArray below meth c s.heap [] 0 0 Q (F0 m 0 ls [])) :
    wk_ki l y (Cond.code y cc maxL (some .int) :: ws') rm D cl tys nz av w Pw r := by
  intro sz
  refine wk_start (fun A => va_Qi (fun (x : Int32) (u : va_W) => x = r ∧ Pw u) (wk_E D cl A) A) hy hlen ?_
  intro p e s m below meth c A ls X hr hname hl hP hD hS
  exact body p e s m below meth c A ls _ X (fun pc H locs ls ws0 v hP hD hS hd hv hu => we_i X hr hP hD hS hd (Nat.le_refl _) (Nat.le_refl _) hv hu) hl hP hD hS
theorem ws_z {r : Int32} (hy : plainFor y = true) (hlen : (lg_sl av).length ≤ maxL)
    (body : ∀ (p : Program) (e : Env) (s : State) (m : MethodId) (below : List Frame) (meth : Method) (c : Code) (A : Nat → Prop) (ls : Array Slot) (Q : State → Prop), wk_X p s m av.toArray meth c cc y.cls maxL ws' D cl tys nz A →
      (∀ (pc : Nat) (H : Heap) (locs : List Loc) (ls : Array Slot) (ws0 : va_W) (v : Int32), va_P D cl ws0 H → va_D A ws0 → va_S A s.heap H locs → decode cc pc = .ok (.ireturn, 1) → (v = 0 ∨ v = 1) → v = r → Pw ws0 → W p l e rm s m av.toArray below meth c H locs 0 0 Q (F0 m pc ls [.int v])) →
      lv_has ls maxL (lv_args 0 av) → va_P D cl w s.heap → va_D A w → va_S A s.heap s.heap [] → W p l e rm s m av.toArray below meth c s.heap [] 0 0 Q (F0 m 0 ls [])) :
    wk_ki l y (Cond.code y cc maxL (some .boolean) :: ws') rm D cl tys nz av w Pw r := by
  intro sz
  refine wk_start (fun A => va_Qi (fun (x : Int32) (u : va_W) => x = r ∧ Pw u) (wk_E D cl A) A) hy hlen ?_
  intro p e s m below meth c A ls X hr hname hl hP hD hS
  exact body p e s m below meth c A ls _ X (fun pc H locs ls ws0 v hP hD hS hd hz hv hu => we_z X hr hP hD hS hd (Nat.le_refl _) (Nat.le_refl _) hz hv hu) hl hP hD hS
theorem ws_l {r : Int64} (hy : plainFor y = true) (hlen : (lg_sl av).length ≤ maxL)
    (body : ∀ (p : Program) (e : Env) (s : State) (m : MethodId) (below : List Frame) (meth : Method) (c : Code) (A : Nat → Prop) (ls : Array Slot) (Q : State → Prop), wk_X p s m av.toArray meth c cc y.cls maxL ws' D cl tys nz A →
      (∀ (pc : Nat) (H : Heap) (locs : List Loc) (ls : Array Slot) (ws0 : va_W) (v : Int64), va_P D cl ws0 H → va_D A ws0 → va_S A s.heap H locs → decode cc pc = .ok (.lreturn, 1) → v = r → Pw ws0 → W p l e rm s m av.toArray below meth c H locs 0 0 Q (F0 m pc ls [.long v])) →
      lv_has ls maxL (lv_args 0 av) → va_P D cl w s.heap → va_D A w → va_S A s.heap s.heap [] → W p l e rm s m av.toArray below meth c s.heap [] 0 0 Q (F0 m 0 ls [])) :
    wk_kl l y (Cond.code y cc maxL (some .long) :: ws') rm D cl tys nz av w Pw r := by
  intro sz
  refine wk_start (fun A => va_Ql (fun (x : Int64) (u : va_W) => x = r ∧ Pw u) (wk_E D cl A) A) hy hlen ?_
  intro p e s m below meth c A ls X hr hname hl hP hD hS
  exact body p e s m below meth c A ls _ X (fun pc H locs ls ws0 v hP hD hS hd hv hu => we_l X hr hP hD hS hd (Nat.le_refl _) (Nat.le_refl _) hv hu) hl hP hD hS
end WS
/-! numbers that are no less than 0 and small -/
theorem wn_0 {a : Nat} (h : a < 2 ^ 31) : nI a = 0 ↔ a = 0 := by rw [← nI_0, nI_eq h (by decide)]
section WN
variable {p : Program} {l : Launch} {e : Env} {R : Room} {s : State} {m : MethodId} {args : Array Value} {below : List Frame} {meth : Method} {c : Code} {H : Heap} {locs : List Loc} {cells slots : Nat} {Q : State → Prop}
variable {cc : ByteArray} {pc : Nat} {ls : Array Slot} {rest : List Value}
theorem wn_top {x : Int32} {k : Nat} (h : x = nI k) (kk : W p l e R s m args below meth c H locs cells slots Q (F0 m pc ls (.int (nI k) :: rest))) : W p l e R s m args below meth c H locs cells slots Q (F0 m pc ls (.int x :: rest)) := by
  rw [h]; exact kk
theorem wn_add {a b : Nat} (hx : p.tables.exec = Jvm.exec) (hb : c.code = cc) (hdg : decode cc pc = .ok (.iadd, 1)) (k : W p l e R s m args below meth c H locs cells slots Q (F0 m (pc + 1) ls (.int (nI (a + b)) :: rest))) : W p l e R s m args below meth c H locs cells slots Q (F0 m pc ls (.int (nI b) :: .int (nI a) :: rest)) :=
  lv_iadd hx hb hdg (by rw [nI_add]; exact k)
theorem wn_mul {a b : Nat} (hx : p.tables.exec = Jvm.exec) (hb : c.code = cc) (hdg : decode cc pc = .ok (.imul, 1)) (k : W p l e R s m args below meth c H locs cells slots Q (F0 m (pc + 1) ls (.int (nI (a * b)) :: rest))) : W p l e R s m args below meth c H locs cells slots Q (F0 m pc ls (.int (nI b) :: .int (nI a) :: rest)) :=
  lv_imul hx hb hdg (by rw [pk_mul]; exact k)
theorem wn_sub {a b : Nat} (hx : p.tables.exec = Jvm.exec) (hb : c.code = cc) (hdg : decode cc pc = .ok (.isub, 1)) (h : b ≤ a) (k : W p l e R s m args below meth c H locs cells slots Q (F0 m (pc + 1) ls (.int (nI (a - b)) :: rest))) : W p l e R s m args below meth c H locs cells slots Q (F0 m pc ls (.int (nI b) :: .int (nI a) :: rest)) :=
  lv_isub hx hb hdg (by rw [pk_sub h]; exact k)
theorem wn_eq {a b : Nat} (hx : p.tables.exec = Jvm.exec) (hb : c.code = cc) {off : Int} {tgt : Nat} (hdg : decode cc pc = .ok (.if_icmp .eq off, 3)) (ht : (pc : Int) + off = (tgt : Int)) (ba : a < 2 ^ 31) (bb : b < 2 ^ 31)
    (kt : a = b → W p l e R s m args below meth c H locs cells slots Q (F0 m tgt ls rest)) (kf : ¬ a = b → W p l e R s m args below meth c H locs cells slots Q (F0 m (pc + 3) ls rest)) : W p l e R s m args below meth c H locs cells slots Q (F0 m pc ls (.int (nI b) :: .int (nI a) :: rest)) :=
  lv_icmp_eq hx hb hdg ht (fun h => kt ((nI_eq ba bb).mp h)) (fun h => kf (fun z => h ((nI_eq ba bb).mpr z)))
theorem wn_ne {a b : Nat} (hx : p.tables.exec = Jvm.exec) (hb : c.code = cc) {off : Int} {tgt : Nat} (hdg : decode cc pc = .ok (.if_icmp .ne off, 3)) (ht : (pc : Int) + off = (tgt : Int)) (ba : a < 2 ^ 31) (bb : b < 2 ^ 31)
    (kt : ¬ a = b → W p l e R s m args below meth c H locs cells slots Q (F0 m tgt ls rest)) (kf : a = b → W p l e R s m args below meth c H locs cells slots Q (F0 m (pc + 3) ls rest)) : W p l e R s m args below meth c H locs cells slots Q (F0 m pc ls (.int (nI b) :: .int (nI a) :: rest)) :=
  lv_icmp_ne hx hb hdg ht (fun h => kt (fun z => h ((nI_eq ba bb).mpr z))) (fun h => kf ((nI_eq ba bb).mp h))
theorem wn_lt {a b : Nat} (hx : p.tables.exec = Jvm.exec) (hb : c.code = cc) {off : Int} {tgt : Nat} (hdg : decode cc pc = .ok (.if_icmp .lt off, 3)) (ht : (pc : Int) + off = (tgt : Int)) (ba : a < 2 ^ 31) (bb : b < 2 ^ 31)
    (kt : a < b → W p l e R s m args below meth c H locs cells slots Q (F0 m tgt ls rest)) (kf : ¬ a < b → W p l e R s m args below meth c H locs cells slots Q (F0 m (pc + 3) ls rest)) : W p l e R s m args below meth c H locs cells slots Q (F0 m pc ls (.int (nI b) :: .int (nI a) :: rest)) :=
  lv_icmp_lt hx hb hdg ht (fun h => kt ((nI_ltI ba bb).mp h)) (fun h => kf (fun z => h ((nI_ltI ba bb).mpr z)))
theorem wn_ge {a b : Nat} (hx : p.tables.exec = Jvm.exec) (hb : c.code = cc) {off : Int} {tgt : Nat} (hdg : decode cc pc = .ok (.if_icmp .ge off, 3)) (ht : (pc : Int) + off = (tgt : Int)) (ba : a < 2 ^ 31) (bb : b < 2 ^ 31)
    (kt : ¬ a < b → W p l e R s m args below meth c H locs cells slots Q (F0 m tgt ls rest)) (kf : a < b → W p l e R s m args below meth c H locs cells slots Q (F0 m (pc + 3) ls rest)) : W p l e R s m args below meth c H locs cells slots Q (F0 m pc ls (.int (nI b) :: .int (nI a) :: rest)) :=
  lv_icmp_ge hx hb hdg ht (fun h => kt (Nat.not_lt.mpr ((nI_leI bb ba).mp h))) (fun h => kf (Nat.lt_of_not_le (fun z => h ((nI_leI bb ba).mpr z))))
theorem wn_gt {a b : Nat} (hx : p.tables.exec = Jvm.exec) (hb : c.code = cc) {off : Int} {tgt : Nat} (hdg : decode cc pc = .ok (.if_icmp .gt off, 3)) (ht : (pc : Int) + off = (tgt : Int)) (ba : a < 2 ^ 31) (bb : b < 2 ^ 31)
    (kt : b < a → W p l e R s m args below meth c H locs cells slots Q (F0 m tgt ls rest)) (kf : ¬ b < a → W p l e R s m args below meth c H locs cells slots Q (F0 m (pc + 3) ls rest)) : W p l e R s m args below meth c H locs cells slots Q (F0 m pc ls (.int (nI b) :: .int (nI a) :: rest)) :=
  lv_icmp_gt hx hb hdg ht (fun h => kt ((nI_ltI bb ba).mp h)) (fun h => kf (fun z => h ((nI_ltI bb ba).mpr z)))
theorem wn_le {a b : Nat} (hx : p.tables.exec = Jvm.exec) (hb : c.code = cc) {off : Int} {tgt : Nat} (hdg : decode cc pc = .ok (.if_icmp .le off, 3)) (ht : (pc : Int) + off = (tgt : Int)) (ba : a < 2 ^ 31) (bb : b < 2 ^ 31)
    (kt : ¬ b < a → W p l e R s m args below meth c H locs cells slots Q (F0 m tgt ls rest)) (kf : b < a → W p l e R s m args below meth c H locs cells slots Q (F0 m (pc + 3) ls rest)) : W p l e R s m args below meth c H locs cells slots Q (F0 m pc ls (.int (nI b) :: .int (nI a) :: rest)) :=
  lv_icmp_le hx hb hdg ht (fun h => kt (Nat.not_lt.mpr ((nI_leI ba bb).mp h))) (fun h => kf (Nat.lt_of_not_le (fun z => h ((nI_leI ba bb).mpr z))))
theorem wn_if_eq {a : Nat} (hx : p.tables.exec = Jvm.exec) (hb : c.code = cc) {off : Int} {tgt : Nat} (hdg : decode cc pc = .ok (.ifCond .eq off, 3)) (ht : (pc : Int) + off = (tgt : Int)) (ba : a < 2 ^ 31)
    (kt : a = 0 → W p l e R s m args below meth c H locs cells slots Q (F0 m tgt ls rest)) (kf : ¬ a = 0 → W p l e R s m args below meth c H locs cells slots Q (F0 m (pc + 3) ls rest)) : W p l e R s m args below meth c H locs cells slots Q (F0 m pc ls (.int (nI a) :: rest)) :=
  lv_if_eq hx hb hdg ht (fun h => kt ((wn_0 ba).mp h)) (fun h => kf (fun z => h ((wn_0 ba).mpr z)))
theorem wn_if_ne {a : Nat} (hx : p.tables.exec = Jvm.exec) (hb : c.code = cc) {off : Int} {tgt : Nat} (hdg : decode cc pc = .ok (.ifCond .ne off, 3)) (ht : (pc : Int) + off = (tgt : Int)) (ba : a < 2 ^ 31)
    (kt : ¬ a = 0 → W p l e R s m args below meth c H locs cells slots Q (F0 m tgt ls rest)) (kf : a = 0 → W p l e R s m args below meth c H locs cells slots Q (F0 m (pc + 3) ls rest)) : W p l e R s m args below meth c H locs cells slots Q (F0 m pc ls (.int (nI a) :: rest)) :=
  lv_if_ne hx hb hdg ht (fun h => kt (fun z => h ((wn_0 ba).mpr z))) (fun h => kf ((wn_0 ba).mp h))
theorem wn_if_gt {a : Nat} (hx : p.tables.exec = Jvm.exec) (hb : c.code = cc) {off : Int} {tgt : Nat} (hdg : decode cc pc = .ok (.ifCond .gt off, 3)) (ht : (pc : Int) + off = (tgt : Int)) (ba : a < 2 ^ 31)
    (kt : ¬ a = 0 → W p l e R s m args below meth c H locs cells slots Q (F0 m tgt ls rest)) (kf : a = 0 → W p l e R s m args below meth c H locs cells slots Q (F0 m (pc + 3) ls rest)) : W p l e R s m args below meth c H locs cells slots Q (F0 m pc ls (.int (nI a) :: rest)) :=
  lv_if_gt hx hb hdg ht (fun h => kt (fun z => by subst z; exact absurd h (by decide))) (fun h => kf (Classical.byContradiction fun z => h (nI_lt (a := 0) (by omega) ba)))
theorem wn_if_le {a : Nat} (hx : p.tables.exec = Jvm.exec) (hb : c.code = cc) {off : Int} {tgt : Nat} (hdg : decode cc pc = .ok (.ifCond .le off, 3)) (ht : (pc : Int) + off = (tgt : Int)) (ba : a < 2 ^ 31)
    (kt : a = 0 → W p l e R s m args below meth c H locs cells slots Q (F0 m tgt ls rest)) (kf : ¬ a = 0 → W p l e R s m args below meth c H locs cells slots Q (F0 m (pc + 3) ls rest)) : W p l e R s m args below meth c H locs cells slots Q (F0 m pc ls (.int (nI a) :: rest)) :=
  lv_if_le hx hb hdg ht (fun h => kt (Classical.byContradiction fun z => nI_nle (by omega) ba h)) (fun h => kf (fun z => h (by subst z; decide)))
end WN
end
section
/-! Names: classes, fields, methods; the words of the tables that the methods need, one list for all of them -/
def R_Guard : String := "LoopRanker$Guard"
def F_Guard : u_T := fun k => match k with
  | 0 => ("LoopRanker$Guard", "p", "[I", true)
  | 1 => ("LoopRanker$Guard", "q", "[I", true)
  | 2 => ("LoopRanker$Guard", "\x72", "[I", true)
  | 3 => ("LoopRanker$Guard", "size", "I", false)
  | 4 => ("LoopRanker$Guard", "empty", "Z", false)
  | 5 => ("LoopRanker$Guard", "top", "J", false)
  | _ => ("LoopRanker$Guard", "bottom", "J", false)
def t_Guard : Nat → FieldType := fun k => match k with
  | 0 => .array .int
  | 1 => .array .int
  | 2 => .array .int
  | 3 => .int
  | 4 => .boolean
  | 5 => .long
  | _ => .long
theorem n_Guard : ∀ a, a < 7 → ∀ b, b < 7 → a ≠ b → (F_Guard a).2.1 ≠ (F_Guard b).2.1 := by decide +kernel
theorem t_Guard_ok : ∀ k, k < 7 → parseFieldDescriptor (F_Guard k).2.2.1 = some (t_Guard k) := by decide +kernel
def R_Step : String := "LoopRanker$Step"
def F_Step : u_T := fun k => match k with
  | 0 => ("LoopRanker$Step", "guard", "LLoopRanker$Guard;", true)
  | 1 => ("LoopRanker$Step", "rule", "[I", true)
  | 2 => ("LoopRanker$Step", "kinds", "[I", true)
  | _ => ("LoopRanker$Step", "kindsFresh", "Z", false)
def t_Step : Nat → FieldType := fun k => match k with
  | 0 => .object "LoopRanker$Guard"
  | 1 => .array .int
  | 2 => .array .int
  | _ => .boolean
theorem n_Step : ∀ a, a < 4 → ∀ b, b < 4 → a ≠ b → (F_Step a).2.1 ≠ (F_Step b).2.1 := by decide +kernel
theorem t_Step_ok : ∀ k, k < 4 → parseFieldDescriptor (F_Step k).2.2.1 = some (t_Step k) := by decide +kernel
def R_Proof : String := "LoopRanker$Proof"
def F_Proof : u_T := fun k => match k with
  | 0 => ("LoopRanker$Proof", "us", "[I", true)
  | 1 => ("LoopRanker$Proof", "vs", "[I", true)
  | 2 => ("LoopRanker$Proof", "levelU", "[I", true)
  | 3 => ("LoopRanker$Proof", "levelV", "[I", true)
  | 4 => ("LoopRanker$Proof", "levelFloor", "[J", true)
  | 5 => ("LoopRanker$Proof", "levelOfStep", "[I", true)
  | 6 => ("LoopRanker$Proof", "levelCount", "I", false)
  | 7 => ("LoopRanker$Proof", "leftCount", "I", false)
  | _ => ("LoopRanker$Proof", "fresh", "Z", false)
def t_Proof : Nat → FieldType := fun k => match k with
  | 0 => .array .int
  | 1 => .array .int
  | 2 => .array .int
  | 3 => .array .int
  | 4 => .array .long
  | 5 => .array .int
  | 6 => .int
  | 7 => .int
  | _ => .boolean
theorem n_Proof : ∀ a, a < 9 → ∀ b, b < 9 → a ≠ b → (F_Proof a).2.1 ≠ (F_Proof b).2.1 := by decide +kernel
theorem t_Proof_ok : ∀ k, k < 9 → parseFieldDescriptor (F_Proof k).2.2.1 = some (t_Proof k) := by decide +kernel
def R_LoopRanker : String := "LoopRanker"
def F_LoopRanker : u_T := fun k => match k with
  | 0 => ("LoopRanker", "steps", "[LLoopRanker$Step;", true)
  | 1 => ("LoopRanker", "proof", "LLoopRanker$Proof;", true)
  | 2 => ("LoopRanker", "stepCount", "I", false)
  | 3 => ("LoopRanker", "x", "J", false)
  | 4 => ("LoopRanker", "y", "J", false)
  | _ => ("LoopRanker", "firedCount", "I", false)
def t_LoopRanker : Nat → FieldType := fun k => match k with
  | 0 => .array (.object "LoopRanker$Step")
  | 1 => .object "LoopRanker$Proof"
  | 2 => .int
  | 3 => .long
  | 4 => .long
  | _ => .int
theorem n_LoopRanker : ∀ a, a < 6 → ∀ b, b < 6 → a ≠ b → (F_LoopRanker a).2.1 ≠ (F_LoopRanker b).2.1 := by decide +kernel
theorem t_LoopRanker_ok : ∀ k, k < 6 → parseFieldDescriptor (F_LoopRanker k).2.2.1 = some (t_LoopRanker k) := by decide +kernel
def R_LoopRankerModel : String := "LoopRankerModel"
def F_LoopRankerModel : u_T := fun k => match k with
  | 0 => ("LoopRankerModel", "count", "I", false)
  | 1 => ("LoopRankerModel", "many", "[I", true)
  | 2 => ("LoopRankerModel", "p", "[I", true)
  | 3 => ("LoopRankerModel", "q", "[I", true)
  | 4 => ("LoopRankerModel", "\x72", "[I", true)
  | 5 => ("LoopRankerModel", "update", "[I", true)
  | 6 => ("LoopRankerModel", "some", "Z", false)
  | 7 => ("LoopRankerModel", "top", "J", false)
  | 8 => ("LoopRankerModel", "bottom", "J", false)
  | 9 => ("LoopRankerModel", "levels", "I", false)
  | 10 => ("LoopRankerModel", "ofLevel", "[I", true)
  | 11 => ("LoopRankerModel", "first", "[I", true)
  | 12 => ("LoopRankerModel", "second", "[I", true)
  | 13 => ("LoopRankerModel", "x", "J", false)
  | 14 => ("LoopRankerModel", "y", "J", false)
  | _ => ("LoopRankerModel", "fired", "I", false)
def t_LoopRankerModel : Nat → FieldType := fun k => match k with
  | 0 => .int
  | 1 => .array .int
  | 2 => .array .int
  | 3 => .array .int
  | 4 => .array .int
  | 5 => .array .int
  | 6 => .boolean
  | 7 => .long
  | 8 => .long
  | 9 => .int
  | 10 => .array .int
  | 11 => .array .int
  | 12 => .array .int
  | 13 => .long
  | 14 => .long
  | _ => .int
theorem n_LoopRankerModel : ∀ a, a < 16 → ∀ b, b < 16 → a ≠ b → (F_LoopRankerModel a).2.1 ≠ (F_LoopRankerModel b).2.1 := by decide +kernel
theorem t_LoopRankerModel_ok : ∀ k, k < 16 → parseFieldDescriptor (F_LoopRankerModel k).2.2.1 = some (t_LoopRankerModel k) := by decide +kernel
abbrev cls : List vw_C := [(R_Guard, F_Guard, 7), (R_Step, F_Step, 4), (R_Proof, F_Proof, 9), (R_LoopRanker, F_LoopRanker, 6), (R_LoopRankerModel, F_LoopRankerModel, 16)]
abbrev kT (cI cJ cS : ClassId) : List (ClassId × FieldType) := [(cI, .int), (cJ, .long), (cS, .object "LoopRanker$Step")]
def bw_0 : List Cond := [(Jvm.Cond.initialized "LoopRankerLaw"), (Jvm.Cond.initialized "LoopRanker"), (Jvm.Cond.initialized "LoopRanker$Step"), (Jvm.Cond.initialized "LoopRanker$Guard"), (Jvm.Cond.initialized "LoopRanker$Proof"), (Jvm.Cond.initialized "java/lang/Math"), (Jvm.Cond.initialized "LoopRankerModel"), (Jvm.Cond.classLink "LoopRankerLaw" (7 : Nat) "LoopRanker"), (Jvm.Cond.instantiable "LoopRanker" (6 : Nat)), (Jvm.Cond.methodLink "LoopRankerLaw" (9 : Nat) ({ cls := "LoopRanker", name := "<init>", desc := "()V" } : Jvm.MethodName)), (Jvm.Cond.instanceMethod ({ cls := "LoopRanker", name := "<init>", desc := "()V" } : Jvm.MethodName)), (Jvm.Cond.code ({ cls := "LoopRanker", name := "<init>", desc := "()V" } : Jvm.MethodName) prog_1_method_1_code (2 : Nat) (Option.none : Option Jvm.ClassFile.FieldType)), (Jvm.Cond.methodLink "LoopRanker" (1 : Nat) ({ cls := "java/lang/Object", name := "<init>", desc := "()V" } : Jvm.MethodName)), (Jvm.Cond.instanceMethod ({ cls := "java/lang/Object", name := "<init>", desc := "()V" } : Jvm.MethodName)), (Jvm.Cond.code ({ cls := "java/lang/Object", name := "<init>", desc := "()V" } : Jvm.MethodName) object_method_1_code (1 : Nat) (Option.none : Option Jvm.ClassFile.FieldType)), (Jvm.Cond.classLink "LoopRanker" (9 : Nat) "LoopRanker$Step"), (Jvm.Cond.instantiable "LoopRanker$Step" (4 : Nat)), (Jvm.Cond.instanceMethod ({ cls := "LoopRanker$Step", name := "<init>", desc := "()V" } : Jvm.MethodName)), (Jvm.Cond.code ({ cls := "LoopRanker$Step", name := "<init>", desc := "()V" } : Jvm.MethodName) prog_4_method_1_code (1 : Nat) (Option.none : Option Jvm.ClassFile.FieldType)), (Jvm.Cond.methodLink "LoopRanker$Step" (3 : Nat) ({ cls := "java/lang/Object", name := "<init>", desc := "()V" } : Jvm.MethodName))]
theorem bw_0_ok : bw_0.all goodWord = true := by decide +kernel
def bw_1 : List Cond := [(Jvm.Cond.classLink "LoopRanker$Step" (9 : Nat) "LoopRanker$Guard"), (Jvm.Cond.instantiable "LoopRanker$Guard" (7 : Nat)), (Jvm.Cond.instanceMethod ({ cls := "LoopRanker$Guard", name := "<init>", desc := "()V" } : Jvm.MethodName)), (Jvm.Cond.code ({ cls := "LoopRanker$Guard", name := "<init>", desc := "()V" } : Jvm.MethodName) prog_2_method_1_code (1 : Nat) (Option.none : Option Jvm.ClassFile.FieldType)), (Jvm.Cond.methodLink "LoopRanker$Guard" (3 : Nat) ({ cls := "java/lang/Object", name := "<init>", desc := "()V" } : Jvm.MethodName)), (Jvm.Cond.methodLink "LoopRanker$Guard" (21 : Nat) ({ cls := "LoopRanker$Guard", name := "clear", desc := "()V" } : Jvm.MethodName)), (Jvm.Cond.instanceMethod ({ cls := "LoopRanker$Guard", name := "clear", desc := "()V" } : Jvm.MethodName)), (Jvm.Cond.code ({ cls := "LoopRanker$Guard", name := "clear", desc := "()V" } : Jvm.MethodName) prog_2_method_2_code (1 : Nat) (Option.none : Option Jvm.ClassFile.FieldType)), (Jvm.Cond.fieldLink "LoopRanker$Guard" (9 : Nat) "LoopRanker$Guard" "p" "[I"), (Jvm.Cond.fieldLink "LoopRanker$Guard" (15 : Nat) "LoopRanker$Guard" "q" "[I"), (Jvm.Cond.fieldLink "LoopRanker$Guard" (18 : Nat) "LoopRanker$Guard" "\x72" "[I"), (Jvm.Cond.fieldLink "LoopRanker$Guard" (24 : Nat) "LoopRanker$Guard" "size" "I"), (Jvm.Cond.fieldLink "LoopRanker$Guard" (28 : Nat) "LoopRanker$Guard" "empty" "Z"), (Jvm.Cond.fieldLink "LoopRanker$Guard" (32 : Nat) "LoopRanker$Guard" "top" "J"), (Jvm.Cond.fieldLink "LoopRanker$Guard" (36 : Nat) "LoopRanker$Guard" "bottom" "J"), (Jvm.Cond.laysFinal "LoopRanker$Guard" "LoopRanker$Guard" "p" "[I"), (Jvm.Cond.soleField "LoopRanker$Guard" "p"), (Jvm.Cond.laysFinal "LoopRanker$Guard" "LoopRanker$Guard" "q" "[I"), (Jvm.Cond.soleField "LoopRanker$Guard" "q"), (Jvm.Cond.laysFinal "LoopRanker$Guard" "LoopRanker$Guard" "\x72" "[I")]
theorem bw_1_ok : bw_1.all goodWord = true := by decide +kernel
def bw_2 : List Cond := [(Jvm.Cond.soleField "LoopRanker$Guard" "\x72"), (Jvm.Cond.lays "LoopRanker$Guard" "LoopRanker$Guard" "size" "I"), (Jvm.Cond.soleField "LoopRanker$Guard" "size"), (Jvm.Cond.lays "LoopRanker$Guard" "LoopRanker$Guard" "empty" "Z"), (Jvm.Cond.soleField "LoopRanker$Guard" "empty"), (Jvm.Cond.lays "LoopRanker$Guard" "LoopRanker$Guard" "top" "J"), (Jvm.Cond.soleField "LoopRanker$Guard" "top"), (Jvm.Cond.lays "LoopRanker$Guard" "LoopRanker$Guard" "bottom" "J"), (Jvm.Cond.soleField "LoopRanker$Guard" "bottom"), (Jvm.Cond.superclass "LoopRanker$Guard" "java/lang/Object"), (Jvm.Cond.arrayClass Jvm.ClassFile.FieldType.int), (Jvm.Cond.fieldLink "LoopRanker$Step" (12 : Nat) "LoopRanker$Step" "guard" "LLoopRanker$Guard;"), (Jvm.Cond.fieldLink "LoopRanker$Step" (18 : Nat) "LoopRanker$Step" "rule" "[I"), (Jvm.Cond.fieldLink "LoopRanker$Step" (22 : Nat) "LoopRanker$Step" "kinds" "[I"), (Jvm.Cond.fieldLink "LoopRanker$Step" (25 : Nat) "LoopRanker$Step" "kindsFresh" "Z"), (Jvm.Cond.laysFinal "LoopRanker$Step" "LoopRanker$Step" "guard" "LLoopRanker$Guard;"), (Jvm.Cond.soleField "LoopRanker$Step" "guard"), (Jvm.Cond.laysFinal "LoopRanker$Step" "LoopRanker$Step" "rule" "[I"), (Jvm.Cond.soleField "LoopRanker$Step" "rule"), (Jvm.Cond.laysFinal "LoopRanker$Step" "LoopRanker$Step" "kinds" "[I")]
theorem bw_2_ok : bw_2.all goodWord = true := by decide +kernel
def bw_3 : List Cond := [(Jvm.Cond.soleField "LoopRanker$Step" "kinds"), (Jvm.Cond.lays "LoopRanker$Step" "LoopRanker$Step" "kindsFresh" "Z"), (Jvm.Cond.soleField "LoopRanker$Step" "kindsFresh"), (Jvm.Cond.superclass "LoopRanker$Step" "java/lang/Object"), (Jvm.Cond.classLink "LoopRanker" (16 : Nat) "LoopRanker$Proof"), (Jvm.Cond.instantiable "LoopRanker$Proof" (9 : Nat)), (Jvm.Cond.instanceMethod ({ cls := "LoopRanker$Proof", name := "<init>", desc := "()V" } : Jvm.MethodName)), (Jvm.Cond.code ({ cls := "LoopRanker$Proof", name := "<init>", desc := "()V" } : Jvm.MethodName) prog_3_method_1_code (1 : Nat) (Option.none : Option Jvm.ClassFile.FieldType)), (Jvm.Cond.methodLink "LoopRanker$Proof" (3 : Nat) ({ cls := "java/lang/Object", name := "<init>", desc := "()V" } : Jvm.MethodName)), (Jvm.Cond.methodLink "LoopRanker$Proof" (42 : Nat) ({ cls := "LoopRanker$Proof", name := "listFunctions", desc := "()V" } : Jvm.MethodName)), (Jvm.Cond.instanceMethod ({ cls := "LoopRanker$Proof", name := "listFunctions", desc := "()V" } : Jvm.MethodName)), (Jvm.Cond.code ({ cls := "LoopRanker$Proof", name := "listFunctions", desc := "()V" } : Jvm.MethodName) prog_3_method_2_code (5 : Nat) (Option.none : Option Jvm.ClassFile.FieldType)), (Jvm.Cond.methodLink "LoopRanker$Proof" (45 : Nat) ({ cls := "java/lang/Math", name := "abs", desc := "(I)I" } : Jvm.MethodName)), (Jvm.Cond.static ({ cls := "java/lang/Math", name := "abs", desc := "(I)I" } : Jvm.MethodName)), (Jvm.Cond.code ({ cls := "java/lang/Math", name := "abs", desc := "(I)I" } : Jvm.MethodName) prog_7_method_59_code (1 : Nat) (Option.some Jvm.ClassFile.FieldType.int)), (Jvm.Cond.fieldLink "LoopRanker$Proof" (9 : Nat) "LoopRanker$Proof" "us" "[I"), (Jvm.Cond.fieldLink "LoopRanker$Proof" (15 : Nat) "LoopRanker$Proof" "vs" "[I"), (Jvm.Cond.fieldLink "LoopRanker$Proof" (18 : Nat) "LoopRanker$Proof" "levelU" "[I"), (Jvm.Cond.fieldLink "LoopRanker$Proof" (21 : Nat) "LoopRanker$Proof" "levelV" "[I"), (Jvm.Cond.fieldLink "LoopRanker$Proof" (24 : Nat) "LoopRanker$Proof" "levelFloor" "[J")]
theorem bw_3_ok : bw_3.all goodWord = true := by decide +kernel
def bw_4 : List Cond := [(Jvm.Cond.fieldLink "LoopRanker$Proof" (28 : Nat) "LoopRanker$Proof" "levelOfStep" "[I"), (Jvm.Cond.fieldLink "LoopRanker$Proof" (31 : Nat) "LoopRanker$Proof" "levelCount" "I"), (Jvm.Cond.fieldLink "LoopRanker$Proof" (35 : Nat) "LoopRanker$Proof" "leftCount" "I"), (Jvm.Cond.fieldLink "LoopRanker$Proof" (38 : Nat) "LoopRanker$Proof" "fresh" "Z"), (Jvm.Cond.laysFinal "LoopRanker$Proof" "LoopRanker$Proof" "us" "[I"), (Jvm.Cond.soleField "LoopRanker$Proof" "us"), (Jvm.Cond.laysFinal "LoopRanker$Proof" "LoopRanker$Proof" "vs" "[I"), (Jvm.Cond.soleField "LoopRanker$Proof" "vs"), (Jvm.Cond.laysFinal "LoopRanker$Proof" "LoopRanker$Proof" "levelU" "[I"), (Jvm.Cond.soleField "LoopRanker$Proof" "levelU"), (Jvm.Cond.laysFinal "LoopRanker$Proof" "LoopRanker$Proof" "levelV" "[I"), (Jvm.Cond.soleField "LoopRanker$Proof" "levelV"), (Jvm.Cond.laysFinal "LoopRanker$Proof" "LoopRanker$Proof" "levelFloor" "[J"), (Jvm.Cond.soleField "LoopRanker$Proof" "levelFloor"), (Jvm.Cond.laysFinal "LoopRanker$Proof" "LoopRanker$Proof" "levelOfStep" "[I"), (Jvm.Cond.soleField "LoopRanker$Proof" "levelOfStep"), (Jvm.Cond.lays "LoopRanker$Proof" "LoopRanker$Proof" "levelCount" "I"), (Jvm.Cond.soleField "LoopRanker$Proof" "levelCount"), (Jvm.Cond.lays "LoopRanker$Proof" "LoopRanker$Proof" "leftCount" "I"), (Jvm.Cond.soleField "LoopRanker$Proof" "leftCount")]
theorem bw_4_ok : bw_4.all goodWord = true := by decide +kernel
def bw_5 : List Cond := [(Jvm.Cond.lays "LoopRanker$Proof" "LoopRanker$Proof" "fresh" "Z"), (Jvm.Cond.soleField "LoopRanker$Proof" "fresh"), (Jvm.Cond.superclass "LoopRanker$Proof" "java/lang/Object"), (Jvm.Cond.arrayClass Jvm.ClassFile.FieldType.long), (Jvm.Cond.fieldLink "LoopRanker" (11 : Nat) "LoopRanker" "steps" "[LLoopRanker$Step;"), (Jvm.Cond.fieldLink "LoopRanker" (19 : Nat) "LoopRanker" "proof" "LLoopRanker$Proof;"), (Jvm.Cond.fieldLink "LoopRanker" (23 : Nat) "LoopRanker" "stepCount" "I"), (Jvm.Cond.fieldLink "LoopRanker" (27 : Nat) "LoopRanker" "x" "J"), (Jvm.Cond.fieldLink "LoopRanker" (31 : Nat) "LoopRanker" "y" "J"), (Jvm.Cond.fieldLink "LoopRanker" (34 : Nat) "LoopRanker" "firedCount" "I"), (Jvm.Cond.laysFinal "LoopRanker" "LoopRanker" "steps" "[LLoopRanker$Step;"), (Jvm.Cond.soleField "LoopRanker" "steps"), (Jvm.Cond.laysFinal "LoopRanker" "LoopRanker" "proof" "LLoopRanker$Proof;"), (Jvm.Cond.soleField "LoopRanker" "proof"), (Jvm.Cond.lays "LoopRanker" "LoopRanker" "stepCount" "I"), (Jvm.Cond.soleField "LoopRanker" "stepCount"), (Jvm.Cond.lays "LoopRanker" "LoopRanker" "x" "J"), (Jvm.Cond.soleField "LoopRanker" "x"), (Jvm.Cond.lays "LoopRanker" "LoopRanker" "y" "J"), (Jvm.Cond.soleField "LoopRanker" "y")]
theorem bw_5_ok : bw_5.all goodWord = true := by decide +kernel
def bw_6 : List Cond := [(Jvm.Cond.lays "LoopRanker" "LoopRanker" "firedCount" "I"), (Jvm.Cond.soleField "LoopRanker" "firedCount"), (Jvm.Cond.superclass "LoopRanker" "java/lang/Object"), (Jvm.Cond.methodLink "LoopRankerLaw" (13 : Nat) ({ cls := "LoopRanker", name := "transition", desc := "()I" } : Jvm.MethodName)), (Jvm.Cond.instanceMethod ({ cls := "LoopRanker", name := "transition", desc := "()I" } : Jvm.MethodName)), (Jvm.Cond.selects "LoopRanker" ({ cls := "LoopRanker", name := "transition", desc := "()I" } : Jvm.MethodName) ({ cls := "LoopRanker", name := "transition", desc := "()I" } : Jvm.MethodName)), (Jvm.Cond.code ({ cls := "LoopRanker", name := "transition", desc := "()I" } : Jvm.MethodName) prog_1_method_2_code (1 : Nat) (Option.some Jvm.ClassFile.FieldType.int)), (Jvm.Cond.instanceMethod ({ cls := "LoopRanker$Step", name := "reset", desc := "()V" } : Jvm.MethodName)), (Jvm.Cond.code ({ cls := "LoopRanker$Step", name := "reset", desc := "()V" } : Jvm.MethodName) prog_4_method_2_code (1 : Nat) (Option.none : Option Jvm.ClassFile.FieldType)), (Jvm.Cond.methodLink "LoopRanker$Step" (32 : Nat) ({ cls := "LoopRanker$Step", name := "setRule", desc := "(IIII)V" } : Jvm.MethodName)), (Jvm.Cond.instanceMethod ({ cls := "LoopRanker$Step", name := "setRule", desc := "(IIII)V" } : Jvm.MethodName)), (Jvm.Cond.code ({ cls := "LoopRanker$Step", name := "setRule", desc := "(IIII)V" } : Jvm.MethodName) prog_4_method_4_code (6 : Nat) (Option.none : Option Jvm.ClassFile.FieldType)), (Jvm.Cond.methodLink "LoopRankerLaw" (18 : Nat) ({ cls := "LoopRanker", name := "guard", desc := "(IIII)I" } : Jvm.MethodName)), (Jvm.Cond.instanceMethod ({ cls := "LoopRanker", name := "guard", desc := "(IIII)I" } : Jvm.MethodName)), (Jvm.Cond.selects "LoopRanker" ({ cls := "LoopRanker", name := "guard", desc := "(IIII)I" } : Jvm.MethodName) ({ cls := "LoopRanker", name := "guard", desc := "(IIII)I" } : Jvm.MethodName)), (Jvm.Cond.code ({ cls := "LoopRanker", name := "guard", desc := "(IIII)I" } : Jvm.MethodName) prog_1_method_3_code (5 : Nat) (Option.some Jvm.ClassFile.FieldType.int)), (Jvm.Cond.methodLink "LoopRanker" (44 : Nat) ({ cls := "LoopRanker", name := "isStep", desc := "(I)Z" } : Jvm.MethodName)), (Jvm.Cond.instanceMethod ({ cls := "LoopRanker", name := "isStep", desc := "(I)Z" } : Jvm.MethodName)), (Jvm.Cond.code ({ cls := "LoopRanker", name := "isStep", desc := "(I)Z" } : Jvm.MethodName) prog_1_method_20_code (2 : Nat) (Option.some Jvm.ClassFile.FieldType.boolean)), (Jvm.Cond.constantLong "LoopRanker" (48 : Nat) (9 : Int64))]
theorem bw_6_ok : bw_6.all goodWord = true := by decide +kernel
def bw_7 : List Cond := [(Jvm.Cond.methodLink "LoopRanker" (50 : Nat) ({ cls := "LoopRanker", name := "isWithin", desc := "(JJ)Z" } : Jvm.MethodName)), (Jvm.Cond.static ({ cls := "LoopRanker", name := "isWithin", desc := "(JJ)Z" } : Jvm.MethodName)), (Jvm.Cond.code ({ cls := "LoopRanker", name := "isWithin", desc := "(JJ)Z" } : Jvm.MethodName) prog_1_method_22_code (4 : Nat) (Option.some Jvm.ClassFile.FieldType.boolean)), (Jvm.Cond.constantLong "LoopRanker" (54 : Nat) (99 : Int64)), (Jvm.Cond.instanceMethod ({ cls := "LoopRanker$Step", name := "addRow", desc := "(III)V" } : Jvm.MethodName)), (Jvm.Cond.code ({ cls := "LoopRanker$Step", name := "addRow", desc := "(III)V" } : Jvm.MethodName) prog_4_method_3_code (4 : Nat) (Option.none : Option Jvm.ClassFile.FieldType)), (Jvm.Cond.instanceMethod ({ cls := "LoopRanker$Guard", name := "add", desc := "(III)V" } : Jvm.MethodName)), (Jvm.Cond.code ({ cls := "LoopRanker$Guard", name := "add", desc := "(III)V" } : Jvm.MethodName) prog_2_method_3_code (4 : Nat) (Option.none : Option Jvm.ClassFile.FieldType)), (Jvm.Cond.methodLink "LoopRanker$Guard" (39 : Nat) ({ cls := "LoopRanker$Guard", name := "maximise", desc := "(II)V" } : Jvm.MethodName)), (Jvm.Cond.instanceMethod ({ cls := "LoopRanker$Guard", name := "maximise", desc := "(II)V" } : Jvm.MethodName)), (Jvm.Cond.code ({ cls := "LoopRanker$Guard", name := "maximise", desc := "(II)V" } : Jvm.MethodName) prog_2_method_5_code (5 : Nat) (Option.none : Option Jvm.ClassFile.FieldType)), (Jvm.Cond.methodLink "LoopRanker$Guard" (43 : Nat) ({ cls := "LoopRanker$Guard", name := "boundByRow", desc := "(III)V" } : Jvm.MethodName)), (Jvm.Cond.instanceMethod ({ cls := "LoopRanker$Guard", name := "boundByRow", desc := "(III)V" } : Jvm.MethodName)), (Jvm.Cond.code ({ cls := "LoopRanker$Guard", name := "boundByRow", desc := "(III)V" } : Jvm.MethodName) prog_2_method_6_code (5 : Nat) (Option.none : Option Jvm.ClassFile.FieldType)), (Jvm.Cond.methodLink "LoopRanker$Guard" (51 : Nat) ({ cls := "LoopRanker$Guard", name := "cross", desc := "(JJJJ)J" } : Jvm.MethodName)), (Jvm.Cond.static ({ cls := "LoopRanker$Guard", name := "cross", desc := "(JJJJ)J" } : Jvm.MethodName)), (Jvm.Cond.code ({ cls := "LoopRanker$Guard", name := "cross", desc := "(JJJJ)J" } : Jvm.MethodName) prog_2_method_12_code (8 : Nat) (Option.some Jvm.ClassFile.FieldType.long)), (Jvm.Cond.methodLink "LoopRanker$Guard" (55 : Nat) ({ cls := "java/lang/Math", name := "abs", desc := "(I)I" } : Jvm.MethodName)), (Jvm.Cond.methodLink "LoopRanker$Guard" (61 : Nat) ({ cls := "LoopRanker$Guard", name := "lowerTo", desc := "(JJ)V" } : Jvm.MethodName)), (Jvm.Cond.instanceMethod ({ cls := "LoopRanker$Guard", name := "lowerTo", desc := "(JJ)V" } : Jvm.MethodName))]
theorem bw_7_ok : bw_7.all goodWord = true := by decide +kernel
def bw_8 : List Cond := [(Jvm.Cond.code ({ cls := "LoopRanker$Guard", name := "lowerTo", desc := "(JJ)V" } : Jvm.MethodName) prog_2_method_8_code (5 : Nat) (Option.none : Option Jvm.ClassFile.FieldType)), (Jvm.Cond.methodLink "LoopRanker$Guard" (47 : Nat) ({ cls := "LoopRanker$Guard", name := "boundByPair", desc := "(IIII)V" } : Jvm.MethodName)), (Jvm.Cond.instanceMethod ({ cls := "LoopRanker$Guard", name := "boundByPair", desc := "(IIII)V" } : Jvm.MethodName)), (Jvm.Cond.code ({ cls := "LoopRanker$Guard", name := "boundByPair", desc := "(IIII)V" } : Jvm.MethodName) prog_2_method_7_code (13 : Nat) (Option.none : Option Jvm.ClassFile.FieldType)), (Jvm.Cond.constantLong "LoopRanker$Guard" (65 : Nat) (-1 : Int64)), (Jvm.Cond.methodLink "LoopRankerLaw" (23 : Nat) ({ cls := "LoopRanker", name := "update", desc := "(IIIII)Z" } : Jvm.MethodName)), (Jvm.Cond.instanceMethod ({ cls := "LoopRanker", name := "update", desc := "(IIIII)Z" } : Jvm.MethodName)), (Jvm.Cond.selects "LoopRanker" ({ cls := "LoopRanker", name := "update", desc := "(IIIII)Z" } : Jvm.MethodName) ({ cls := "LoopRanker", name := "update", desc := "(IIIII)Z" } : Jvm.MethodName)), (Jvm.Cond.code ({ cls := "LoopRanker", name := "update", desc := "(IIIII)Z" } : Jvm.MethodName) prog_1_method_4_code (6 : Nat) (Option.some Jvm.ClassFile.FieldType.boolean)), (Jvm.Cond.methodLink "LoopRanker" (69 : Nat) ({ cls := "LoopRanker", name := "isVariable", desc := "(I)Z" } : Jvm.MethodName)), (Jvm.Cond.static ({ cls := "LoopRanker", name := "isVariable", desc := "(I)Z" } : Jvm.MethodName)), (Jvm.Cond.code ({ cls := "LoopRanker", name := "isVariable", desc := "(I)Z" } : Jvm.MethodName) prog_1_method_21_code (1 : Nat) (Option.some Jvm.ClassFile.FieldType.boolean)), (Jvm.Cond.constantLong "LoopRanker" (72 : Nat) (3 : Int64)), (Jvm.Cond.constantLong "LoopRanker" (74 : Nat) (20 : Int64)), (Jvm.Cond.methodLink "LoopRankerLaw" (28 : Nat) ({ cls := "LoopRanker", name := "remove", desc := "(I)Z" } : Jvm.MethodName)), (Jvm.Cond.instanceMethod ({ cls := "LoopRanker", name := "remove", desc := "(I)Z" } : Jvm.MethodName)), (Jvm.Cond.selects "LoopRanker" ({ cls := "LoopRanker", name := "remove", desc := "(I)Z" } : Jvm.MethodName) ({ cls := "LoopRanker", name := "remove", desc := "(I)Z" } : Jvm.MethodName)), (Jvm.Cond.code ({ cls := "LoopRanker", name := "remove", desc := "(I)Z" } : Jvm.MethodName) prog_1_method_5_code (4 : Nat) (Option.some Jvm.ClassFile.FieldType.boolean)), (Jvm.Cond.methodLink "LoopRankerLaw" (33 : Nat) ({ cls := "LoopRanker", name := "transitions", desc := "()I" } : Jvm.MethodName)), (Jvm.Cond.instanceMethod ({ cls := "LoopRanker", name := "transitions", desc := "()I" } : Jvm.MethodName))]
theorem bw_8_ok : bw_8.all goodWord = true := by decide +kernel
def bw_9 : List Cond := [(Jvm.Cond.selects "LoopRanker" ({ cls := "LoopRanker", name := "transitions", desc := "()I" } : Jvm.MethodName) ({ cls := "LoopRanker", name := "transitions", desc := "()I" } : Jvm.MethodName)), (Jvm.Cond.code ({ cls := "LoopRanker", name := "transitions", desc := "()I" } : Jvm.MethodName) prog_1_method_6_code (1 : Nat) (Option.some Jvm.ClassFile.FieldType.int)), (Jvm.Cond.methodLink "LoopRankerLaw" (37 : Nat) ({ cls := "LoopRanker", name := "greatest", desc := "(III)J" } : Jvm.MethodName)), (Jvm.Cond.instanceMethod ({ cls := "LoopRanker", name := "greatest", desc := "(III)J" } : Jvm.MethodName)), (Jvm.Cond.selects "LoopRanker" ({ cls := "LoopRanker", name := "greatest", desc := "(III)J" } : Jvm.MethodName) ({ cls := "LoopRanker", name := "greatest", desc := "(III)J" } : Jvm.MethodName)), (Jvm.Cond.code ({ cls := "LoopRanker", name := "greatest", desc := "(III)J" } : Jvm.MethodName) prog_1_method_7_code (5 : Nat) (Option.some Jvm.ClassFile.FieldType.long)), (Jvm.Cond.constantLong "LoopRanker" (80 : Nat) (60 : Int64)), (Jvm.Cond.constantLong "LoopRanker" (82 : Nat) (4611686018427387904 : Int64)), (Jvm.Cond.constantLong "LoopRanker" (87 : Nat) (-4611686018427387904 : Int64)), (Jvm.Cond.instanceMethod ({ cls := "LoopRanker$Guard", name := "maximumRoundedDown", desc := "()J" } : Jvm.MethodName)), (Jvm.Cond.code ({ cls := "LoopRanker$Guard", name := "maximumRoundedDown", desc := "()J" } : Jvm.MethodName) prog_2_method_11_code (1 : Nat) (Option.some Jvm.ClassFile.FieldType.long)), (Jvm.Cond.constantLong "LoopRanker$Guard" (67 : Nat) (4611686018427387904 : Int64)), (Jvm.Cond.methodLink "LoopRanker$Guard" (69 : Nat) ({ cls := "java/lang/Math", name := "floorDiv", desc := "(JJ)J" } : Jvm.MethodName)), (Jvm.Cond.static ({ cls := "java/lang/Math", name := "floorDiv", desc := "(JJ)J" } : Jvm.MethodName)), (Jvm.Cond.code ({ cls := "java/lang/Math", name := "floorDiv", desc := "(JJ)J" } : Jvm.MethodName) prog_7_method_49_code (6 : Nat) (Option.some Jvm.ClassFile.FieldType.long)), (Jvm.Cond.methodLink "LoopRankerLaw" (42 : Nat) ({ cls := "LoopRanker", name := "holds", desc := "(IIII)Z" } : Jvm.MethodName)), (Jvm.Cond.instanceMethod ({ cls := "LoopRanker", name := "holds", desc := "(IIII)Z" } : Jvm.MethodName)), (Jvm.Cond.selects "LoopRanker" ({ cls := "LoopRanker", name := "holds", desc := "(IIII)Z" } : Jvm.MethodName) ({ cls := "LoopRanker", name := "holds", desc := "(IIII)Z" } : Jvm.MethodName)), (Jvm.Cond.code ({ cls := "LoopRanker", name := "holds", desc := "(IIII)Z" } : Jvm.MethodName) prog_1_method_8_code (5 : Nat) (Option.some Jvm.ClassFile.FieldType.boolean)), (Jvm.Cond.constantLong "LoopRanker" (97 : Nat) (4 : Int64))]
theorem bw_9_ok : bw_9.all goodWord = true := by decide +kernel
def bw_10 : List Cond := [(Jvm.Cond.instanceMethod ({ cls := "LoopRanker$Step", name := "changesByAtMost", desc := "(III)Z" } : Jvm.MethodName)), (Jvm.Cond.code ({ cls := "LoopRanker$Step", name := "changesByAtMost", desc := "(III)Z" } : Jvm.MethodName) prog_4_method_6_code (4 : Nat) (Option.some Jvm.ClassFile.FieldType.boolean)), (Jvm.Cond.instanceMethod ({ cls := "LoopRanker$Guard", name := "maximumIsAtMost", desc := "(J)Z" } : Jvm.MethodName)), (Jvm.Cond.code ({ cls := "LoopRanker$Guard", name := "maximumIsAtMost", desc := "(J)Z" } : Jvm.MethodName) prog_2_method_10_code (3 : Nat) (Option.some Jvm.ClassFile.FieldType.boolean)), (Jvm.Cond.instanceMethod ({ cls := "LoopRanker$Step", name := "isBounded", desc := "(II)Z" } : Jvm.MethodName)), (Jvm.Cond.code ({ cls := "LoopRanker$Step", name := "isBounded", desc := "(II)Z" } : Jvm.MethodName) prog_4_method_7_code (3 : Nat) (Option.some Jvm.ClassFile.FieldType.boolean)), (Jvm.Cond.instanceMethod ({ cls := "LoopRanker$Guard", name := "hasMaximum", desc := "()Z" } : Jvm.MethodName)), (Jvm.Cond.code ({ cls := "LoopRanker$Guard", name := "hasMaximum", desc := "()Z" } : Jvm.MethodName) prog_2_method_9_code (1 : Nat) (Option.some Jvm.ClassFile.FieldType.boolean)), (Jvm.Cond.methodLink "LoopRankerLaw" (47 : Nat) ({ cls := "LoopRanker", name := "levels", desc := "()I" } : Jvm.MethodName)), (Jvm.Cond.instanceMethod ({ cls := "LoopRanker", name := "levels", desc := "()I" } : Jvm.MethodName)), (Jvm.Cond.selects "LoopRanker" ({ cls := "LoopRanker", name := "levels", desc := "()I" } : Jvm.MethodName) ({ cls := "LoopRanker", name := "levels", desc := "()I" } : Jvm.MethodName)), (Jvm.Cond.code ({ cls := "LoopRanker", name := "levels", desc := "()I" } : Jvm.MethodName) prog_1_method_9_code (1 : Nat) (Option.some Jvm.ClassFile.FieldType.int)), (Jvm.Cond.instanceMethod ({ cls := "LoopRanker$Proof", name := "renew", desc := "([LLoopRanker$Step;I)V" } : Jvm.MethodName)), (Jvm.Cond.code ({ cls := "LoopRanker$Proof", name := "renew", desc := "([LLoopRanker$Step;I)V" } : Jvm.MethodName) prog_3_method_5_code (5 : Nat) (Option.none : Option Jvm.ClassFile.FieldType)), (Jvm.Cond.instanceMethod ({ cls := "LoopRanker$Step", name := "findKinds", desc := "([I[I)V" } : Jvm.MethodName)), (Jvm.Cond.code ({ cls := "LoopRanker$Step", name := "findKinds", desc := "([I[I)V" } : Jvm.MethodName) prog_4_method_8_code (4 : Nat) (Option.none : Option Jvm.ClassFile.FieldType)), (Jvm.Cond.methodLink "LoopRanker$Step" (55 : Nat) ({ cls := "LoopRanker$Step", name := "changesByAtMost", desc := "(III)Z" } : Jvm.MethodName)), (Jvm.Cond.methodLink "LoopRanker$Step" (59 : Nat) ({ cls := "LoopRanker$Step", name := "isBounded", desc := "(II)Z" } : Jvm.MethodName)), (Jvm.Cond.methodLink "LoopRanker$Proof" (57 : Nat) ({ cls := "LoopRanker$Proof", name := "bestFunction", desc := "([LLoopRanker$Step;I)I" } : Jvm.MethodName)), (Jvm.Cond.instanceMethod ({ cls := "LoopRanker$Proof", name := "bestFunction", desc := "([LLoopRanker$Step;I)I" } : Jvm.MethodName))]
theorem bw_10_ok : bw_10.all goodWord = true := by decide +kernel
def bw_11 : List Cond := [(Jvm.Cond.code ({ cls := "LoopRanker$Proof", name := "bestFunction", desc := "([LLoopRanker$Step;I)I" } : Jvm.MethodName) prog_3_method_6_code (7 : Nat) (Option.some Jvm.ClassFile.FieldType.int)), (Jvm.Cond.methodLink "LoopRanker$Proof" (65 : Nat) ({ cls := "LoopRanker$Proof", name := "countRemoved", desc := "(I[LLoopRanker$Step;I)I" } : Jvm.MethodName)), (Jvm.Cond.instanceMethod ({ cls := "LoopRanker$Proof", name := "countRemoved", desc := "(I[LLoopRanker$Step;I)I" } : Jvm.MethodName)), (Jvm.Cond.code ({ cls := "LoopRanker$Proof", name := "countRemoved", desc := "(I[LLoopRanker$Step;I)I" } : Jvm.MethodName) prog_3_method_7_code (6 : Nat) (Option.some Jvm.ClassFile.FieldType.int)), (Jvm.Cond.methodLink "LoopRanker$Proof" (61 : Nat) ({ cls := "LoopRanker$Proof", name := "addLevel", desc := "(I[LLoopRanker$Step;I)V" } : Jvm.MethodName)), (Jvm.Cond.instanceMethod ({ cls := "LoopRanker$Proof", name := "addLevel", desc := "(I[LLoopRanker$Step;I)V" } : Jvm.MethodName)), (Jvm.Cond.code ({ cls := "LoopRanker$Proof", name := "addLevel", desc := "(I[LLoopRanker$Step;I)V" } : Jvm.MethodName) prog_3_method_8_code (8 : Nat) (Option.none : Option Jvm.ClassFile.FieldType)), (Jvm.Cond.constantLong "LoopRanker$Proof" (72 : Nat) (4611686018427387904 : Int64)), (Jvm.Cond.methodLink "LoopRanker$Proof" (91 : Nat) ({ cls := "java/lang/Math", name := "min", desc := "(JJ)J" } : Jvm.MethodName)), (Jvm.Cond.static ({ cls := "java/lang/Math", name := "min", desc := "(JJ)J" } : Jvm.MethodName)), (Jvm.Cond.code ({ cls := "java/lang/Math", name := "min", desc := "(JJ)J" } : Jvm.MethodName) prog_7_method_70_code (4 : Nat) (Option.some Jvm.ClassFile.FieldType.long)), (Jvm.Cond.methodLink "LoopRankerLaw" (51 : Nat) ({ cls := "LoopRanker", name := "proven", desc := "()Z" } : Jvm.MethodName)), (Jvm.Cond.instanceMethod ({ cls := "LoopRanker", name := "proven", desc := "()Z" } : Jvm.MethodName)), (Jvm.Cond.selects "LoopRanker" ({ cls := "LoopRanker", name := "proven", desc := "()Z" } : Jvm.MethodName) ({ cls := "LoopRanker", name := "proven", desc := "()Z" } : Jvm.MethodName)), (Jvm.Cond.code ({ cls := "LoopRanker", name := "proven", desc := "()Z" } : Jvm.MethodName) prog_1_method_10_code (1 : Nat) (Option.some Jvm.ClassFile.FieldType.boolean)), (Jvm.Cond.methodLink "LoopRankerLaw" (56 : Nat) ({ cls := "LoopRanker", name := "levelOf", desc := "(I)I" } : Jvm.MethodName)), (Jvm.Cond.instanceMethod ({ cls := "LoopRanker", name := "levelOf", desc := "(I)I" } : Jvm.MethodName)), (Jvm.Cond.selects "LoopRanker" ({ cls := "LoopRanker", name := "levelOf", desc := "(I)I" } : Jvm.MethodName) ({ cls := "LoopRanker", name := "levelOf", desc := "(I)I" } : Jvm.MethodName)), (Jvm.Cond.code ({ cls := "LoopRanker", name := "levelOf", desc := "(I)I" } : Jvm.MethodName) prog_1_method_11_code (2 : Nat) (Option.some Jvm.ClassFile.FieldType.int)), (Jvm.Cond.methodLink "LoopRankerLaw" (61 : Nat) ({ cls := "LoopRanker", name := "coefficient", desc := "(II)I" } : Jvm.MethodName))]
theorem bw_11_ok : bw_11.all goodWord = true := by decide +kernel
def bw_12 : List Cond := [(Jvm.Cond.instanceMethod ({ cls := "LoopRanker", name := "coefficient", desc := "(II)I" } : Jvm.MethodName)), (Jvm.Cond.selects "LoopRanker" ({ cls := "LoopRanker", name := "coefficient", desc := "(II)I" } : Jvm.MethodName) ({ cls := "LoopRanker", name := "coefficient", desc := "(II)I" } : Jvm.MethodName)), (Jvm.Cond.code ({ cls := "LoopRanker", name := "coefficient", desc := "(II)I" } : Jvm.MethodName) prog_1_method_12_code (3 : Nat) (Option.some Jvm.ClassFile.FieldType.int)), (Jvm.Cond.instanceMethod ({ cls := "LoopRanker$Proof", name := "hasLevel", desc := "(I)Z" } : Jvm.MethodName)), (Jvm.Cond.code ({ cls := "LoopRanker$Proof", name := "hasLevel", desc := "(I)Z" } : Jvm.MethodName) prog_3_method_3_code (2 : Nat) (Option.some Jvm.ClassFile.FieldType.boolean)), (Jvm.Cond.methodLink "LoopRankerLaw" (66 : Nat) ({ cls := "LoopRanker", name := "floor", desc := "(I)J" } : Jvm.MethodName)), (Jvm.Cond.instanceMethod ({ cls := "LoopRanker", name := "floor", desc := "(I)J" } : Jvm.MethodName)), (Jvm.Cond.selects "LoopRanker" ({ cls := "LoopRanker", name := "floor", desc := "(I)J" } : Jvm.MethodName) ({ cls := "LoopRanker", name := "floor", desc := "(I)J" } : Jvm.MethodName)), (Jvm.Cond.code ({ cls := "LoopRanker", name := "floor", desc := "(I)J" } : Jvm.MethodName) prog_1_method_13_code (2 : Nat) (Option.some Jvm.ClassFile.FieldType.long)), (Jvm.Cond.methodLink "LoopRankerLaw" (71 : Nat) ({ cls := "LoopRanker", name := "start", desc := "(II)Z" } : Jvm.MethodName)), (Jvm.Cond.instanceMethod ({ cls := "LoopRanker", name := "start", desc := "(II)Z" } : Jvm.MethodName)), (Jvm.Cond.selects "LoopRanker" ({ cls := "LoopRanker", name := "start", desc := "(II)Z" } : Jvm.MethodName) ({ cls := "LoopRanker", name := "start", desc := "(II)Z" } : Jvm.MethodName)), (Jvm.Cond.code ({ cls := "LoopRanker", name := "start", desc := "(II)Z" } : Jvm.MethodName) prog_1_method_14_code (3 : Nat) (Option.some Jvm.ClassFile.FieldType.boolean)), (Jvm.Cond.constantLong "LoopRanker" (134 : Nat) (1000000 : Int64)), (Jvm.Cond.methodLink "LoopRankerLaw" (76 : Nat) ({ cls := "LoopRanker", name := "fire", desc := "(I)Z" } : Jvm.MethodName)), (Jvm.Cond.instanceMethod ({ cls := "LoopRanker", name := "fire", desc := "(I)Z" } : Jvm.MethodName)), (Jvm.Cond.selects "LoopRanker" ({ cls := "LoopRanker", name := "fire", desc := "(I)Z" } : Jvm.MethodName) ({ cls := "LoopRanker", name := "fire", desc := "(I)Z" } : Jvm.MethodName)), (Jvm.Cond.code ({ cls := "LoopRanker", name := "fire", desc := "(I)Z" } : Jvm.MethodName) prog_1_method_15_code (6 : Nat) (Option.some Jvm.ClassFile.FieldType.boolean)), (Jvm.Cond.instanceMethod ({ cls := "LoopRanker$Guard", name := "allows", desc := "(JJ)Z" } : Jvm.MethodName)), (Jvm.Cond.code ({ cls := "LoopRanker$Guard", name := "allows", desc := "(JJ)Z" } : Jvm.MethodName) prog_2_method_4_code (6 : Nat) (Option.some Jvm.ClassFile.FieldType.boolean))]
theorem bw_12_ok : bw_12.all goodWord = true := by decide +kernel
def bw_13 : List Cond := [(Jvm.Cond.instanceMethod ({ cls := "LoopRanker$Step", name := "next", desc := "(IJJ)J" } : Jvm.MethodName)), (Jvm.Cond.code ({ cls := "LoopRanker$Step", name := "next", desc := "(IJJ)J" } : Jvm.MethodName) prog_4_method_5_code (7 : Nat) (Option.some Jvm.ClassFile.FieldType.long)), (Jvm.Cond.constantLong "LoopRanker" (143 : Nat) (1000000000000 : Int64)), (Jvm.Cond.methodLink "LoopRankerLaw" (80 : Nat) ({ cls := "LoopRanker", name := "value", desc := "(I)J" } : Jvm.MethodName)), (Jvm.Cond.instanceMethod ({ cls := "LoopRanker", name := "value", desc := "(I)J" } : Jvm.MethodName)), (Jvm.Cond.selects "LoopRanker" ({ cls := "LoopRanker", name := "value", desc := "(I)J" } : Jvm.MethodName) ({ cls := "LoopRanker", name := "value", desc := "(I)J" } : Jvm.MethodName)), (Jvm.Cond.code ({ cls := "LoopRanker", name := "value", desc := "(I)J" } : Jvm.MethodName) prog_1_method_16_code (2 : Nat) (Option.some Jvm.ClassFile.FieldType.long)), (Jvm.Cond.methodLink "LoopRankerLaw" (84 : Nat) ({ cls := "LoopRanker", name := "fired", desc := "()I" } : Jvm.MethodName)), (Jvm.Cond.instanceMethod ({ cls := "LoopRanker", name := "fired", desc := "()I" } : Jvm.MethodName)), (Jvm.Cond.selects "LoopRanker" ({ cls := "LoopRanker", name := "fired", desc := "()I" } : Jvm.MethodName) ({ cls := "LoopRanker", name := "fired", desc := "()I" } : Jvm.MethodName)), (Jvm.Cond.code ({ cls := "LoopRanker", name := "fired", desc := "()I" } : Jvm.MethodName) prog_1_method_17_code (1 : Nat) (Option.some Jvm.ClassFile.FieldType.int)), (Jvm.Cond.methodLink "LoopRankerLaw" (88 : Nat) ({ cls := "LoopRanker", name := "rank", desc := "(I)J" } : Jvm.MethodName)), (Jvm.Cond.instanceMethod ({ cls := "LoopRanker", name := "rank", desc := "(I)J" } : Jvm.MethodName)), (Jvm.Cond.selects "LoopRanker" ({ cls := "LoopRanker", name := "rank", desc := "(I)J" } : Jvm.MethodName) ({ cls := "LoopRanker", name := "rank", desc := "(I)J" } : Jvm.MethodName)), (Jvm.Cond.code ({ cls := "LoopRanker", name := "rank", desc := "(I)J" } : Jvm.MethodName) prog_1_method_18_code (2 : Nat) (Option.some Jvm.ClassFile.FieldType.long)), (Jvm.Cond.instanceMethod ({ cls := "LoopRanker$Proof", name := "functionValue", desc := "(IJJ)J" } : Jvm.MethodName)), (Jvm.Cond.code ({ cls := "LoopRanker$Proof", name := "functionValue", desc := "(IJJ)J" } : Jvm.MethodName) prog_3_method_4_code (6 : Nat) (Option.some Jvm.ClassFile.FieldType.long)), (Jvm.Cond.methodLink "LoopRankerLaw" (92 : Nat) ({ cls := "LoopRanker", name := "budget", desc := "()J" } : Jvm.MethodName)), (Jvm.Cond.instanceMethod ({ cls := "LoopRanker", name := "budget", desc := "()J" } : Jvm.MethodName)), (Jvm.Cond.selects "LoopRanker" ({ cls := "LoopRanker", name := "budget", desc := "()J" } : Jvm.MethodName) ({ cls := "LoopRanker", name := "budget", desc := "()J" } : Jvm.MethodName))]
theorem bw_13_ok : bw_13.all goodWord = true := by decide +kernel
def bw_14 : List Cond := [(Jvm.Cond.code ({ cls := "LoopRanker", name := "budget", desc := "()J" } : Jvm.MethodName) prog_1_method_19_code (1 : Nat) (Option.some Jvm.ClassFile.FieldType.long)), (Jvm.Cond.constantLong "LoopRanker" (148 : Nat) (-1 : Int64)), (Jvm.Cond.methodLink "LoopRanker" (150 : Nat) ({ cls := "java/lang/Math", name := "max", desc := "(JJ)J" } : Jvm.MethodName)), (Jvm.Cond.static ({ cls := "java/lang/Math", name := "max", desc := "(JJ)J" } : Jvm.MethodName)), (Jvm.Cond.code ({ cls := "java/lang/Math", name := "max", desc := "(JJ)J" } : Jvm.MethodName) prog_7_method_66_code (4 : Nat) (Option.some Jvm.ClassFile.FieldType.long)), (Jvm.Cond.classLink "LoopRankerLaw" (10 : Nat) "LoopRankerModel"), (Jvm.Cond.instantiable "LoopRankerModel" (16 : Nat)), (Jvm.Cond.methodLink "LoopRankerLaw" (12 : Nat) ({ cls := "LoopRankerModel", name := "<init>", desc := "()V" } : Jvm.MethodName)), (Jvm.Cond.instanceMethod ({ cls := "LoopRankerModel", name := "<init>", desc := "()V" } : Jvm.MethodName)), (Jvm.Cond.code ({ cls := "LoopRankerModel", name := "<init>", desc := "()V" } : Jvm.MethodName) prog_6_method_1_code (1 : Nat) (Option.none : Option Jvm.ClassFile.FieldType)), (Jvm.Cond.methodLink "LoopRankerModel" (1 : Nat) ({ cls := "java/lang/Object", name := "<init>", desc := "()V" } : Jvm.MethodName)), (Jvm.Cond.fieldLink "LoopRankerModel" (34 : Nat) "LoopRankerModel" "count" "I"), (Jvm.Cond.fieldLink "LoopRankerModel" (7 : Nat) "LoopRankerModel" "many" "[I"), (Jvm.Cond.fieldLink "LoopRankerModel" (13 : Nat) "LoopRankerModel" "p" "[I"), (Jvm.Cond.fieldLink "LoopRankerModel" (16 : Nat) "LoopRankerModel" "q" "[I"), (Jvm.Cond.fieldLink "LoopRankerModel" (19 : Nat) "LoopRankerModel" "\x72" "[I"), (Jvm.Cond.fieldLink "LoopRankerModel" (22 : Nat) "LoopRankerModel" "update" "[I"), (Jvm.Cond.fieldLink "LoopRankerModel" (46 : Nat) "LoopRankerModel" "some" "Z"), (Jvm.Cond.fieldLink "LoopRankerModel" (54 : Nat) "LoopRankerModel" "top" "J"), (Jvm.Cond.fieldLink "LoopRankerModel" (50 : Nat) "LoopRankerModel" "bottom" "J")]
theorem bw_14_ok : bw_14.all goodWord = true := by decide +kernel
def bw_15 : List Cond := [(Jvm.Cond.fieldLink "LoopRankerModel" (102 : Nat) "LoopRankerModel" "levels" "I"), (Jvm.Cond.fieldLink "LoopRankerModel" (25 : Nat) "LoopRankerModel" "ofLevel" "[I"), (Jvm.Cond.fieldLink "LoopRankerModel" (28 : Nat) "LoopRankerModel" "first" "[I"), (Jvm.Cond.fieldLink "LoopRankerModel" (31 : Nat) "LoopRankerModel" "second" "[I"), (Jvm.Cond.fieldLink "LoopRankerModel" (124 : Nat) "LoopRankerModel" "x" "J"), (Jvm.Cond.fieldLink "LoopRankerModel" (127 : Nat) "LoopRankerModel" "y" "J"), (Jvm.Cond.fieldLink "LoopRankerModel" (130 : Nat) "LoopRankerModel" "fired" "I"), (Jvm.Cond.lays "LoopRankerModel" "LoopRankerModel" "count" "I"), (Jvm.Cond.soleField "LoopRankerModel" "count"), (Jvm.Cond.laysFinal "LoopRankerModel" "LoopRankerModel" "many" "[I"), (Jvm.Cond.soleField "LoopRankerModel" "many"), (Jvm.Cond.laysFinal "LoopRankerModel" "LoopRankerModel" "p" "[I"), (Jvm.Cond.soleField "LoopRankerModel" "p"), (Jvm.Cond.laysFinal "LoopRankerModel" "LoopRankerModel" "q" "[I"), (Jvm.Cond.soleField "LoopRankerModel" "q"), (Jvm.Cond.laysFinal "LoopRankerModel" "LoopRankerModel" "\x72" "[I"), (Jvm.Cond.soleField "LoopRankerModel" "\x72"), (Jvm.Cond.laysFinal "LoopRankerModel" "LoopRankerModel" "update" "[I"), (Jvm.Cond.soleField "LoopRankerModel" "update"), (Jvm.Cond.lays "LoopRankerModel" "LoopRankerModel" "some" "Z")]
theorem bw_15_ok : bw_15.all goodWord = true := by decide +kernel
def bw_16 : List Cond := [(Jvm.Cond.soleField "LoopRankerModel" "some"), (Jvm.Cond.lays "LoopRankerModel" "LoopRankerModel" "top" "J"), (Jvm.Cond.soleField "LoopRankerModel" "top"), (Jvm.Cond.lays "LoopRankerModel" "LoopRankerModel" "bottom" "J"), (Jvm.Cond.soleField "LoopRankerModel" "bottom"), (Jvm.Cond.lays "LoopRankerModel" "LoopRankerModel" "levels" "I"), (Jvm.Cond.soleField "LoopRankerModel" "levels"), (Jvm.Cond.laysFinal "LoopRankerModel" "LoopRankerModel" "ofLevel" "[I"), (Jvm.Cond.soleField "LoopRankerModel" "ofLevel"), (Jvm.Cond.laysFinal "LoopRankerModel" "LoopRankerModel" "first" "[I"), (Jvm.Cond.soleField "LoopRankerModel" "first"), (Jvm.Cond.laysFinal "LoopRankerModel" "LoopRankerModel" "second" "[I"), (Jvm.Cond.soleField "LoopRankerModel" "second"), (Jvm.Cond.lays "LoopRankerModel" "LoopRankerModel" "x" "J"), (Jvm.Cond.soleField "LoopRankerModel" "x"), (Jvm.Cond.lays "LoopRankerModel" "LoopRankerModel" "y" "J"), (Jvm.Cond.soleField "LoopRankerModel" "y"), (Jvm.Cond.lays "LoopRankerModel" "LoopRankerModel" "fired" "I"), (Jvm.Cond.soleField "LoopRankerModel" "fired"), (Jvm.Cond.superclass "LoopRankerModel" "java/lang/Object")]
theorem bw_16_ok : bw_16.all goodWord = true := by decide +kernel
def bw_17 : List Cond := [(Jvm.Cond.methodLink "LoopRankerLaw" (17 : Nat) ({ cls := "LoopRankerModel", name := "transition", desc := "()I" } : Jvm.MethodName)), (Jvm.Cond.instanceMethod ({ cls := "LoopRankerModel", name := "transition", desc := "()I" } : Jvm.MethodName)), (Jvm.Cond.selects "LoopRankerModel" ({ cls := "LoopRankerModel", name := "transition", desc := "()I" } : Jvm.MethodName) ({ cls := "LoopRankerModel", name := "transition", desc := "()I" } : Jvm.MethodName)), (Jvm.Cond.code ({ cls := "LoopRankerModel", name := "transition", desc := "()I" } : Jvm.MethodName) prog_6_method_4_code (2 : Nat) (Option.some Jvm.ClassFile.FieldType.int)), (Jvm.Cond.methodLink "LoopRankerLaw" (22 : Nat) ({ cls := "LoopRankerModel", name := "guard", desc := "(IIII)I" } : Jvm.MethodName)), (Jvm.Cond.instanceMethod ({ cls := "LoopRankerModel", name := "guard", desc := "(IIII)I" } : Jvm.MethodName)), (Jvm.Cond.selects "LoopRankerModel" ({ cls := "LoopRankerModel", name := "guard", desc := "(IIII)I" } : Jvm.MethodName) ({ cls := "LoopRankerModel", name := "guard", desc := "(IIII)I" } : Jvm.MethodName)), (Jvm.Cond.code ({ cls := "LoopRankerModel", name := "guard", desc := "(IIII)I" } : Jvm.MethodName) prog_6_method_5_code (6 : Nat) (Option.some Jvm.ClassFile.FieldType.int)), (Jvm.Cond.methodLink "LoopRankerModel" (38 : Nat) ({ cls := "LoopRankerModel", name := "there", desc := "(I)Z" } : Jvm.MethodName)), (Jvm.Cond.instanceMethod ({ cls := "LoopRankerModel", name := "there", desc := "(I)Z" } : Jvm.MethodName)), (Jvm.Cond.code ({ cls := "LoopRankerModel", name := "there", desc := "(I)Z" } : Jvm.MethodName) prog_6_method_3_code (2 : Nat) (Option.some Jvm.ClassFile.FieldType.boolean)), (Jvm.Cond.methodLink "LoopRankerModel" (42 : Nat) ({ cls := "LoopRankerModel", name := "within", desc := "(II)Z" } : Jvm.MethodName)), (Jvm.Cond.static ({ cls := "LoopRankerModel", name := "within", desc := "(II)Z" } : Jvm.MethodName)), (Jvm.Cond.code ({ cls := "LoopRankerModel", name := "within", desc := "(II)Z" } : Jvm.MethodName) prog_6_method_2_code (2 : Nat) (Option.some Jvm.ClassFile.FieldType.boolean)), (Jvm.Cond.methodLink "LoopRankerLaw" (27 : Nat) ({ cls := "LoopRankerModel", name := "update", desc := "(IIIII)Z" } : Jvm.MethodName)), (Jvm.Cond.instanceMethod ({ cls := "LoopRankerModel", name := "update", desc := "(IIIII)Z" } : Jvm.MethodName)), (Jvm.Cond.selects "LoopRankerModel" ({ cls := "LoopRankerModel", name := "update", desc := "(IIIII)Z" } : Jvm.MethodName) ({ cls := "LoopRankerModel", name := "update", desc := "(IIIII)Z" } : Jvm.MethodName)), (Jvm.Cond.code ({ cls := "LoopRankerModel", name := "update", desc := "(IIIII)Z" } : Jvm.MethodName) prog_6_method_6_code (7 : Nat) (Option.some Jvm.ClassFile.FieldType.boolean)), (Jvm.Cond.methodLink "LoopRankerLaw" (32 : Nat) ({ cls := "LoopRankerModel", name := "remove", desc := "(I)Z" } : Jvm.MethodName)), (Jvm.Cond.instanceMethod ({ cls := "LoopRankerModel", name := "remove", desc := "(I)Z" } : Jvm.MethodName))]
theorem bw_17_ok : bw_17.all goodWord = true := by decide +kernel
def bw_18 : List Cond := [(Jvm.Cond.selects "LoopRankerModel" ({ cls := "LoopRankerModel", name := "remove", desc := "(I)Z" } : Jvm.MethodName) ({ cls := "LoopRankerModel", name := "remove", desc := "(I)Z" } : Jvm.MethodName)), (Jvm.Cond.code ({ cls := "LoopRankerModel", name := "remove", desc := "(I)Z" } : Jvm.MethodName) prog_6_method_7_code (4 : Nat) (Option.some Jvm.ClassFile.FieldType.boolean)), (Jvm.Cond.methodLink "LoopRankerLaw" (36 : Nat) ({ cls := "LoopRankerModel", name := "transitions", desc := "()I" } : Jvm.MethodName)), (Jvm.Cond.instanceMethod ({ cls := "LoopRankerModel", name := "transitions", desc := "()I" } : Jvm.MethodName)), (Jvm.Cond.selects "LoopRankerModel" ({ cls := "LoopRankerModel", name := "transitions", desc := "()I" } : Jvm.MethodName) ({ cls := "LoopRankerModel", name := "transitions", desc := "()I" } : Jvm.MethodName)), (Jvm.Cond.code ({ cls := "LoopRankerModel", name := "transitions", desc := "()I" } : Jvm.MethodName) prog_6_method_8_code (1 : Nat) (Option.some Jvm.ClassFile.FieldType.int)), (Jvm.Cond.methodLink "LoopRankerLaw" (41 : Nat) ({ cls := "LoopRankerModel", name := "greatest", desc := "(III)J" } : Jvm.MethodName)), (Jvm.Cond.instanceMethod ({ cls := "LoopRankerModel", name := "greatest", desc := "(III)J" } : Jvm.MethodName)), (Jvm.Cond.selects "LoopRankerModel" ({ cls := "LoopRankerModel", name := "greatest", desc := "(III)J" } : Jvm.MethodName) ({ cls := "LoopRankerModel", name := "greatest", desc := "(III)J" } : Jvm.MethodName)), (Jvm.Cond.code ({ cls := "LoopRankerModel", name := "greatest", desc := "(III)J" } : Jvm.MethodName) prog_6_method_16_code (4 : Nat) (Option.some Jvm.ClassFile.FieldType.long)), (Jvm.Cond.constantLong "LoopRankerModel" (73 : Nat) (4611686018427387904 : Int64)), (Jvm.Cond.methodLink "LoopRankerModel" (75 : Nat) ({ cls := "LoopRankerModel", name := "empty", desc := "(I)Z" } : Jvm.MethodName)), (Jvm.Cond.instanceMethod ({ cls := "LoopRankerModel", name := "empty", desc := "(I)Z" } : Jvm.MethodName)), (Jvm.Cond.code ({ cls := "LoopRankerModel", name := "empty", desc := "(I)Z" } : Jvm.MethodName) prog_6_method_13_code (2 : Nat) (Option.some Jvm.ClassFile.FieldType.boolean)), (Jvm.Cond.methodLink "LoopRankerModel" (65 : Nat) ({ cls := "LoopRankerModel", name := "look", desc := "(III)V" } : Jvm.MethodName)), (Jvm.Cond.instanceMethod ({ cls := "LoopRankerModel", name := "look", desc := "(III)V" } : Jvm.MethodName)), (Jvm.Cond.code ({ cls := "LoopRankerModel", name := "look", desc := "(III)V" } : Jvm.MethodName) prog_6_method_10_code (8 : Nat) (Option.none : Option Jvm.ClassFile.FieldType)), (Jvm.Cond.methodLink "LoopRankerModel" (57 : Nat) ({ cls := "LoopRankerModel", name := "meet", desc := "(IJJJII)V" } : Jvm.MethodName)), (Jvm.Cond.instanceMethod ({ cls := "LoopRankerModel", name := "meet", desc := "(IJJJII)V" } : Jvm.MethodName)), (Jvm.Cond.code ({ cls := "LoopRankerModel", name := "meet", desc := "(IJJJII)V" } : Jvm.MethodName) prog_6_method_9_code (18 : Nat) (Option.none : Option Jvm.ClassFile.FieldType))]
theorem bw_18_ok : bw_18.all goodWord = true := by decide +kernel
def bw_19 : List Cond := [(Jvm.Cond.constantLong "LoopRankerModel" (78 : Nat) (-4611686018427387904 : Int64)), (Jvm.Cond.methodLink "LoopRankerModel" (80 : Nat) ({ cls := "LoopRankerModel", name := "said", desc := "(III)Z" } : Jvm.MethodName)), (Jvm.Cond.instanceMethod ({ cls := "LoopRankerModel", name := "said", desc := "(III)Z" } : Jvm.MethodName)), (Jvm.Cond.code ({ cls := "LoopRankerModel", name := "said", desc := "(III)Z" } : Jvm.MethodName) prog_6_method_14_code (4 : Nat) (Option.some Jvm.ClassFile.FieldType.boolean)), (Jvm.Cond.methodLink "LoopRankerModel" (69 : Nat) ({ cls := "LoopRankerModel", name := "endless", desc := "(III)Z" } : Jvm.MethodName)), (Jvm.Cond.instanceMethod ({ cls := "LoopRankerModel", name := "endless", desc := "(III)Z" } : Jvm.MethodName)), (Jvm.Cond.code ({ cls := "LoopRankerModel", name := "endless", desc := "(III)Z" } : Jvm.MethodName) prog_6_method_12_code (6 : Nat) (Option.some Jvm.ClassFile.FieldType.boolean)), (Jvm.Cond.methodLink "LoopRankerModel" (61 : Nat) ({ cls := "LoopRankerModel", name := "way", desc := "(IIIII)Z" } : Jvm.MethodName)), (Jvm.Cond.instanceMethod ({ cls := "LoopRankerModel", name := "way", desc := "(IIIII)Z" } : Jvm.MethodName)), (Jvm.Cond.code ({ cls := "LoopRankerModel", name := "way", desc := "(IIIII)Z" } : Jvm.MethodName) prog_6_method_11_code (8 : Nat) (Option.some Jvm.ClassFile.FieldType.boolean)), (Jvm.Cond.methodLink "LoopRankerModel" (83 : Nat) ({ cls := "LoopRankerModel", name := "down", desc := "(JJ)J" } : Jvm.MethodName)), (Jvm.Cond.static ({ cls := "LoopRankerModel", name := "down", desc := "(JJ)J" } : Jvm.MethodName)), (Jvm.Cond.code ({ cls := "LoopRankerModel", name := "down", desc := "(JJ)J" } : Jvm.MethodName) prog_6_method_15_code (6 : Nat) (Option.some Jvm.ClassFile.FieldType.long)), (Jvm.Cond.methodLink "LoopRankerLaw" (46 : Nat) ({ cls := "LoopRankerModel", name := "holds", desc := "(IIII)Z" } : Jvm.MethodName)), (Jvm.Cond.instanceMethod ({ cls := "LoopRankerModel", name := "holds", desc := "(IIII)Z" } : Jvm.MethodName)), (Jvm.Cond.selects "LoopRankerModel" ({ cls := "LoopRankerModel", name := "holds", desc := "(IIII)Z" } : Jvm.MethodName) ({ cls := "LoopRankerModel", name := "holds", desc := "(IIII)Z" } : Jvm.MethodName)), (Jvm.Cond.code ({ cls := "LoopRankerModel", name := "holds", desc := "(IIII)Z" } : Jvm.MethodName) prog_6_method_19_code (5 : Nat) (Option.some Jvm.ClassFile.FieldType.boolean)), (Jvm.Cond.methodLink "LoopRankerModel" (91 : Nat) ({ cls := "LoopRankerModel", name := "has", desc := "(IIII)Z" } : Jvm.MethodName)), (Jvm.Cond.instanceMethod ({ cls := "LoopRankerModel", name := "has", desc := "(IIII)Z" } : Jvm.MethodName)), (Jvm.Cond.code ({ cls := "LoopRankerModel", name := "has", desc := "(IIII)Z" } : Jvm.MethodName) prog_6_method_18_code (9 : Nat) (Option.some Jvm.ClassFile.FieldType.boolean))]
theorem bw_19_ok : bw_19.all goodWord = true := by decide +kernel
def bw_20 : List Cond := [(Jvm.Cond.methodLink "LoopRankerModel" (87 : Nat) ({ cls := "LoopRankerModel", name := "never", desc := "(IIII)Z" } : Jvm.MethodName)), (Jvm.Cond.instanceMethod ({ cls := "LoopRankerModel", name := "never", desc := "(IIII)Z" } : Jvm.MethodName)), (Jvm.Cond.code ({ cls := "LoopRankerModel", name := "never", desc := "(IIII)Z" } : Jvm.MethodName) prog_6_method_17_code (5 : Nat) (Option.some Jvm.ClassFile.FieldType.boolean)), (Jvm.Cond.methodLink "LoopRankerLaw" (50 : Nat) ({ cls := "LoopRankerModel", name := "levels", desc := "()I" } : Jvm.MethodName)), (Jvm.Cond.instanceMethod ({ cls := "LoopRankerModel", name := "levels", desc := "()I" } : Jvm.MethodName)), (Jvm.Cond.selects "LoopRankerModel" ({ cls := "LoopRankerModel", name := "levels", desc := "()I" } : Jvm.MethodName) ({ cls := "LoopRankerModel", name := "levels", desc := "()I" } : Jvm.MethodName)), (Jvm.Cond.code ({ cls := "LoopRankerModel", name := "levels", desc := "()I" } : Jvm.MethodName) prog_6_method_26_code (1 : Nat) (Option.some Jvm.ClassFile.FieldType.int)), (Jvm.Cond.methodLink "LoopRankerModel" (116 : Nat) ({ cls := "LoopRankerModel", name := "prove", desc := "()V" } : Jvm.MethodName)), (Jvm.Cond.instanceMethod ({ cls := "LoopRankerModel", name := "prove", desc := "()V" } : Jvm.MethodName)), (Jvm.Cond.code ({ cls := "LoopRankerModel", name := "prove", desc := "()V" } : Jvm.MethodName) prog_6_method_25_code (2 : Nat) (Option.none : Option Jvm.ClassFile.FieldType)), (Jvm.Cond.methodLink "LoopRankerModel" (108 : Nat) ({ cls := "LoopRankerModel", name := "left", desc := "()I" } : Jvm.MethodName)), (Jvm.Cond.instanceMethod ({ cls := "LoopRankerModel", name := "left", desc := "()I" } : Jvm.MethodName)), (Jvm.Cond.code ({ cls := "LoopRankerModel", name := "left", desc := "()I" } : Jvm.MethodName) prog_6_method_24_code (3 : Nat) (Option.some Jvm.ClassFile.FieldType.int)), (Jvm.Cond.methodLink "LoopRankerModel" (112 : Nat) ({ cls := "LoopRankerModel", name := "level", desc := "()Z" } : Jvm.MethodName)), (Jvm.Cond.instanceMethod ({ cls := "LoopRankerModel", name := "level", desc := "()Z" } : Jvm.MethodName)), (Jvm.Cond.code ({ cls := "LoopRankerModel", name := "level", desc := "()Z" } : Jvm.MethodName) prog_6_method_23_code (5 : Nat) (Option.some Jvm.ClassFile.FieldType.boolean)), (Jvm.Cond.methodLink "LoopRankerModel" (98 : Nat) ({ cls := "LoopRankerModel", name := "removes", desc := "(II)I" } : Jvm.MethodName)), (Jvm.Cond.instanceMethod ({ cls := "LoopRankerModel", name := "removes", desc := "(II)I" } : Jvm.MethodName)), (Jvm.Cond.code ({ cls := "LoopRankerModel", name := "removes", desc := "(II)I" } : Jvm.MethodName) prog_6_method_20_code (5 : Nat) (Option.some Jvm.ClassFile.FieldType.int)), (Jvm.Cond.methodLink "LoopRankerModel" (105 : Nat) ({ cls := "LoopRankerModel", name := "before", desc := "(IIII)Z" } : Jvm.MethodName))]
theorem bw_20_ok : bw_20.all goodWord = true := by decide +kernel
def bw_21 : List Cond := [(Jvm.Cond.static ({ cls := "LoopRankerModel", name := "before", desc := "(IIII)Z" } : Jvm.MethodName)), (Jvm.Cond.code ({ cls := "LoopRankerModel", name := "before", desc := "(IIII)Z" } : Jvm.MethodName) prog_6_method_22_code (6 : Nat) (Option.some Jvm.ClassFile.FieldType.boolean)), (Jvm.Cond.methodLink "LoopRankerModel" (94 : Nat) ({ cls := "LoopRankerModel", name := "size", desc := "(I)I" } : Jvm.MethodName)), (Jvm.Cond.static ({ cls := "LoopRankerModel", name := "size", desc := "(I)I" } : Jvm.MethodName)), (Jvm.Cond.code ({ cls := "LoopRankerModel", name := "size", desc := "(I)I" } : Jvm.MethodName) prog_6_method_21_code (1 : Nat) (Option.some Jvm.ClassFile.FieldType.int)), (Jvm.Cond.methodLink "LoopRankerLaw" (55 : Nat) ({ cls := "LoopRankerModel", name := "proven", desc := "()Z" } : Jvm.MethodName)), (Jvm.Cond.instanceMethod ({ cls := "LoopRankerModel", name := "proven", desc := "()Z" } : Jvm.MethodName)), (Jvm.Cond.selects "LoopRankerModel" ({ cls := "LoopRankerModel", name := "proven", desc := "()Z" } : Jvm.MethodName) ({ cls := "LoopRankerModel", name := "proven", desc := "()Z" } : Jvm.MethodName)), (Jvm.Cond.code ({ cls := "LoopRankerModel", name := "proven", desc := "()Z" } : Jvm.MethodName) prog_6_method_27_code (1 : Nat) (Option.some Jvm.ClassFile.FieldType.boolean)), (Jvm.Cond.methodLink "LoopRankerLaw" (60 : Nat) ({ cls := "LoopRankerModel", name := "levelOf", desc := "(I)I" } : Jvm.MethodName)), (Jvm.Cond.instanceMethod ({ cls := "LoopRankerModel", name := "levelOf", desc := "(I)I" } : Jvm.MethodName)), (Jvm.Cond.selects "LoopRankerModel" ({ cls := "LoopRankerModel", name := "levelOf", desc := "(I)I" } : Jvm.MethodName) ({ cls := "LoopRankerModel", name := "levelOf", desc := "(I)I" } : Jvm.MethodName)), (Jvm.Cond.code ({ cls := "LoopRankerModel", name := "levelOf", desc := "(I)I" } : Jvm.MethodName) prog_6_method_28_code (2 : Nat) (Option.some Jvm.ClassFile.FieldType.int)), (Jvm.Cond.methodLink "LoopRankerLaw" (65 : Nat) ({ cls := "LoopRankerModel", name := "coefficient", desc := "(II)I" } : Jvm.MethodName)), (Jvm.Cond.instanceMethod ({ cls := "LoopRankerModel", name := "coefficient", desc := "(II)I" } : Jvm.MethodName)), (Jvm.Cond.selects "LoopRankerModel" ({ cls := "LoopRankerModel", name := "coefficient", desc := "(II)I" } : Jvm.MethodName) ({ cls := "LoopRankerModel", name := "coefficient", desc := "(II)I" } : Jvm.MethodName)), (Jvm.Cond.code ({ cls := "LoopRankerModel", name := "coefficient", desc := "(II)I" } : Jvm.MethodName) prog_6_method_29_code (3 : Nat) (Option.some Jvm.ClassFile.FieldType.int)), (Jvm.Cond.methodLink "LoopRankerLaw" (70 : Nat) ({ cls := "LoopRankerModel", name := "floor", desc := "(I)J" } : Jvm.MethodName)), (Jvm.Cond.instanceMethod ({ cls := "LoopRankerModel", name := "floor", desc := "(I)J" } : Jvm.MethodName)), (Jvm.Cond.selects "LoopRankerModel" ({ cls := "LoopRankerModel", name := "floor", desc := "(I)J" } : Jvm.MethodName) ({ cls := "LoopRankerModel", name := "floor", desc := "(I)J" } : Jvm.MethodName))]
theorem bw_21_ok : bw_21.all goodWord = true := by decide +kernel
def bw_22 : List Cond := [(Jvm.Cond.code ({ cls := "LoopRankerModel", name := "floor", desc := "(I)J" } : Jvm.MethodName) prog_6_method_31_code (2 : Nat) (Option.some Jvm.ClassFile.FieldType.long)), (Jvm.Cond.methodLink "LoopRankerModel" (119 : Nat) ({ cls := "LoopRankerModel", name := "floorOf", desc := "(I)J" } : Jvm.MethodName)), (Jvm.Cond.instanceMethod ({ cls := "LoopRankerModel", name := "floorOf", desc := "(I)J" } : Jvm.MethodName)), (Jvm.Cond.code ({ cls := "LoopRankerModel", name := "floorOf", desc := "(I)J" } : Jvm.MethodName) prog_6_method_30_code (9 : Nat) (Option.some Jvm.ClassFile.FieldType.long)), (Jvm.Cond.methodLink "LoopRankerLaw" (75 : Nat) ({ cls := "LoopRankerModel", name := "start", desc := "(II)Z" } : Jvm.MethodName)), (Jvm.Cond.instanceMethod ({ cls := "LoopRankerModel", name := "start", desc := "(II)Z" } : Jvm.MethodName)), (Jvm.Cond.selects "LoopRankerModel" ({ cls := "LoopRankerModel", name := "start", desc := "(II)Z" } : Jvm.MethodName) ({ cls := "LoopRankerModel", name := "start", desc := "(II)Z" } : Jvm.MethodName)), (Jvm.Cond.code ({ cls := "LoopRankerModel", name := "start", desc := "(II)Z" } : Jvm.MethodName) prog_6_method_32_code (3 : Nat) (Option.some Jvm.ClassFile.FieldType.boolean)), (Jvm.Cond.constant "LoopRankerModel" (123 : Nat) (1000000 : Int32)), (Jvm.Cond.methodLink "LoopRankerLaw" (79 : Nat) ({ cls := "LoopRankerModel", name := "fire", desc := "(I)Z" } : Jvm.MethodName)), (Jvm.Cond.instanceMethod ({ cls := "LoopRankerModel", name := "fire", desc := "(I)Z" } : Jvm.MethodName)), (Jvm.Cond.selects "LoopRankerModel" ({ cls := "LoopRankerModel", name := "fire", desc := "(I)Z" } : Jvm.MethodName) ({ cls := "LoopRankerModel", name := "fire", desc := "(I)Z" } : Jvm.MethodName)), (Jvm.Cond.code ({ cls := "LoopRankerModel", name := "fire", desc := "(I)Z" } : Jvm.MethodName) prog_6_method_34_code (7 : Nat) (Option.some Jvm.ClassFile.FieldType.boolean)), (Jvm.Cond.methodLink "LoopRankerModel" (137 : Nat) ({ cls := "LoopRankerModel", name := "far", desc := "(J)Z" } : Jvm.MethodName)), (Jvm.Cond.static ({ cls := "LoopRankerModel", name := "far", desc := "(J)Z" } : Jvm.MethodName)), (Jvm.Cond.code ({ cls := "LoopRankerModel", name := "far", desc := "(J)Z" } : Jvm.MethodName) prog_6_method_33_code (2 : Nat) (Option.some Jvm.ClassFile.FieldType.boolean)), (Jvm.Cond.constantLong "LoopRankerModel" (133 : Nat) (-1000000000000 : Int64)), (Jvm.Cond.constantLong "LoopRankerModel" (135 : Nat) (1000000000000 : Int64)), (Jvm.Cond.methodLink "LoopRankerLaw" (83 : Nat) ({ cls := "LoopRankerModel", name := "value", desc := "(I)J" } : Jvm.MethodName)), (Jvm.Cond.instanceMethod ({ cls := "LoopRankerModel", name := "value", desc := "(I)J" } : Jvm.MethodName))]
theorem bw_22_ok : bw_22.all goodWord = true := by decide +kernel
def bw_23 : List Cond := [(Jvm.Cond.selects "LoopRankerModel" ({ cls := "LoopRankerModel", name := "value", desc := "(I)J" } : Jvm.MethodName) ({ cls := "LoopRankerModel", name := "value", desc := "(I)J" } : Jvm.MethodName)), (Jvm.Cond.code ({ cls := "LoopRankerModel", name := "value", desc := "(I)J" } : Jvm.MethodName) prog_6_method_35_code (2 : Nat) (Option.some Jvm.ClassFile.FieldType.long)), (Jvm.Cond.methodLink "LoopRankerLaw" (87 : Nat) ({ cls := "LoopRankerModel", name := "fired", desc := "()I" } : Jvm.MethodName)), (Jvm.Cond.instanceMethod ({ cls := "LoopRankerModel", name := "fired", desc := "()I" } : Jvm.MethodName)), (Jvm.Cond.selects "LoopRankerModel" ({ cls := "LoopRankerModel", name := "fired", desc := "()I" } : Jvm.MethodName) ({ cls := "LoopRankerModel", name := "fired", desc := "()I" } : Jvm.MethodName)), (Jvm.Cond.code ({ cls := "LoopRankerModel", name := "fired", desc := "()I" } : Jvm.MethodName) prog_6_method_36_code (1 : Nat) (Option.some Jvm.ClassFile.FieldType.int)), (Jvm.Cond.methodLink "LoopRankerLaw" (91 : Nat) ({ cls := "LoopRankerModel", name := "rank", desc := "(I)J" } : Jvm.MethodName)), (Jvm.Cond.instanceMethod ({ cls := "LoopRankerModel", name := "rank", desc := "(I)J" } : Jvm.MethodName)), (Jvm.Cond.selects "LoopRankerModel" ({ cls := "LoopRankerModel", name := "rank", desc := "(I)J" } : Jvm.MethodName) ({ cls := "LoopRankerModel", name := "rank", desc := "(I)J" } : Jvm.MethodName)), (Jvm.Cond.code ({ cls := "LoopRankerModel", name := "rank", desc := "(I)J" } : Jvm.MethodName) prog_6_method_37_code (2 : Nat) (Option.some Jvm.ClassFile.FieldType.long)), (Jvm.Cond.methodLink "LoopRankerLaw" (96 : Nat) ({ cls := "LoopRankerModel", name := "budget", desc := "()J" } : Jvm.MethodName)), (Jvm.Cond.instanceMethod ({ cls := "LoopRankerModel", name := "budget", desc := "()J" } : Jvm.MethodName)), (Jvm.Cond.selects "LoopRankerModel" ({ cls := "LoopRankerModel", name := "budget", desc := "()J" } : Jvm.MethodName) ({ cls := "LoopRankerModel", name := "budget", desc := "()J" } : Jvm.MethodName)), (Jvm.Cond.code ({ cls := "LoopRankerModel", name := "budget", desc := "()J" } : Jvm.MethodName) prog_6_method_38_code (3 : Nat) (Option.some Jvm.ClassFile.FieldType.long)), (Jvm.Cond.constantLong "LoopRankerModel" (141 : Nat) (-1 : Int64)), (Jvm.Cond.selects "LoopRanker$Guard" ({ cls := "LoopRanker$Guard", name := "clear", desc := "()V" } : Jvm.MethodName) ({ cls := "LoopRanker$Guard", name := "clear", desc := "()V" } : Jvm.MethodName)), (Jvm.Cond.selects "LoopRanker$Proof" ({ cls := "LoopRanker$Proof", name := "listFunctions", desc := "()V" } : Jvm.MethodName) ({ cls := "LoopRanker$Proof", name := "listFunctions", desc := "()V" } : Jvm.MethodName)), (Jvm.Cond.selects "LoopRanker$Step" ({ cls := "LoopRanker$Step", name := "reset", desc := "()V" } : Jvm.MethodName) ({ cls := "LoopRanker$Step", name := "reset", desc := "()V" } : Jvm.MethodName)), (Jvm.Cond.selects "LoopRanker$Step" ({ cls := "LoopRanker$Step", name := "setRule", desc := "(IIII)V" } : Jvm.MethodName) ({ cls := "LoopRanker$Step", name := "setRule", desc := "(IIII)V" } : Jvm.MethodName)), (Jvm.Cond.selects "LoopRanker" ({ cls := "LoopRanker", name := "isStep", desc := "(I)Z" } : Jvm.MethodName) ({ cls := "LoopRanker", name := "isStep", desc := "(I)Z" } : Jvm.MethodName))]
theorem bw_23_ok : bw_23.all goodWord = true := by decide +kernel
def bw_24 : List Cond := [(Jvm.Cond.selects "LoopRanker$Step" ({ cls := "LoopRanker$Step", name := "addRow", desc := "(III)V" } : Jvm.MethodName) ({ cls := "LoopRanker$Step", name := "addRow", desc := "(III)V" } : Jvm.MethodName)), (Jvm.Cond.selects "LoopRanker$Guard" ({ cls := "LoopRanker$Guard", name := "add", desc := "(III)V" } : Jvm.MethodName) ({ cls := "LoopRanker$Guard", name := "add", desc := "(III)V" } : Jvm.MethodName)), (Jvm.Cond.selects "LoopRanker$Guard" ({ cls := "LoopRanker$Guard", name := "maximise", desc := "(II)V" } : Jvm.MethodName) ({ cls := "LoopRanker$Guard", name := "maximise", desc := "(II)V" } : Jvm.MethodName)), (Jvm.Cond.selects "LoopRanker$Guard" ({ cls := "LoopRanker$Guard", name := "boundByRow", desc := "(III)V" } : Jvm.MethodName) ({ cls := "LoopRanker$Guard", name := "boundByRow", desc := "(III)V" } : Jvm.MethodName)), (Jvm.Cond.selects "LoopRanker$Guard" ({ cls := "LoopRanker$Guard", name := "lowerTo", desc := "(JJ)V" } : Jvm.MethodName) ({ cls := "LoopRanker$Guard", name := "lowerTo", desc := "(JJ)V" } : Jvm.MethodName)), (Jvm.Cond.selects "LoopRanker$Guard" ({ cls := "LoopRanker$Guard", name := "boundByPair", desc := "(IIII)V" } : Jvm.MethodName) ({ cls := "LoopRanker$Guard", name := "boundByPair", desc := "(IIII)V" } : Jvm.MethodName)), (Jvm.Cond.selects "LoopRanker$Guard" ({ cls := "LoopRanker$Guard", name := "maximumRoundedDown", desc := "()J" } : Jvm.MethodName) ({ cls := "LoopRanker$Guard", name := "maximumRoundedDown", desc := "()J" } : Jvm.MethodName)), (Jvm.Cond.selects "LoopRanker$Step" ({ cls := "LoopRanker$Step", name := "changesByAtMost", desc := "(III)Z" } : Jvm.MethodName) ({ cls := "LoopRanker$Step", name := "changesByAtMost", desc := "(III)Z" } : Jvm.MethodName)), (Jvm.Cond.selects "LoopRanker$Guard" ({ cls := "LoopRanker$Guard", name := "maximumIsAtMost", desc := "(J)Z" } : Jvm.MethodName) ({ cls := "LoopRanker$Guard", name := "maximumIsAtMost", desc := "(J)Z" } : Jvm.MethodName)), (Jvm.Cond.selects "LoopRanker$Step" ({ cls := "LoopRanker$Step", name := "isBounded", desc := "(II)Z" } : Jvm.MethodName) ({ cls := "LoopRanker$Step", name := "isBounded", desc := "(II)Z" } : Jvm.MethodName)), (Jvm.Cond.selects "LoopRanker$Guard" ({ cls := "LoopRanker$Guard", name := "hasMaximum", desc := "()Z" } : Jvm.MethodName) ({ cls := "LoopRanker$Guard", name := "hasMaximum", desc := "()Z" } : Jvm.MethodName)), (Jvm.Cond.selects "LoopRanker$Proof" ({ cls := "LoopRanker$Proof", name := "renew", desc := "([LLoopRanker$Step;I)V" } : Jvm.MethodName) ({ cls := "LoopRanker$Proof", name := "renew", desc := "([LLoopRanker$Step;I)V" } : Jvm.MethodName)), (Jvm.Cond.selects "LoopRanker$Step" ({ cls := "LoopRanker$Step", name := "findKinds", desc := "([I[I)V" } : Jvm.MethodName) ({ cls := "LoopRanker$Step", name := "findKinds", desc := "([I[I)V" } : Jvm.MethodName)), (Jvm.Cond.selects "LoopRanker$Proof" ({ cls := "LoopRanker$Proof", name := "bestFunction", desc := "([LLoopRanker$Step;I)I" } : Jvm.MethodName) ({ cls := "LoopRanker$Proof", name := "bestFunction", desc := "([LLoopRanker$Step;I)I" } : Jvm.MethodName)), (Jvm.Cond.selects "LoopRanker$Proof" ({ cls := "LoopRanker$Proof", name := "countRemoved", desc := "(I[LLoopRanker$Step;I)I" } : Jvm.MethodName) ({ cls := "LoopRanker$Proof", name := "countRemoved", desc := "(I[LLoopRanker$Step;I)I" } : Jvm.MethodName)), (Jvm.Cond.selects "LoopRanker$Proof" ({ cls := "LoopRanker$Proof", name := "addLevel", desc := "(I[LLoopRanker$Step;I)V" } : Jvm.MethodName) ({ cls := "LoopRanker$Proof", name := "addLevel", desc := "(I[LLoopRanker$Step;I)V" } : Jvm.MethodName)), (Jvm.Cond.selects "LoopRanker$Proof" ({ cls := "LoopRanker$Proof", name := "hasLevel", desc := "(I)Z" } : Jvm.MethodName) ({ cls := "LoopRanker$Proof", name := "hasLevel", desc := "(I)Z" } : Jvm.MethodName)), (Jvm.Cond.selects "LoopRanker$Guard" ({ cls := "LoopRanker$Guard", name := "allows", desc := "(JJ)Z" } : Jvm.MethodName) ({ cls := "LoopRanker$Guard", name := "allows", desc := "(JJ)Z" } : Jvm.MethodName)), (Jvm.Cond.selects "LoopRanker$Step" ({ cls := "LoopRanker$Step", name := "next", desc := "(IJJ)J" } : Jvm.MethodName) ({ cls := "LoopRanker$Step", name := "next", desc := "(IJJ)J" } : Jvm.MethodName)), (Jvm.Cond.selects "LoopRanker$Proof" ({ cls := "LoopRanker$Proof", name := "functionValue", desc := "(IJJ)J" } : Jvm.MethodName) ({ cls := "LoopRanker$Proof", name := "functionValue", desc := "(IJJ)J" } : Jvm.MethodName))]
theorem bw_24_ok : bw_24.all goodWord = true := by decide +kernel
def bw_25 : List Cond := [(Jvm.Cond.selects "LoopRankerModel" ({ cls := "LoopRankerModel", name := "there", desc := "(I)Z" } : Jvm.MethodName) ({ cls := "LoopRankerModel", name := "there", desc := "(I)Z" } : Jvm.MethodName)), (Jvm.Cond.selects "LoopRankerModel" ({ cls := "LoopRankerModel", name := "empty", desc := "(I)Z" } : Jvm.MethodName) ({ cls := "LoopRankerModel", name := "empty", desc := "(I)Z" } : Jvm.MethodName)), (Jvm.Cond.selects "LoopRankerModel" ({ cls := "LoopRankerModel", name := "look", desc := "(III)V" } : Jvm.MethodName) ({ cls := "LoopRankerModel", name := "look", desc := "(III)V" } : Jvm.MethodName)), (Jvm.Cond.selects "LoopRankerModel" ({ cls := "LoopRankerModel", name := "meet", desc := "(IJJJII)V" } : Jvm.MethodName) ({ cls := "LoopRankerModel", name := "meet", desc := "(IJJJII)V" } : Jvm.MethodName)), (Jvm.Cond.selects "LoopRankerModel" ({ cls := "LoopRankerModel", name := "said", desc := "(III)Z" } : Jvm.MethodName) ({ cls := "LoopRankerModel", name := "said", desc := "(III)Z" } : Jvm.MethodName)), (Jvm.Cond.selects "LoopRankerModel" ({ cls := "LoopRankerModel", name := "endless", desc := "(III)Z" } : Jvm.MethodName) ({ cls := "LoopRankerModel", name := "endless", desc := "(III)Z" } : Jvm.MethodName)), (Jvm.Cond.selects "LoopRankerModel" ({ cls := "LoopRankerModel", name := "way", desc := "(IIIII)Z" } : Jvm.MethodName) ({ cls := "LoopRankerModel", name := "way", desc := "(IIIII)Z" } : Jvm.MethodName)), (Jvm.Cond.selects "LoopRankerModel" ({ cls := "LoopRankerModel", name := "has", desc := "(IIII)Z" } : Jvm.MethodName) ({ cls := "LoopRankerModel", name := "has", desc := "(IIII)Z" } : Jvm.MethodName)), (Jvm.Cond.selects "LoopRankerModel" ({ cls := "LoopRankerModel", name := "never", desc := "(IIII)Z" } : Jvm.MethodName) ({ cls := "LoopRankerModel", name := "never", desc := "(IIII)Z" } : Jvm.MethodName)), (Jvm.Cond.selects "LoopRankerModel" ({ cls := "LoopRankerModel", name := "prove", desc := "()V" } : Jvm.MethodName) ({ cls := "LoopRankerModel", name := "prove", desc := "()V" } : Jvm.MethodName)), (Jvm.Cond.selects "LoopRankerModel" ({ cls := "LoopRankerModel", name := "left", desc := "()I" } : Jvm.MethodName) ({ cls := "LoopRankerModel", name := "left", desc := "()I" } : Jvm.MethodName)), (Jvm.Cond.selects "LoopRankerModel" ({ cls := "LoopRankerModel", name := "level", desc := "()Z" } : Jvm.MethodName) ({ cls := "LoopRankerModel", name := "level", desc := "()Z" } : Jvm.MethodName)), (Jvm.Cond.selects "LoopRankerModel" ({ cls := "LoopRankerModel", name := "removes", desc := "(II)I" } : Jvm.MethodName) ({ cls := "LoopRankerModel", name := "removes", desc := "(II)I" } : Jvm.MethodName)), (Jvm.Cond.selects "LoopRankerModel" ({ cls := "LoopRankerModel", name := "floorOf", desc := "(I)J" } : Jvm.MethodName) ({ cls := "LoopRankerModel", name := "floorOf", desc := "(I)J" } : Jvm.MethodName))]
theorem bw_25_ok : bw_25.all goodWord = true := by decide +kernel
def BW : List Cond := bw_0 ++ (bw_1 ++ (bw_2 ++ (bw_3 ++ (bw_4 ++ (bw_5 ++ (bw_6 ++ (bw_7 ++ (bw_8 ++ (bw_9 ++ (bw_10 ++ (bw_11 ++ (bw_12 ++ (bw_13 ++ (bw_14 ++ (bw_15 ++ (bw_16 ++ (bw_17 ++ (bw_18 ++ (bw_19 ++ (bw_20 ++ (bw_21 ++ (bw_22 ++ (bw_23 ++ (bw_24 ++ (bw_25)))))))))))))))))))))))))
theorem BW_ok : ∀ w ∈ BW, goodWord w = true := by
  intro w hw
  unfold BW at hw
  simp only [List.mem_append] at hw
  rcases hw with h | h | h | h | h | h | h | h | h | h | h | h | h | h | h | h | h | h | h | h | h | h | h | h | h | h
  · exact List.all_eq_true.mp bw_0_ok w h
  · exact List.all_eq_true.mp bw_1_ok w h
  · exact List.all_eq_true.mp bw_2_ok w h
  · exact List.all_eq_true.mp bw_3_ok w h
  · exact List.all_eq_true.mp bw_4_ok w h
  · exact List.all_eq_true.mp bw_5_ok w h
  · exact List.all_eq_true.mp bw_6_ok w h
  · exact List.all_eq_true.mp bw_7_ok w h
  · exact List.all_eq_true.mp bw_8_ok w h
  · exact List.all_eq_true.mp bw_9_ok w h
  · exact List.all_eq_true.mp bw_10_ok w h
  · exact List.all_eq_true.mp bw_11_ok w h
  · exact List.all_eq_true.mp bw_12_ok w h
  · exact List.all_eq_true.mp bw_13_ok w h
  · exact List.all_eq_true.mp bw_14_ok w h
  · exact List.all_eq_true.mp bw_15_ok w h
  · exact List.all_eq_true.mp bw_16_ok w h
  · exact List.all_eq_true.mp bw_17_ok w h
  · exact List.all_eq_true.mp bw_18_ok w h
  · exact List.all_eq_true.mp bw_19_ok w h
  · exact List.all_eq_true.mp bw_20_ok w h
  · exact List.all_eq_true.mp bw_21_ok w h
  · exact List.all_eq_true.mp bw_22_ok w h
  · exact List.all_eq_true.mp bw_23_ok w h
  · exact List.all_eq_true.mp bw_24_ok w h
  · exact List.all_eq_true.mp bw_25_ok w h
theorem BW_good {c : Cond} (h : c ∈ BW) : GoodIn BW (c :: BW) := fun w hw => (List.mem_cons.mp hw).elim (fun e => e ▸ ⟨h, good_of_word (BW_ok c h)⟩) (fun h => ⟨h, good_of_word (BW_ok w h)⟩)
def nz : List Cond := [(Jvm.Cond.methodLinkNest "LoopRanker" (15 : Nat) ({ cls := "LoopRanker$Step", name := "<init>", desc := "()V" } : Jvm.MethodName) "LoopRanker"), (Jvm.Cond.methodLinkNest "LoopRanker$Step" (11 : Nat) ({ cls := "LoopRanker$Guard", name := "<init>", desc := "()V" } : Jvm.MethodName) "LoopRanker"), (Jvm.Cond.fieldLinkNest "LoopRanker" (60 : Nat) "LoopRanker$Guard" "size" "I" "LoopRanker"), (Jvm.Cond.fieldLinkNest "LoopRanker$Step" (40 : Nat) "LoopRanker$Guard" "empty" "Z" "LoopRanker"), (Jvm.Cond.fieldLinkNest "LoopRanker" (84 : Nat) "LoopRanker$Guard" "empty" "Z" "LoopRanker"), (Jvm.Cond.fieldLinkNest "LoopRanker$Proof" (78 : Nat) "LoopRanker$Guard" "empty" "Z" "LoopRanker"), (Jvm.Cond.fieldLinkNest "LoopRanker" (56 : Nat) "LoopRanker$Step" "guard" "LLoopRanker$Guard;" "LoopRanker"), (Jvm.Cond.fieldLinkNest "LoopRanker$Proof" (74 : Nat) "LoopRanker$Step" "guard" "LLoopRanker$Guard;" "LoopRanker"), (Jvm.Cond.fieldLinkNest "LoopRanker$Proof" (69 : Nat) "LoopRanker$Step" "kinds" "[I" "LoopRanker"), (Jvm.Cond.methodLinkNest "LoopRanker" (18 : Nat) ({ cls := "LoopRanker$Proof", name := "<init>", desc := "()V" } : Jvm.MethodName) "LoopRanker"), (Jvm.Cond.fieldLinkNest "LoopRanker" (124 : Nat) "LoopRanker$Proof" "levelU" "[I" "LoopRanker"), (Jvm.Cond.fieldLinkNest "LoopRanker" (127 : Nat) "LoopRanker$Proof" "levelV" "[I" "LoopRanker"), (Jvm.Cond.fieldLinkNest "LoopRanker" (130 : Nat) "LoopRanker$Proof" "levelFloor" "[J" "LoopRanker"), (Jvm.Cond.fieldLinkNest "LoopRanker" (117 : Nat) "LoopRanker$Proof" "levelOfStep" "[I" "LoopRanker"), (Jvm.Cond.fieldLinkNest "LoopRanker" (111 : Nat) "LoopRanker$Proof" "levelCount" "I" "LoopRanker"), (Jvm.Cond.fieldLinkNest "LoopRanker" (114 : Nat) "LoopRanker$Proof" "leftCount" "I" "LoopRanker"), (Jvm.Cond.fieldLinkNest "LoopRanker" (40 : Nat) "LoopRanker$Proof" "fresh" "Z" "LoopRanker"), (Jvm.Cond.methodLinkNest "LoopRanker" (37 : Nat) ({ cls := "LoopRanker$Step", name := "reset", desc := "()V" } : Jvm.MethodName) "LoopRanker"), (Jvm.Cond.methodLinkNest "LoopRanker$Step" (29 : Nat) ({ cls := "LoopRanker$Guard", name := "clear", desc := "()V" } : Jvm.MethodName) "LoopRanker"), (Jvm.Cond.methodLinkNest "LoopRanker" (65 : Nat) ({ cls := "LoopRanker$Step", name := "addRow", desc := "(III)V" } : Jvm.MethodName) "LoopRanker"), (Jvm.Cond.methodLinkNest "LoopRanker$Step" (36 : Nat) ({ cls := "LoopRanker$Guard", name := "add", desc := "(III)V" } : Jvm.MethodName) "LoopRanker"), (Jvm.Cond.methodLinkNest "LoopRanker" (76 : Nat) ({ cls := "LoopRanker$Step", name := "setRule", desc := "(IIII)V" } : Jvm.MethodName) "LoopRanker"), (Jvm.Cond.methodLinkNest "LoopRanker" (89 : Nat) ({ cls := "LoopRanker$Guard", name := "maximise", desc := "(II)V" } : Jvm.MethodName) "LoopRanker"), (Jvm.Cond.methodLinkNest "LoopRanker" (93 : Nat) ({ cls := "LoopRanker$Guard", name := "maximumRoundedDown", desc := "()J" } : Jvm.MethodName) "LoopRanker"), (Jvm.Cond.methodLinkNest "LoopRanker" (99 : Nat) ({ cls := "LoopRanker$Step", name := "changesByAtMost", desc := "(III)Z" } : Jvm.MethodName) "LoopRanker"), (Jvm.Cond.methodLinkNest "LoopRanker$Step" (43 : Nat) ({ cls := "LoopRanker$Guard", name := "maximise", desc := "(II)V" } : Jvm.MethodName) "LoopRanker"), (Jvm.Cond.methodLinkNest "LoopRanker$Step" (47 : Nat) ({ cls := "LoopRanker$Guard", name := "maximumIsAtMost", desc := "(J)Z" } : Jvm.MethodName) "LoopRanker"), (Jvm.Cond.methodLinkNest "LoopRanker" (103 : Nat) ({ cls := "LoopRanker$Step", name := "isBounded", desc := "(II)Z" } : Jvm.MethodName) "LoopRanker"), (Jvm.Cond.methodLinkNest "LoopRanker$Step" (51 : Nat) ({ cls := "LoopRanker$Guard", name := "hasMaximum", desc := "()Z" } : Jvm.MethodName) "LoopRanker"), (Jvm.Cond.methodLinkNest "LoopRanker" (107 : Nat) ({ cls := "LoopRanker$Proof", name := "renew", desc := "([LLoopRanker$Step;I)V" } : Jvm.MethodName) "LoopRanker"), (Jvm.Cond.methodLinkNest "LoopRanker$Proof" (51 : Nat) ({ cls := "LoopRanker$Step", name := "findKinds", desc := "([I[I)V" } : Jvm.MethodName) "LoopRanker"), (Jvm.Cond.methodLinkNest "LoopRanker$Proof" (83 : Nat) ({ cls := "LoopRanker$Guard", name := "maximise", desc := "(II)V" } : Jvm.MethodName) "LoopRanker"), (Jvm.Cond.methodLinkNest "LoopRanker$Proof" (87 : Nat) ({ cls := "LoopRanker$Guard", name := "maximumRoundedDown", desc := "()J" } : Jvm.MethodName) "LoopRanker"), (Jvm.Cond.methodLinkNest "LoopRanker" (121 : Nat) ({ cls := "LoopRanker$Proof", name := "hasLevel", desc := "(I)Z" } : Jvm.MethodName) "LoopRanker"), (Jvm.Cond.methodLinkNest "LoopRanker" (136 : Nat) ({ cls := "LoopRanker$Guard", name := "allows", desc := "(JJ)Z" } : Jvm.MethodName) "LoopRanker"), (Jvm.Cond.methodLinkNest "LoopRanker" (139 : Nat) ({ cls := "LoopRanker$Step", name := "next", desc := "(IJJ)J" } : Jvm.MethodName) "LoopRanker"), (Jvm.Cond.methodLinkNest "LoopRanker" (145 : Nat) ({ cls := "LoopRanker$Proof", name := "functionValue", desc := "(IJJ)J" } : Jvm.MethodName) "LoopRanker")]
theorem nz_nest : ∀ w ∈ nz, wk_nest w := by
  intro w hw
  simp only [nz, List.mem_cons, List.not_mem_nil, or_false] at hw
  rcases hw with rfl | rfl | rfl | rfl | rfl | rfl | rfl | rfl | rfl | rfl | rfl | rfl | rfl | rfl | rfl | rfl | rfl | rfl | rfl | rfl | rfl | rfl | rfl | rfl | rfl | rfl | rfl | rfl | rfl | rfl | rfl | rfl | rfl | rfl | rfl | rfl | rfl
  all_goals first | exact Or.inl ⟨_, _, _, _, _, _, rfl⟩ | exact Or.inr ⟨_, _, _, _, rfl⟩
abbrev b_Guard_init : ByteArray := prog_2_method_1_code
def y_Guard_init : MethodName := ⟨"LoopRanker$Guard", "<init>", "()V"⟩
abbrev rm_Guard_init : Room := { frames := 1, cells := 3, slots := 12, locals := 23 }
theorem kw_Guard_init : Cond.code y_Guard_init b_Guard_init 1 none ∈ BW := (List.mem_append_right _ (List.mem_append_left _ (List.mem_of_getElem? (i := 3) rfl)))
abbrev b_Guard_clear : ByteArray := prog_2_method_2_code
def y_Guard_clear : MethodName := ⟨"LoopRanker$Guard", "clear", "()V"⟩
abbrev rm_Guard_clear : Room := { frames := 0, cells := 0, slots := 0, locals := 0 }
theorem kw_Guard_clear : Cond.code y_Guard_clear b_Guard_clear 1 none ∈ BW := (List.mem_append_right _ (List.mem_append_left _ (List.mem_of_getElem? (i := 7) rfl)))
abbrev b_Guard_add : ByteArray := prog_2_method_3_code
def y_Guard_add : MethodName := ⟨"LoopRanker$Guard", "add", "(III)V"⟩
abbrev rm_Guard_add : Room := { frames := 3, cells := 0, slots := 0, locals := 83 }
theorem kw_Guard_add : Cond.code y_Guard_add b_Guard_add 4 none ∈ BW := (List.mem_append_right _ (List.mem_append_right _ (List.mem_append_right _ (List.mem_append_right _ (List.mem_append_right _ (List.mem_append_right _ (List.mem_append_right _ (List.mem_append_left _ (List.mem_of_getElem? (i := 7) rfl)))))))))
abbrev b_Guard_allows : ByteArray := prog_2_method_4_code
def y_Guard_allows : MethodName := ⟨"LoopRanker$Guard", "allows", "(JJ)Z"⟩
abbrev rm_Guard_allows : Room := { frames := 0, cells := 0, slots := 0, locals := 0 }
theorem kw_Guard_allows : Cond.code y_Guard_allows b_Guard_allows 6 (some .boolean) ∈ BW := (List.mem_append_right _ (List.mem_append_right _ (List.mem_append_right _ (List.mem_append_right _ (List.mem_append_right _ (List.mem_append_right _ (List.mem_append_right _ (List.mem_append_right _ (List.mem_append_right _ (List.mem_append_right _ (List.mem_append_right _ (List.mem_append_right _ (List.mem_append_left _ (List.mem_of_getElem? (i := 19) rfl))))))))))))))
abbrev b_Guard_maximise : ByteArray := prog_2_method_5_code
def y_Guard_maximise : MethodName := ⟨"LoopRanker$Guard", "maximise", "(II)V"⟩
abbrev rm_Guard_maximise : Room := { frames := 2, cells := 0, slots := 0, locals := 59 }
theorem kw_Guard_maximise : Cond.code y_Guard_maximise b_Guard_maximise 5 none ∈ BW := (List.mem_append_right _ (List.mem_append_right _ (List.mem_append_right _ (List.mem_append_right _ (List.mem_append_right _ (List.mem_append_right _ (List.mem_append_right _ (List.mem_append_left _ (List.mem_of_getElem? (i := 10) rfl)))))))))
abbrev b_Guard_boundByRow : ByteArray := prog_2_method_6_code
def y_Guard_boundByRow : MethodName := ⟨"LoopRanker$Guard", "boundByRow", "(III)V"⟩
abbrev rm_Guard_boundByRow : Room := { frames := 1, cells := 0, slots := 0, locals := 27 }
theorem kw_Guard_boundByRow : Cond.code y_Guard_boundByRow b_Guard_boundByRow 5 none ∈ BW := (List.mem_append_right _ (List.mem_append_right _ (List.mem_append_right _ (List.mem_append_right _ (List.mem_append_right _ (List.mem_append_right _ (List.mem_append_right _ (List.mem_append_left _ (List.mem_of_getElem? (i := 13) rfl)))))))))
abbrev b_Guard_boundByPair : ByteArray := prog_2_method_7_code
def y_Guard_boundByPair : MethodName := ⟨"LoopRanker$Guard", "boundByPair", "(IIII)V"⟩
abbrev rm_Guard_boundByPair : Room := { frames := 1, cells := 0, slots := 0, locals := 27 }
theorem kw_Guard_boundByPair : Cond.code y_Guard_boundByPair b_Guard_boundByPair 13 none ∈ BW := (List.mem_append_right _ (List.mem_append_right _ (List.mem_append_right _ (List.mem_append_right _ (List.mem_append_right _ (List.mem_append_right _ (List.mem_append_right _ (List.mem_append_right _ (List.mem_append_left _ (List.mem_of_getElem? (i := 3) rfl))))))))))
abbrev b_Guard_lowerTo : ByteArray := prog_2_method_8_code
def y_Guard_lowerTo : MethodName := ⟨"LoopRanker$Guard", "lowerTo", "(JJ)V"⟩
abbrev rm_Guard_lowerTo : Room := { frames := 0, cells := 0, slots := 0, locals := 0 }
theorem kw_Guard_lowerTo : Cond.code y_Guard_lowerTo b_Guard_lowerTo 5 none ∈ BW := (List.mem_append_right _ (List.mem_append_right _ (List.mem_append_right _ (List.mem_append_right _ (List.mem_append_right _ (List.mem_append_right _ (List.mem_append_right _ (List.mem_append_right _ (List.mem_append_left _ (List.mem_of_getElem? (i := 0) rfl))))))))))
abbrev b_Guard_hasMaximum : ByteArray := prog_2_method_9_code
def y_Guard_hasMaximum : MethodName := ⟨"LoopRanker$Guard", "hasMaximum", "()Z"⟩
abbrev rm_Guard_hasMaximum : Room := { frames := 0, cells := 0, slots := 0, locals := 0 }
theorem kw_Guard_hasMaximum : Cond.code y_Guard_hasMaximum b_Guard_hasMaximum 1 (some .boolean) ∈ BW := (List.mem_append_right _ (List.mem_append_right _ (List.mem_append_right _ (List.mem_append_right _ (List.mem_append_right _ (List.mem_append_right _ (List.mem_append_right _ (List.mem_append_right _ (List.mem_append_right _ (List.mem_append_right _ (List.mem_append_left _ (List.mem_of_getElem? (i := 7) rfl))))))))))))
abbrev b_Guard_maximumIsAtMost : ByteArray := prog_2_method_10_code
def y_Guard_maximumIsAtMost : MethodName := ⟨"LoopRanker$Guard", "maximumIsAtMost", "(J)Z"⟩
abbrev rm_Guard_maximumIsAtMost : Room := { frames := 0, cells := 0, slots := 0, locals := 0 }
theorem kw_Guard_maximumIsAtMost : Cond.code y_Guard_maximumIsAtMost b_Guard_maximumIsAtMost 3 (some .boolean) ∈ BW := (List.mem_append_right _ (List.mem_append_right _ (List.mem_append_right _ (List.mem_append_right _ (List.mem_append_right _ (List.mem_append_right _ (List.mem_append_right _ (List.mem_append_right _ (List.mem_append_right _ (List.mem_append_right _ (List.mem_append_left _ (List.mem_of_getElem? (i := 3) rfl))))))))))))
abbrev b_Guard_maximumRoundedDown : ByteArray := prog_2_method_11_code
def y_Guard_maximumRoundedDown : MethodName := ⟨"LoopRanker$Guard", "maximumRoundedDown", "()J"⟩
abbrev rm_Guard_maximumRoundedDown : Room := { frames := 1, cells := 0, slots := 0, locals := 25 }
theorem kw_Guard_maximumRoundedDown : Cond.code y_Guard_maximumRoundedDown b_Guard_maximumRoundedDown 1 (some .long) ∈ BW := (List.mem_append_right _ (List.mem_append_right _ (List.mem_append_right _ (List.mem_append_right _ (List.mem_append_right _ (List.mem_append_right _ (List.mem_append_right _ (List.mem_append_right _ (List.mem_append_right _ (List.mem_append_left _ (List.mem_of_getElem? (i := 10) rfl)))))))))))
abbrev b_Guard_cross : ByteArray := prog_2_method_12_code
def y_Guard_cross : MethodName := ⟨"LoopRanker$Guard", "cross", "(JJJJ)J"⟩
abbrev rm_Guard_cross : Room := { frames := 0, cells := 0, slots := 0, locals := 0 }
theorem kw_Guard_cross : Cond.code y_Guard_cross b_Guard_cross 8 (some .long) ∈ BW := (List.mem_append_right _ (List.mem_append_right _ (List.mem_append_right _ (List.mem_append_right _ (List.mem_append_right _ (List.mem_append_right _ (List.mem_append_right _ (List.mem_append_left _ (List.mem_of_getElem? (i := 16) rfl)))))))))
abbrev b_Step_init : ByteArray := prog_4_method_1_code
def y_Step_init : MethodName := ⟨"LoopRanker$Step", "<init>", "()V"⟩
abbrev rm_Step_init : Room := { frames := 2, cells := 6, slots := 105, locals := 43 }
theorem kw_Step_init : Cond.code y_Step_init b_Step_init 1 none ∈ BW := (List.mem_append_left _ (List.mem_of_getElem? (i := 18) rfl))
abbrev b_Step_reset : ByteArray := prog_4_method_2_code
def y_Step_reset : MethodName := ⟨"LoopRanker$Step", "reset", "()V"⟩
abbrev rm_Step_reset : Room := { frames := 1, cells := 0, slots := 0, locals := 25 }
theorem kw_Step_reset : Cond.code y_Step_reset b_Step_reset 1 none ∈ BW := (List.mem_append_right _ (List.mem_append_right _ (List.mem_append_right _ (List.mem_append_right _ (List.mem_append_right _ (List.mem_append_right _ (List.mem_append_left _ (List.mem_of_getElem? (i := 8) rfl))))))))
abbrev b_Step_addRow : ByteArray := prog_4_method_3_code
def y_Step_addRow : MethodName := ⟨"LoopRanker$Step", "addRow", "(III)V"⟩
abbrev rm_Step_addRow : Room := { frames := 4, cells := 0, slots := 0, locals := 106 }
theorem kw_Step_addRow : Cond.code y_Step_addRow b_Step_addRow 4 none ∈ BW := (List.mem_append_right _ (List.mem_append_right _ (List.mem_append_right _ (List.mem_append_right _ (List.mem_append_right _ (List.mem_append_right _ (List.mem_append_right _ (List.mem_append_left _ (List.mem_of_getElem? (i := 5) rfl)))))))))
abbrev b_Step_setRule : ByteArray := prog_4_method_4_code
def y_Step_setRule : MethodName := ⟨"LoopRanker$Step", "setRule", "(IIII)V"⟩
abbrev rm_Step_setRule : Room := { frames := 0, cells := 0, slots := 0, locals := 0 }
theorem kw_Step_setRule : Cond.code y_Step_setRule b_Step_setRule 6 none ∈ BW := (List.mem_append_right _ (List.mem_append_right _ (List.mem_append_right _ (List.mem_append_right _ (List.mem_append_right _ (List.mem_append_right _ (List.mem_append_left _ (List.mem_of_getElem? (i := 11) rfl))))))))
abbrev b_Step_next : ByteArray := prog_4_method_5_code
def y_Step_next : MethodName := ⟨"LoopRanker$Step", "next", "(IJJ)J"⟩
abbrev rm_Step_next : Room := { frames := 0, cells := 0, slots := 0, locals := 0 }
theorem kw_Step_next : Cond.code y_Step_next b_Step_next 7 (some .long) ∈ BW := (List.mem_append_right _ (List.mem_append_right _ (List.mem_append_right _ (List.mem_append_right _ (List.mem_append_right _ (List.mem_append_right _ (List.mem_append_right _ (List.mem_append_right _ (List.mem_append_right _ (List.mem_append_right _ (List.mem_append_right _ (List.mem_append_right _ (List.mem_append_right _ (List.mem_append_left _ (List.mem_of_getElem? (i := 1) rfl)))))))))))))))
abbrev b_Step_changesByAtMost : ByteArray := prog_4_method_6_code
def y_Step_changesByAtMost : MethodName := ⟨"LoopRanker$Step", "changesByAtMost", "(III)Z"⟩
abbrev rm_Step_changesByAtMost : Room := { frames := 3, cells := 0, slots := 0, locals := 83 }
theorem kw_Step_changesByAtMost : Cond.code y_Step_changesByAtMost b_Step_changesByAtMost 4 (some .boolean) ∈ BW := (List.mem_append_right _ (List.mem_append_right _ (List.mem_append_right _ (List.mem_append_right _ (List.mem_append_right _ (List.mem_append_right _ (List.mem_append_right _ (List.mem_append_right _ (List.mem_append_right _ (List.mem_append_right _ (List.mem_append_left _ (List.mem_of_getElem? (i := 1) rfl))))))))))))
abbrev b_Step_isBounded : ByteArray := prog_4_method_7_code
def y_Step_isBounded : MethodName := ⟨"LoopRanker$Step", "isBounded", "(II)Z"⟩
abbrev rm_Step_isBounded : Room := { frames := 3, cells := 0, slots := 0, locals := 83 }
theorem kw_Step_isBounded : Cond.code y_Step_isBounded b_Step_isBounded 3 (some .boolean) ∈ BW := (List.mem_append_right _ (List.mem_append_right _ (List.mem_append_right _ (List.mem_append_right _ (List.mem_append_right _ (List.mem_append_right _ (List.mem_append_right _ (List.mem_append_right _ (List.mem_append_right _ (List.mem_append_right _ (List.mem_append_left _ (List.mem_of_getElem? (i := 5) rfl))))))))))))
abbrev b_Step_findKinds : ByteArray := prog_4_method_8_code
def y_Step_findKinds : MethodName := ⟨"LoopRanker$Step", "findKinds", "([I[I)V"⟩
abbrev rm_Step_findKinds : Room := { frames := 4, cells := 0, slots := 0, locals := 106 }
theorem kw_Step_findKinds : Cond.code y_Step_findKinds b_Step_findKinds 4 none ∈ BW := (List.mem_append_right _ (List.mem_append_right _ (List.mem_append_right _ (List.mem_append_right _ (List.mem_append_right _ (List.mem_append_right _ (List.mem_append_right _ (List.mem_append_right _ (List.mem_append_right _ (List.mem_append_right _ (List.mem_append_left _ (List.mem_of_getElem? (i := 15) rfl))))))))))))
abbrev b_Proof_init : ByteArray := prog_3_method_1_code
def y_Proof_init : MethodName := ⟨"LoopRanker$Proof", "<init>", "()V"⟩
abbrev rm_Proof_init : Room := { frames := 2, cells := 6, slots := 184, locals := 47 }
theorem kw_Proof_init : Cond.code y_Proof_init b_Proof_init 1 none ∈ BW := (List.mem_append_right _ (List.mem_append_right _ (List.mem_append_right _ (List.mem_append_left _ (List.mem_of_getElem? (i := 7) rfl)))))
abbrev b_Proof_listFunctions : ByteArray := prog_3_method_2_code
def y_Proof_listFunctions : MethodName := ⟨"LoopRanker$Proof", "listFunctions", "()V"⟩
abbrev rm_Proof_listFunctions : Room := { frames := 1, cells := 0, slots := 0, locals := 23 }
theorem kw_Proof_listFunctions : Cond.code y_Proof_listFunctions b_Proof_listFunctions 5 none ∈ BW := (List.mem_append_right _ (List.mem_append_right _ (List.mem_append_right _ (List.mem_append_left _ (List.mem_of_getElem? (i := 11) rfl)))))
abbrev b_Proof_hasLevel : ByteArray := prog_3_method_3_code
def y_Proof_hasLevel : MethodName := ⟨"LoopRanker$Proof", "hasLevel", "(I)Z"⟩
abbrev rm_Proof_hasLevel : Room := { frames := 0, cells := 0, slots := 0, locals := 0 }
theorem kw_Proof_hasLevel : Cond.code y_Proof_hasLevel b_Proof_hasLevel 2 (some .boolean) ∈ BW := (List.mem_append_right _ (List.mem_append_right _ (List.mem_append_right _ (List.mem_append_right _ (List.mem_append_right _ (List.mem_append_right _ (List.mem_append_right _ (List.mem_append_right _ (List.mem_append_right _ (List.mem_append_right _ (List.mem_append_right _ (List.mem_append_right _ (List.mem_append_left _ (List.mem_of_getElem? (i := 4) rfl))))))))))))))
abbrev b_Proof_functionValue : ByteArray := prog_3_method_4_code
def y_Proof_functionValue : MethodName := ⟨"LoopRanker$Proof", "functionValue", "(IJJ)J"⟩
abbrev rm_Proof_functionValue : Room := { frames := 0, cells := 0, slots := 0, locals := 0 }
theorem kw_Proof_functionValue : Cond.code y_Proof_functionValue b_Proof_functionValue 6 (some .long) ∈ BW := (List.mem_append_right _ (List.mem_append_right _ (List.mem_append_right _ (List.mem_append_right _ (List.mem_append_right _ (List.mem_append_right _ (List.mem_append_right _ (List.mem_append_right _ (List.mem_append_right _ (List.mem_append_right _ (List.mem_append_right _ (List.mem_append_right _ (List.mem_append_right _ (List.mem_append_left _ (List.mem_of_getElem? (i := 16) rfl)))))))))))))))
abbrev b_Proof_renew : ByteArray := prog_3_method_5_code
def y_Proof_renew : MethodName := ⟨"LoopRanker$Proof", "renew", "([LLoopRanker$Step;I)V"⟩
abbrev rm_Proof_renew : Room := { frames := 5, cells := 0, slots := 0, locals := 129 }
theorem kw_Proof_renew : Cond.code y_Proof_renew b_Proof_renew 5 none ∈ BW := (List.mem_append_right _ (List.mem_append_right _ (List.mem_append_right _ (List.mem_append_right _ (List.mem_append_right _ (List.mem_append_right _ (List.mem_append_right _ (List.mem_append_right _ (List.mem_append_right _ (List.mem_append_right _ (List.mem_append_left _ (List.mem_of_getElem? (i := 13) rfl))))))))))))
abbrev b_Proof_bestFunction : ByteArray := prog_3_method_6_code
def y_Proof_bestFunction : MethodName := ⟨"LoopRanker$Proof", "bestFunction", "([LLoopRanker$Step;I)I"⟩
abbrev rm_Proof_bestFunction : Room := { frames := 1, cells := 0, slots := 0, locals := 25 }
theorem kw_Proof_bestFunction : Cond.code y_Proof_bestFunction b_Proof_bestFunction 7 (some .int) ∈ BW := (List.mem_append_right _ (List.mem_append_right _ (List.mem_append_right _ (List.mem_append_right _ (List.mem_append_right _ (List.mem_append_right _ (List.mem_append_right _ (List.mem_append_right _ (List.mem_append_right _ (List.mem_append_right _ (List.mem_append_right _ (List.mem_append_left _ (List.mem_of_getElem? (i := 0) rfl)))))))))))))
abbrev b_Proof_countRemoved : ByteArray := prog_3_method_7_code
def y_Proof_countRemoved : MethodName := ⟨"LoopRanker$Proof", "countRemoved", "(I[LLoopRanker$Step;I)I"⟩
abbrev rm_Proof_countRemoved : Room := { frames := 0, cells := 0, slots := 0, locals := 0 }
theorem kw_Proof_countRemoved : Cond.code y_Proof_countRemoved b_Proof_countRemoved 6 (some .int) ∈ BW := (List.mem_append_right _ (List.mem_append_right _ (List.mem_append_right _ (List.mem_append_right _ (List.mem_append_right _ (List.mem_append_right _ (List.mem_append_right _ (List.mem_append_right _ (List.mem_append_right _ (List.mem_append_right _ (List.mem_append_right _ (List.mem_append_left _ (List.mem_of_getElem? (i := 3) rfl)))))))))))))
abbrev b_Proof_addLevel : ByteArray := prog_3_method_8_code
def y_Proof_addLevel : MethodName := ⟨"LoopRanker$Proof", "addLevel", "(I[LLoopRanker$Step;I)V"⟩
abbrev rm_Proof_addLevel : Room := { frames := 3, cells := 0, slots := 0, locals := 83 }
theorem kw_Proof_addLevel : Cond.code y_Proof_addLevel b_Proof_addLevel 8 none ∈ BW := (List.mem_append_right _ (List.mem_append_right _ (List.mem_append_right _ (List.mem_append_right _ (List.mem_append_right _ (List.mem_append_right _ (List.mem_append_right _ (List.mem_append_right _ (List.mem_append_right _ (List.mem_append_right _ (List.mem_append_right _ (List.mem_append_left _ (List.mem_of_getElem? (i := 6) rfl)))))))))))))
abbrev b_LoopRanker_init : ByteArray := prog_1_method_1_code
def y_LoopRanker_init : MethodName := ⟨"LoopRanker", "<init>", "()V"⟩
abbrev rm_LoopRanker_init : Room := { frames := 3, cells := 0, slots := 0, locals := 67 }
theorem kw_LoopRanker_init : Cond.code y_LoopRanker_init b_LoopRanker_init 2 none ∈ BW := (List.mem_append_left _ (List.mem_of_getElem? (i := 11) rfl))
abbrev b_LoopRanker_transition : ByteArray := prog_1_method_2_code
def y_LoopRanker_transition : MethodName := ⟨"LoopRanker", "transition", "()I"⟩
abbrev rm_LoopRanker_transition : Room := { frames := 2, cells := 0, slots := 0, locals := 45 }
theorem kw_LoopRanker_transition : Cond.code y_LoopRanker_transition b_LoopRanker_transition 1 (some .int) ∈ BW := (List.mem_append_right _ (List.mem_append_right _ (List.mem_append_right _ (List.mem_append_right _ (List.mem_append_right _ (List.mem_append_right _ (List.mem_append_left _ (List.mem_of_getElem? (i := 6) rfl))))))))
abbrev b_LoopRanker_guard : ByteArray := prog_1_method_3_code
def y_LoopRanker_guard : MethodName := ⟨"LoopRanker", "guard", "(IIII)I"⟩
abbrev rm_LoopRanker_guard : Room := { frames := 5, cells := 0, slots := 0, locals := 129 }
theorem kw_LoopRanker_guard : Cond.code y_LoopRanker_guard b_LoopRanker_guard 5 (some .int) ∈ BW := (List.mem_append_right _ (List.mem_append_right _ (List.mem_append_right _ (List.mem_append_right _ (List.mem_append_right _ (List.mem_append_right _ (List.mem_append_left _ (List.mem_of_getElem? (i := 15) rfl))))))))
abbrev b_LoopRanker_update : ByteArray := prog_1_method_4_code
def y_LoopRanker_update : MethodName := ⟨"LoopRanker", "update", "(IIIII)Z"⟩
abbrev rm_LoopRanker_update : Room := { frames := 1, cells := 0, slots := 0, locals := 25 }
theorem kw_LoopRanker_update : Cond.code y_LoopRanker_update b_LoopRanker_update 6 (some .boolean) ∈ BW := (List.mem_append_right _ (List.mem_append_right _ (List.mem_append_right _ (List.mem_append_right _ (List.mem_append_right _ (List.mem_append_right _ (List.mem_append_right _ (List.mem_append_right _ (List.mem_append_left _ (List.mem_of_getElem? (i := 8) rfl))))))))))
abbrev b_LoopRanker_remove : ByteArray := prog_1_method_5_code
def y_LoopRanker_remove : MethodName := ⟨"LoopRanker", "remove", "(I)Z"⟩
abbrev rm_LoopRanker_remove : Room := { frames := 1, cells := 0, slots := 0, locals := 21 }
theorem kw_LoopRanker_remove : Cond.code y_LoopRanker_remove b_LoopRanker_remove 4 (some .boolean) ∈ BW := (List.mem_append_right _ (List.mem_append_right _ (List.mem_append_right _ (List.mem_append_right _ (List.mem_append_right _ (List.mem_append_right _ (List.mem_append_right _ (List.mem_append_right _ (List.mem_append_left _ (List.mem_of_getElem? (i := 17) rfl))))))))))
abbrev b_LoopRanker_transitions : ByteArray := prog_1_method_6_code
def y_LoopRanker_transitions : MethodName := ⟨"LoopRanker", "transitions", "()I"⟩
abbrev rm_LoopRanker_transitions : Room := { frames := 0, cells := 0, slots := 0, locals := 0 }
theorem kw_LoopRanker_transitions : Cond.code y_LoopRanker_transitions b_LoopRanker_transitions 1 (some .int) ∈ BW := (List.mem_append_right _ (List.mem_append_right _ (List.mem_append_right _ (List.mem_append_right _ (List.mem_append_right _ (List.mem_append_right _ (List.mem_append_right _ (List.mem_append_right _ (List.mem_append_right _ (List.mem_append_left _ (List.mem_of_getElem? (i := 1) rfl)))))))))))
abbrev b_LoopRanker_greatest : ByteArray := prog_1_method_7_code
def y_LoopRanker_greatest : MethodName := ⟨"LoopRanker", "greatest", "(III)J"⟩
abbrev rm_LoopRanker_greatest : Room := { frames := 3, cells := 0, slots := 0, locals := 83 }
theorem kw_LoopRanker_greatest : Cond.code y_LoopRanker_greatest b_LoopRanker_greatest 5 (some .long) ∈ BW := (List.mem_append_right _ (List.mem_append_right _ (List.mem_append_right _ (List.mem_append_right _ (List.mem_append_right _ (List.mem_append_right _ (List.mem_append_right _ (List.mem_append_right _ (List.mem_append_right _ (List.mem_append_left _ (List.mem_of_getElem? (i := 5) rfl)))))))))))
abbrev b_LoopRanker_holds : ByteArray := prog_1_method_8_code
def y_LoopRanker_holds : MethodName := ⟨"LoopRanker", "holds", "(IIII)Z"⟩
abbrev rm_LoopRanker_holds : Room := { frames := 4, cells := 0, slots := 0, locals := 106 }
theorem kw_LoopRanker_holds : Cond.code y_LoopRanker_holds b_LoopRanker_holds 5 (some .boolean) ∈ BW := (List.mem_append_right _ (List.mem_append_right _ (List.mem_append_right _ (List.mem_append_right _ (List.mem_append_right _ (List.mem_append_right _ (List.mem_append_right _ (List.mem_append_right _ (List.mem_append_right _ (List.mem_append_left _ (List.mem_of_getElem? (i := 18) rfl)))))))))))
abbrev b_LoopRanker_levels : ByteArray := prog_1_method_9_code
def y_LoopRanker_levels : MethodName := ⟨"LoopRanker", "levels", "()I"⟩
abbrev rm_LoopRanker_levels : Room := { frames := 6, cells := 0, slots := 0, locals := 153 }
theorem kw_LoopRanker_levels : Cond.code y_LoopRanker_levels b_LoopRanker_levels 1 (some .int) ∈ BW := (List.mem_append_right _ (List.mem_append_right _ (List.mem_append_right _ (List.mem_append_right _ (List.mem_append_right _ (List.mem_append_right _ (List.mem_append_right _ (List.mem_append_right _ (List.mem_append_right _ (List.mem_append_right _ (List.mem_append_left _ (List.mem_of_getElem? (i := 11) rfl))))))))))))
abbrev b_LoopRanker_proven : ByteArray := prog_1_method_10_code
def y_LoopRanker_proven : MethodName := ⟨"LoopRanker", "proven", "()Z"⟩
abbrev rm_LoopRanker_proven : Room := { frames := 6, cells := 0, slots := 0, locals := 153 }
theorem kw_LoopRanker_proven : Cond.code y_LoopRanker_proven b_LoopRanker_proven 1 (some .boolean) ∈ BW := (List.mem_append_right _ (List.mem_append_right _ (List.mem_append_right _ (List.mem_append_right _ (List.mem_append_right _ (List.mem_append_right _ (List.mem_append_right _ (List.mem_append_right _ (List.mem_append_right _ (List.mem_append_right _ (List.mem_append_right _ (List.mem_append_left _ (List.mem_of_getElem? (i := 14) rfl)))))))))))))
abbrev b_LoopRanker_levelOf : ByteArray := prog_1_method_11_code
def y_LoopRanker_levelOf : MethodName := ⟨"LoopRanker", "levelOf", "(I)I"⟩
abbrev rm_LoopRanker_levelOf : Room := { frames := 6, cells := 0, slots := 0, locals := 153 }
theorem kw_LoopRanker_levelOf : Cond.code y_LoopRanker_levelOf b_LoopRanker_levelOf 2 (some .int) ∈ BW := (List.mem_append_right _ (List.mem_append_right _ (List.mem_append_right _ (List.mem_append_right _ (List.mem_append_right _ (List.mem_append_right _ (List.mem_append_right _ (List.mem_append_right _ (List.mem_append_right _ (List.mem_append_right _ (List.mem_append_right _ (List.mem_append_left _ (List.mem_of_getElem? (i := 18) rfl)))))))))))))
abbrev b_LoopRanker_coefficient : ByteArray := prog_1_method_12_code
def y_LoopRanker_coefficient : MethodName := ⟨"LoopRanker", "coefficient", "(II)I"⟩
abbrev rm_LoopRanker_coefficient : Room := { frames := 6, cells := 0, slots := 0, locals := 153 }
theorem kw_LoopRanker_coefficient : Cond.code y_LoopRanker_coefficient b_LoopRanker_coefficient 3 (some .int) ∈ BW := (List.mem_append_right _ (List.mem_append_right _ (List.mem_append_right _ (List.mem_append_right _ (List.mem_append_right _ (List.mem_append_right _ (List.mem_append_right _ (List.mem_append_right _ (List.mem_append_right _ (List.mem_append_right _ (List.mem_append_right _ (List.mem_append_right _ (List.mem_append_left _ (List.mem_of_getElem? (i := 2) rfl))))))))))))))
abbrev b_LoopRanker_floor : ByteArray := prog_1_method_13_code
def y_LoopRanker_floor : MethodName := ⟨"LoopRanker", "floor", "(I)J"⟩
abbrev rm_LoopRanker_floor : Room := { frames := 6, cells := 0, slots := 0, locals := 153 }
theorem kw_LoopRanker_floor : Cond.code y_LoopRanker_floor b_LoopRanker_floor 2 (some .long) ∈ BW := (List.mem_append_right _ (List.mem_append_right _ (List.mem_append_right _ (List.mem_append_right _ (List.mem_append_right _ (List.mem_append_right _ (List.mem_append_right _ (List.mem_append_right _ (List.mem_append_right _ (List.mem_append_right _ (List.mem_append_right _ (List.mem_append_right _ (List.mem_append_left _ (List.mem_of_getElem? (i := 8) rfl))))))))))))))
abbrev b_LoopRanker_start : ByteArray := prog_1_method_14_code
def y_LoopRanker_start : MethodName := ⟨"LoopRanker", "start", "(II)Z"⟩
abbrev rm_LoopRanker_start : Room := { frames := 1, cells := 0, slots := 0, locals := 23 }
theorem kw_LoopRanker_start : Cond.code y_LoopRanker_start b_LoopRanker_start 3 (some .boolean) ∈ BW := (List.mem_append_right _ (List.mem_append_right _ (List.mem_append_right _ (List.mem_append_right _ (List.mem_append_right _ (List.mem_append_right _ (List.mem_append_right _ (List.mem_append_right _ (List.mem_append_right _ (List.mem_append_right _ (List.mem_append_right _ (List.mem_append_right _ (List.mem_append_left _ (List.mem_of_getElem? (i := 12) rfl))))))))))))))
abbrev b_LoopRanker_fire : ByteArray := prog_1_method_15_code
def y_LoopRanker_fire : MethodName := ⟨"LoopRanker", "fire", "(I)Z"⟩
abbrev rm_LoopRanker_fire : Room := { frames := 1, cells := 0, slots := 0, locals := 26 }
theorem kw_LoopRanker_fire : Cond.code y_LoopRanker_fire b_LoopRanker_fire 6 (some .boolean) ∈ BW := (List.mem_append_right _ (List.mem_append_right _ (List.mem_append_right _ (List.mem_append_right _ (List.mem_append_right _ (List.mem_append_right _ (List.mem_append_right _ (List.mem_append_right _ (List.mem_append_right _ (List.mem_append_right _ (List.mem_append_right _ (List.mem_append_right _ (List.mem_append_left _ (List.mem_of_getElem? (i := 17) rfl))))))))))))))
abbrev b_LoopRanker_value : ByteArray := prog_1_method_16_code
def y_LoopRanker_value : MethodName := ⟨"LoopRanker", "value", "(I)J"⟩
abbrev rm_LoopRanker_value : Room := { frames := 1, cells := 0, slots := 0, locals := 20 }
theorem kw_LoopRanker_value : Cond.code y_LoopRanker_value b_LoopRanker_value 2 (some .long) ∈ BW := (List.mem_append_right _ (List.mem_append_right _ (List.mem_append_right _ (List.mem_append_right _ (List.mem_append_right _ (List.mem_append_right _ (List.mem_append_right _ (List.mem_append_right _ (List.mem_append_right _ (List.mem_append_right _ (List.mem_append_right _ (List.mem_append_right _ (List.mem_append_right _ (List.mem_append_left _ (List.mem_of_getElem? (i := 6) rfl)))))))))))))))
abbrev b_LoopRanker_fired : ByteArray := prog_1_method_17_code
def y_LoopRanker_fired : MethodName := ⟨"LoopRanker", "fired", "()I"⟩
abbrev rm_LoopRanker_fired : Room := { frames := 0, cells := 0, slots := 0, locals := 0 }
theorem kw_LoopRanker_fired : Cond.code y_LoopRanker_fired b_LoopRanker_fired 1 (some .int) ∈ BW := (List.mem_append_right _ (List.mem_append_right _ (List.mem_append_right _ (List.mem_append_right _ (List.mem_append_right _ (List.mem_append_right _ (List.mem_append_right _ (List.mem_append_right _ (List.mem_append_right _ (List.mem_append_right _ (List.mem_append_right _ (List.mem_append_right _ (List.mem_append_right _ (List.mem_append_left _ (List.mem_of_getElem? (i := 10) rfl)))))))))))))))
abbrev b_LoopRanker_rank : ByteArray := prog_1_method_18_code
def y_LoopRanker_rank : MethodName := ⟨"LoopRanker", "rank", "(I)J"⟩
abbrev rm_LoopRanker_rank : Room := { frames := 6, cells := 0, slots := 0, locals := 153 }
theorem kw_LoopRanker_rank : Cond.code y_LoopRanker_rank b_LoopRanker_rank 2 (some .long) ∈ BW := (List.mem_append_right _ (List.mem_append_right _ (List.mem_append_right _ (List.mem_append_right _ (List.mem_append_right _ (List.mem_append_right _ (List.mem_append_right _ (List.mem_append_right _ (List.mem_append_right _ (List.mem_append_right _ (List.mem_append_right _ (List.mem_append_right _ (List.mem_append_right _ (List.mem_append_left _ (List.mem_of_getElem? (i := 14) rfl)))))))))))))))
abbrev b_LoopRanker_budget : ByteArray := prog_1_method_19_code
def y_LoopRanker_budget : MethodName := ⟨"LoopRanker", "budget", "()J"⟩
abbrev rm_LoopRanker_budget : Room := { frames := 6, cells := 0, slots := 0, locals := 153 }
theorem kw_LoopRanker_budget : Cond.code y_LoopRanker_budget b_LoopRanker_budget 1 (some .long) ∈ BW := (List.mem_append_right _ (List.mem_append_right _ (List.mem_append_right _ (List.mem_append_right _ (List.mem_append_right _ (List.mem_append_right _ (List.mem_append_right _ (List.mem_append_right _ (List.mem_append_right _ (List.mem_append_right _ (List.mem_append_right _ (List.mem_append_right _ (List.mem_append_right _ (List.mem_append_right _ (List.mem_append_left _ (List.mem_of_getElem? (i := 0) rfl))))))))))))))))
abbrev b_LoopRanker_isStep : ByteArray := prog_1_method_20_code
def y_LoopRanker_isStep : MethodName := ⟨"LoopRanker", "isStep", "(I)Z"⟩
abbrev rm_LoopRanker_isStep : Room := { frames := 0, cells := 0, slots := 0, locals := 0 }
theorem kw_LoopRanker_isStep : Cond.code y_LoopRanker_isStep b_LoopRanker_isStep 2 (some .boolean) ∈ BW := (List.mem_append_right _ (List.mem_append_right _ (List.mem_append_right _ (List.mem_append_right _ (List.mem_append_right _ (List.mem_append_right _ (List.mem_append_left _ (List.mem_of_getElem? (i := 18) rfl))))))))
abbrev b_LoopRanker_isVariable : ByteArray := prog_1_method_21_code
def y_LoopRanker_isVariable : MethodName := ⟨"LoopRanker", "isVariable", "(I)Z"⟩
abbrev rm_LoopRanker_isVariable : Room := { frames := 0, cells := 0, slots := 0, locals := 0 }
theorem kw_LoopRanker_isVariable : Cond.code y_LoopRanker_isVariable b_LoopRanker_isVariable 1 (some .boolean) ∈ BW := (List.mem_append_right _ (List.mem_append_right _ (List.mem_append_right _ (List.mem_append_right _ (List.mem_append_right _ (List.mem_append_right _ (List.mem_append_right _ (List.mem_append_right _ (List.mem_append_left _ (List.mem_of_getElem? (i := 11) rfl))))))))))
abbrev b_LoopRanker_isWithin : ByteArray := prog_1_method_22_code
def y_LoopRanker_isWithin : MethodName := ⟨"LoopRanker", "isWithin", "(JJ)Z"⟩
abbrev rm_LoopRanker_isWithin : Room := { frames := 0, cells := 0, slots := 0, locals := 0 }
theorem kw_LoopRanker_isWithin : Cond.code y_LoopRanker_isWithin b_LoopRanker_isWithin 4 (some .boolean) ∈ BW := (List.mem_append_right _ (List.mem_append_right _ (List.mem_append_right _ (List.mem_append_right _ (List.mem_append_right _ (List.mem_append_right _ (List.mem_append_right _ (List.mem_append_left _ (List.mem_of_getElem? (i := 2) rfl)))))))))
abbrev b_LoopRankerModel_init : ByteArray := prog_6_method_1_code
def y_LoopRankerModel_init : MethodName := ⟨"LoopRankerModel", "<init>", "()V"⟩
abbrev rm_LoopRankerModel_init : Room := { frames := 1, cells := 8, slots := 132, locals := 23 }
theorem kw_LoopRankerModel_init : Cond.code y_LoopRankerModel_init b_LoopRankerModel_init 1 none ∈ BW := (List.mem_append_right _ (List.mem_append_right _ (List.mem_append_right _ (List.mem_append_right _ (List.mem_append_right _ (List.mem_append_right _ (List.mem_append_right _ (List.mem_append_right _ (List.mem_append_right _ (List.mem_append_right _ (List.mem_append_right _ (List.mem_append_right _ (List.mem_append_right _ (List.mem_append_right _ (List.mem_append_left _ (List.mem_of_getElem? (i := 9) rfl))))))))))))))))
abbrev b_LoopRankerModel_within : ByteArray := prog_6_method_2_code
def y_LoopRankerModel_within : MethodName := ⟨"LoopRankerModel", "within", "(II)Z"⟩
abbrev rm_LoopRankerModel_within : Room := { frames := 0, cells := 0, slots := 0, locals := 0 }
theorem kw_LoopRankerModel_within : Cond.code y_LoopRankerModel_within b_LoopRankerModel_within 2 (some .boolean) ∈ BW := (List.mem_append_right _ (List.mem_append_right _ (List.mem_append_right _ (List.mem_append_right _ (List.mem_append_right _ (List.mem_append_right _ (List.mem_append_right _ (List.mem_append_right _ (List.mem_append_right _ (List.mem_append_right _ (List.mem_append_right _ (List.mem_append_right _ (List.mem_append_right _ (List.mem_append_right _ (List.mem_append_right _ (List.mem_append_right _ (List.mem_append_right _ (List.mem_append_left _ (List.mem_of_getElem? (i := 13) rfl)))))))))))))))))))
abbrev b_LoopRankerModel_there : ByteArray := prog_6_method_3_code
def y_LoopRankerModel_there : MethodName := ⟨"LoopRankerModel", "there", "(I)Z"⟩
abbrev rm_LoopRankerModel_there : Room := { frames := 0, cells := 0, slots := 0, locals := 0 }
theorem kw_LoopRankerModel_there : Cond.code y_LoopRankerModel_there b_LoopRankerModel_there 2 (some .boolean) ∈ BW := (List.mem_append_right _ (List.mem_append_right _ (List.mem_append_right _ (List.mem_append_right _ (List.mem_append_right _ (List.mem_append_right _ (List.mem_append_right _ (List.mem_append_right _ (List.mem_append_right _ (List.mem_append_right _ (List.mem_append_right _ (List.mem_append_right _ (List.mem_append_right _ (List.mem_append_right _ (List.mem_append_right _ (List.mem_append_right _ (List.mem_append_right _ (List.mem_append_left _ (List.mem_of_getElem? (i := 10) rfl)))))))))))))))))))
abbrev b_LoopRankerModel_transition : ByteArray := prog_6_method_4_code
def y_LoopRankerModel_transition : MethodName := ⟨"LoopRankerModel", "transition", "()I"⟩
abbrev rm_LoopRankerModel_transition : Room := { frames := 0, cells := 0, slots := 0, locals := 0 }
theorem kw_LoopRankerModel_transition : Cond.code y_LoopRankerModel_transition b_LoopRankerModel_transition 2 (some .int) ∈ BW := (List.mem_append_right _ (List.mem_append_right _ (List.mem_append_right _ (List.mem_append_right _ (List.mem_append_right _ (List.mem_append_right _ (List.mem_append_right _ (List.mem_append_right _ (List.mem_append_right _ (List.mem_append_right _ (List.mem_append_right _ (List.mem_append_right _ (List.mem_append_right _ (List.mem_append_right _ (List.mem_append_right _ (List.mem_append_right _ (List.mem_append_right _ (List.mem_append_left _ (List.mem_of_getElem? (i := 3) rfl)))))))))))))))))))
abbrev b_LoopRankerModel_guard : ByteArray := prog_6_method_5_code
def y_LoopRankerModel_guard : MethodName := ⟨"LoopRankerModel", "guard", "(IIII)I"⟩
abbrev rm_LoopRankerModel_guard : Room := { frames := 1, cells := 0, slots := 0, locals := 21 }
theorem kw_LoopRankerModel_guard : Cond.code y_LoopRankerModel_guard b_LoopRankerModel_guard 6 (some .int) ∈ BW := (List.mem_append_right _ (List.mem_append_right _ (List.mem_append_right _ (List.mem_append_right _ (List.mem_append_right _ (List.mem_append_right _ (List.mem_append_right _ (List.mem_append_right _ (List.mem_append_right _ (List.mem_append_right _ (List.mem_append_right _ (List.mem_append_right _ (List.mem_append_right _ (List.mem_append_right _ (List.mem_append_right _ (List.mem_append_right _ (List.mem_append_right _ (List.mem_append_left _ (List.mem_of_getElem? (i := 7) rfl)))))))))))))))))))
abbrev b_LoopRankerModel_update : ByteArray := prog_6_method_6_code
def y_LoopRankerModel_update : MethodName := ⟨"LoopRankerModel", "update", "(IIIII)Z"⟩
abbrev rm_LoopRankerModel_update : Room := { frames := 1, cells := 0, slots := 0, locals := 21 }
theorem kw_LoopRankerModel_update : Cond.code y_LoopRankerModel_update b_LoopRankerModel_update 7 (some .boolean) ∈ BW := (List.mem_append_right _ (List.mem_append_right _ (List.mem_append_right _ (List.mem_append_right _ (List.mem_append_right _ (List.mem_append_right _ (List.mem_append_right _ (List.mem_append_right _ (List.mem_append_right _ (List.mem_append_right _ (List.mem_append_right _ (List.mem_append_right _ (List.mem_append_right _ (List.mem_append_right _ (List.mem_append_right _ (List.mem_append_right _ (List.mem_append_right _ (List.mem_append_left _ (List.mem_of_getElem? (i := 17) rfl)))))))))))))))))))
abbrev b_LoopRankerModel_remove : ByteArray := prog_6_method_7_code
def y_LoopRankerModel_remove : MethodName := ⟨"LoopRankerModel", "remove", "(I)Z"⟩
abbrev rm_LoopRankerModel_remove : Room := { frames := 1, cells := 0, slots := 0, locals := 21 }
theorem kw_LoopRankerModel_remove : Cond.code y_LoopRankerModel_remove b_LoopRankerModel_remove 4 (some .boolean) ∈ BW := (List.mem_append_right _ (List.mem_append_right _ (List.mem_append_right _ (List.mem_append_right _ (List.mem_append_right _ (List.mem_append_right _ (List.mem_append_right _ (List.mem_append_right _ (List.mem_append_right _ (List.mem_append_right _ (List.mem_append_right _ (List.mem_append_right _ (List.mem_append_right _ (List.mem_append_right _ (List.mem_append_right _ (List.mem_append_right _ (List.mem_append_right _ (List.mem_append_right _ (List.mem_append_left _ (List.mem_of_getElem? (i := 1) rfl))))))))))))))))))))
abbrev b_LoopRankerModel_transitions : ByteArray := prog_6_method_8_code
def y_LoopRankerModel_transitions : MethodName := ⟨"LoopRankerModel", "transitions", "()I"⟩
abbrev rm_LoopRankerModel_transitions : Room := { frames := 0, cells := 0, slots := 0, locals := 0 }
theorem kw_LoopRankerModel_transitions : Cond.code y_LoopRankerModel_transitions b_LoopRankerModel_transitions 1 (some .int) ∈ BW := (List.mem_append_right _ (List.mem_append_right _ (List.mem_append_right _ (List.mem_append_right _ (List.mem_append_right _ (List.mem_append_right _ (List.mem_append_right _ (List.mem_append_right _ (List.mem_append_right _ (List.mem_append_right _ (List.mem_append_right _ (List.mem_append_right _ (List.mem_append_right _ (List.mem_append_right _ (List.mem_append_right _ (List.mem_append_right _ (List.mem_append_right _ (List.mem_append_right _ (List.mem_append_left _ (List.mem_of_getElem? (i := 5) rfl))))))))))))))))))))
abbrev b_LoopRankerModel_meet : ByteArray := prog_6_method_9_code
def y_LoopRankerModel_meet : MethodName := ⟨"LoopRankerModel", "meet", "(IJJJII)V"⟩
abbrev rm_LoopRankerModel_meet : Room := { frames := 0, cells := 0, slots := 0, locals := 0 }
theorem kw_LoopRankerModel_meet : Cond.code y_LoopRankerModel_meet b_LoopRankerModel_meet 18 none ∈ BW := (List.mem_append_right _ (List.mem_append_right _ (List.mem_append_right _ (List.mem_append_right _ (List.mem_append_right _ (List.mem_append_right _ (List.mem_append_right _ (List.mem_append_right _ (List.mem_append_right _ (List.mem_append_right _ (List.mem_append_right _ (List.mem_append_right _ (List.mem_append_right _ (List.mem_append_right _ (List.mem_append_right _ (List.mem_append_right _ (List.mem_append_right _ (List.mem_append_right _ (List.mem_append_left _ (List.mem_of_getElem? (i := 19) rfl))))))))))))))))))))
abbrev b_LoopRankerModel_look : ByteArray := prog_6_method_10_code
def y_LoopRankerModel_look : MethodName := ⟨"LoopRankerModel", "look", "(III)V"⟩
abbrev rm_LoopRankerModel_look : Room := { frames := 1, cells := 0, slots := 0, locals := 37 }
theorem kw_LoopRankerModel_look : Cond.code y_LoopRankerModel_look b_LoopRankerModel_look 8 none ∈ BW := (List.mem_append_right _ (List.mem_append_right _ (List.mem_append_right _ (List.mem_append_right _ (List.mem_append_right _ (List.mem_append_right _ (List.mem_append_right _ (List.mem_append_right _ (List.mem_append_right _ (List.mem_append_right _ (List.mem_append_right _ (List.mem_append_right _ (List.mem_append_right _ (List.mem_append_right _ (List.mem_append_right _ (List.mem_append_right _ (List.mem_append_right _ (List.mem_append_right _ (List.mem_append_left _ (List.mem_of_getElem? (i := 16) rfl))))))))))))))))))))
abbrev b_LoopRankerModel_way : ByteArray := prog_6_method_11_code
def y_LoopRankerModel_way : MethodName := ⟨"LoopRankerModel", "way", "(IIIII)Z"⟩
abbrev rm_LoopRankerModel_way : Room := { frames := 0, cells := 0, slots := 0, locals := 0 }
theorem kw_LoopRankerModel_way : Cond.code y_LoopRankerModel_way b_LoopRankerModel_way 8 (some .boolean) ∈ BW := (List.mem_append_right _ (List.mem_append_right _ (List.mem_append_right _ (List.mem_append_right _ (List.mem_append_right _ (List.mem_append_right _ (List.mem_append_right _ (List.mem_append_right _ (List.mem_append_right _ (List.mem_append_right _ (List.mem_append_right _ (List.mem_append_right _ (List.mem_append_right _ (List.mem_append_right _ (List.mem_append_right _ (List.mem_append_right _ (List.mem_append_right _ (List.mem_append_right _ (List.mem_append_right _ (List.mem_append_left _ (List.mem_of_getElem? (i := 9) rfl)))))))))))))))))))))
abbrev b_LoopRankerModel_endless : ByteArray := prog_6_method_12_code
def y_LoopRankerModel_endless : MethodName := ⟨"LoopRankerModel", "endless", "(III)Z"⟩
abbrev rm_LoopRankerModel_endless : Room := { frames := 1, cells := 0, slots := 0, locals := 27 }
theorem kw_LoopRankerModel_endless : Cond.code y_LoopRankerModel_endless b_LoopRankerModel_endless 6 (some .boolean) ∈ BW := (List.mem_append_right _ (List.mem_append_right _ (List.mem_append_right _ (List.mem_append_right _ (List.mem_append_right _ (List.mem_append_right _ (List.mem_append_right _ (List.mem_append_right _ (List.mem_append_right _ (List.mem_append_right _ (List.mem_append_right _ (List.mem_append_right _ (List.mem_append_right _ (List.mem_append_right _ (List.mem_append_right _ (List.mem_append_right _ (List.mem_append_right _ (List.mem_append_right _ (List.mem_append_right _ (List.mem_append_left _ (List.mem_of_getElem? (i := 6) rfl)))))))))))))))))))))
abbrev b_LoopRankerModel_empty : ByteArray := prog_6_method_13_code
def y_LoopRankerModel_empty : MethodName := ⟨"LoopRankerModel", "empty", "(I)Z"⟩
abbrev rm_LoopRankerModel_empty : Room := { frames := 2, cells := 0, slots := 0, locals := 64 }
theorem kw_LoopRankerModel_empty : Cond.code y_LoopRankerModel_empty b_LoopRankerModel_empty 2 (some .boolean) ∈ BW := (List.mem_append_right _ (List.mem_append_right _ (List.mem_append_right _ (List.mem_append_right _ (List.mem_append_right _ (List.mem_append_right _ (List.mem_append_right _ (List.mem_append_right _ (List.mem_append_right _ (List.mem_append_right _ (List.mem_append_right _ (List.mem_append_right _ (List.mem_append_right _ (List.mem_append_right _ (List.mem_append_right _ (List.mem_append_right _ (List.mem_append_right _ (List.mem_append_right _ (List.mem_append_left _ (List.mem_of_getElem? (i := 13) rfl))))))))))))))))))))
abbrev b_LoopRankerModel_said : ByteArray := prog_6_method_14_code
def y_LoopRankerModel_said : MethodName := ⟨"LoopRankerModel", "said", "(III)Z"⟩
abbrev rm_LoopRankerModel_said : Room := { frames := 2, cells := 0, slots := 0, locals := 64 }
theorem kw_LoopRankerModel_said : Cond.code y_LoopRankerModel_said b_LoopRankerModel_said 4 (some .boolean) ∈ BW := (List.mem_append_right _ (List.mem_append_right _ (List.mem_append_right _ (List.mem_append_right _ (List.mem_append_right _ (List.mem_append_right _ (List.mem_append_right _ (List.mem_append_right _ (List.mem_append_right _ (List.mem_append_right _ (List.mem_append_right _ (List.mem_append_right _ (List.mem_append_right _ (List.mem_append_right _ (List.mem_append_right _ (List.mem_append_right _ (List.mem_append_right _ (List.mem_append_right _ (List.mem_append_right _ (List.mem_append_left _ (List.mem_of_getElem? (i := 3) rfl)))))))))))))))))))))
abbrev b_LoopRankerModel_down : ByteArray := prog_6_method_15_code
def y_LoopRankerModel_down : MethodName := ⟨"LoopRankerModel", "down", "(JJ)J"⟩
abbrev rm_LoopRankerModel_down : Room := { frames := 0, cells := 0, slots := 0, locals := 0 }
theorem kw_LoopRankerModel_down : Cond.code y_LoopRankerModel_down b_LoopRankerModel_down 6 (some .long) ∈ BW := (List.mem_append_right _ (List.mem_append_right _ (List.mem_append_right _ (List.mem_append_right _ (List.mem_append_right _ (List.mem_append_right _ (List.mem_append_right _ (List.mem_append_right _ (List.mem_append_right _ (List.mem_append_right _ (List.mem_append_right _ (List.mem_append_right _ (List.mem_append_right _ (List.mem_append_right _ (List.mem_append_right _ (List.mem_append_right _ (List.mem_append_right _ (List.mem_append_right _ (List.mem_append_right _ (List.mem_append_left _ (List.mem_of_getElem? (i := 12) rfl)))))))))))))))))))))
abbrev b_LoopRankerModel_greatest : ByteArray := prog_6_method_16_code
def y_LoopRankerModel_greatest : MethodName := ⟨"LoopRankerModel", "greatest", "(III)J"⟩
abbrev rm_LoopRankerModel_greatest : Room := { frames := 3, cells := 0, slots := 0, locals := 87 }
theorem kw_LoopRankerModel_greatest : Cond.code y_LoopRankerModel_greatest b_LoopRankerModel_greatest 4 (some .long) ∈ BW := (List.mem_append_right _ (List.mem_append_right _ (List.mem_append_right _ (List.mem_append_right _ (List.mem_append_right _ (List.mem_append_right _ (List.mem_append_right _ (List.mem_append_right _ (List.mem_append_right _ (List.mem_append_right _ (List.mem_append_right _ (List.mem_append_right _ (List.mem_append_right _ (List.mem_append_right _ (List.mem_append_right _ (List.mem_append_right _ (List.mem_append_right _ (List.mem_append_right _ (List.mem_append_left _ (List.mem_of_getElem? (i := 9) rfl))))))))))))))))))))
abbrev b_LoopRankerModel_never : ByteArray := prog_6_method_17_code
def y_LoopRankerModel_never : MethodName := ⟨"LoopRankerModel", "never", "(IIII)Z"⟩
abbrev rm_LoopRankerModel_never : Room := { frames := 3, cells := 0, slots := 0, locals := 87 }
theorem kw_LoopRankerModel_never : Cond.code y_LoopRankerModel_never b_LoopRankerModel_never 5 (some .boolean) ∈ BW := (List.mem_append_right _ (List.mem_append_right _ (List.mem_append_right _ (List.mem_append_right _ (List.mem_append_right _ (List.mem_append_right _ (List.mem_append_right _ (List.mem_append_right _ (List.mem_append_right _ (List.mem_append_right _ (List.mem_append_right _ (List.mem_append_right _ (List.mem_append_right _ (List.mem_append_right _ (List.mem_append_right _ (List.mem_append_right _ (List.mem_append_right _ (List.mem_append_right _ (List.mem_append_right _ (List.mem_append_right _ (List.mem_append_left _ (List.mem_of_getElem? (i := 2) rfl))))))))))))))))))))))
abbrev b_LoopRankerModel_has : ByteArray := prog_6_method_18_code
def y_LoopRankerModel_has : MethodName := ⟨"LoopRankerModel", "has", "(IIII)Z"⟩
abbrev rm_LoopRankerModel_has : Room := { frames := 4, cells := 0, slots := 0, locals := 111 }
theorem kw_LoopRankerModel_has : Cond.code y_LoopRankerModel_has b_LoopRankerModel_has 9 (some .boolean) ∈ BW := (List.mem_append_right _ (List.mem_append_right _ (List.mem_append_right _ (List.mem_append_right _ (List.mem_append_right _ (List.mem_append_right _ (List.mem_append_right _ (List.mem_append_right _ (List.mem_append_right _ (List.mem_append_right _ (List.mem_append_right _ (List.mem_append_right _ (List.mem_append_right _ (List.mem_append_right _ (List.mem_append_right _ (List.mem_append_right _ (List.mem_append_right _ (List.mem_append_right _ (List.mem_append_right _ (List.mem_append_left _ (List.mem_of_getElem? (i := 19) rfl)))))))))))))))))))))
abbrev b_LoopRankerModel_holds : ByteArray := prog_6_method_19_code
def y_LoopRankerModel_holds : MethodName := ⟨"LoopRankerModel", "holds", "(IIII)Z"⟩
abbrev rm_LoopRankerModel_holds : Room := { frames := 5, cells := 0, slots := 0, locals := 139 }
theorem kw_LoopRankerModel_holds : Cond.code y_LoopRankerModel_holds b_LoopRankerModel_holds 5 (some .boolean) ∈ BW := (List.mem_append_right _ (List.mem_append_right _ (List.mem_append_right _ (List.mem_append_right _ (List.mem_append_right _ (List.mem_append_right _ (List.mem_append_right _ (List.mem_append_right _ (List.mem_append_right _ (List.mem_append_right _ (List.mem_append_right _ (List.mem_append_right _ (List.mem_append_right _ (List.mem_append_right _ (List.mem_append_right _ (List.mem_append_right _ (List.mem_append_right _ (List.mem_append_right _ (List.mem_append_right _ (List.mem_append_left _ (List.mem_of_getElem? (i := 16) rfl)))))))))))))))))))))
abbrev b_LoopRankerModel_removes : ByteArray := prog_6_method_20_code
def y_LoopRankerModel_removes : MethodName := ⟨"LoopRankerModel", "removes", "(II)I"⟩
abbrev rm_LoopRankerModel_removes : Room := { frames := 5, cells := 0, slots := 0, locals := 139 }
theorem kw_LoopRankerModel_removes : Cond.code y_LoopRankerModel_removes b_LoopRankerModel_removes 5 (some .int) ∈ BW := (List.mem_append_right _ (List.mem_append_right _ (List.mem_append_right _ (List.mem_append_right _ (List.mem_append_right _ (List.mem_append_right _ (List.mem_append_right _ (List.mem_append_right _ (List.mem_append_right _ (List.mem_append_right _ (List.mem_append_right _ (List.mem_append_right _ (List.mem_append_right _ (List.mem_append_right _ (List.mem_append_right _ (List.mem_append_right _ (List.mem_append_right _ (List.mem_append_right _ (List.mem_append_right _ (List.mem_append_right _ (List.mem_append_left _ (List.mem_of_getElem? (i := 18) rfl))))))))))))))))))))))
abbrev b_LoopRankerModel_size : ByteArray := prog_6_method_21_code
def y_LoopRankerModel_size : MethodName := ⟨"LoopRankerModel", "size", "(I)I"⟩
abbrev rm_LoopRankerModel_size : Room := { frames := 0, cells := 0, slots := 0, locals := 0 }
theorem kw_LoopRankerModel_size : Cond.code y_LoopRankerModel_size b_LoopRankerModel_size 1 (some .int) ∈ BW := (List.mem_append_right _ (List.mem_append_right _ (List.mem_append_right _ (List.mem_append_right _ (List.mem_append_right _ (List.mem_append_right _ (List.mem_append_right _ (List.mem_append_right _ (List.mem_append_right _ (List.mem_append_right _ (List.mem_append_right _ (List.mem_append_right _ (List.mem_append_right _ (List.mem_append_right _ (List.mem_append_right _ (List.mem_append_right _ (List.mem_append_right _ (List.mem_append_right _ (List.mem_append_right _ (List.mem_append_right _ (List.mem_append_right _ (List.mem_append_left _ (List.mem_of_getElem? (i := 4) rfl)))))))))))))))))))))))
abbrev b_LoopRankerModel_before : ByteArray := prog_6_method_22_code
def y_LoopRankerModel_before : MethodName := ⟨"LoopRankerModel", "before", "(IIII)Z"⟩
abbrev rm_LoopRankerModel_before : Room := { frames := 1, cells := 0, slots := 0, locals := 20 }
theorem kw_LoopRankerModel_before : Cond.code y_LoopRankerModel_before b_LoopRankerModel_before 6 (some .boolean) ∈ BW := (List.mem_append_right _ (List.mem_append_right _ (List.mem_append_right _ (List.mem_append_right _ (List.mem_append_right _ (List.mem_append_right _ (List.mem_append_right _ (List.mem_append_right _ (List.mem_append_right _ (List.mem_append_right _ (List.mem_append_right _ (List.mem_append_right _ (List.mem_append_right _ (List.mem_append_right _ (List.mem_append_right _ (List.mem_append_right _ (List.mem_append_right _ (List.mem_append_right _ (List.mem_append_right _ (List.mem_append_right _ (List.mem_append_right _ (List.mem_append_left _ (List.mem_of_getElem? (i := 1) rfl)))))))))))))))))))))))
abbrev b_LoopRankerModel_level : ByteArray := prog_6_method_23_code
def y_LoopRankerModel_level : MethodName := ⟨"LoopRankerModel", "level", "()Z"⟩
abbrev rm_LoopRankerModel_level : Room := { frames := 6, cells := 0, slots := 0, locals := 163 }
theorem kw_LoopRankerModel_level : Cond.code y_LoopRankerModel_level b_LoopRankerModel_level 5 (some .boolean) ∈ BW := (List.mem_append_right _ (List.mem_append_right _ (List.mem_append_right _ (List.mem_append_right _ (List.mem_append_right _ (List.mem_append_right _ (List.mem_append_right _ (List.mem_append_right _ (List.mem_append_right _ (List.mem_append_right _ (List.mem_append_right _ (List.mem_append_right _ (List.mem_append_right _ (List.mem_append_right _ (List.mem_append_right _ (List.mem_append_right _ (List.mem_append_right _ (List.mem_append_right _ (List.mem_append_right _ (List.mem_append_right _ (List.mem_append_left _ (List.mem_of_getElem? (i := 15) rfl))))))))))))))))))))))
abbrev b_LoopRankerModel_left : ByteArray := prog_6_method_24_code
def y_LoopRankerModel_left : MethodName := ⟨"LoopRankerModel", "left", "()I"⟩
abbrev rm_LoopRankerModel_left : Room := { frames := 0, cells := 0, slots := 0, locals := 0 }
theorem kw_LoopRankerModel_left : Cond.code y_LoopRankerModel_left b_LoopRankerModel_left 3 (some .int) ∈ BW := (List.mem_append_right _ (List.mem_append_right _ (List.mem_append_right _ (List.mem_append_right _ (List.mem_append_right _ (List.mem_append_right _ (List.mem_append_right _ (List.mem_append_right _ (List.mem_append_right _ (List.mem_append_right _ (List.mem_append_right _ (List.mem_append_right _ (List.mem_append_right _ (List.mem_append_right _ (List.mem_append_right _ (List.mem_append_right _ (List.mem_append_right _ (List.mem_append_right _ (List.mem_append_right _ (List.mem_append_right _ (List.mem_append_left _ (List.mem_of_getElem? (i := 12) rfl))))))))))))))))))))))
abbrev b_LoopRankerModel_prove : ByteArray := prog_6_method_25_code
def y_LoopRankerModel_prove : MethodName := ⟨"LoopRankerModel", "prove", "()V"⟩
abbrev rm_LoopRankerModel_prove : Room := { frames := 7, cells := 0, slots := 0, locals := 187 }
theorem kw_LoopRankerModel_prove : Cond.code y_LoopRankerModel_prove b_LoopRankerModel_prove 2 none ∈ BW := (List.mem_append_right _ (List.mem_append_right _ (List.mem_append_right _ (List.mem_append_right _ (List.mem_append_right _ (List.mem_append_right _ (List.mem_append_right _ (List.mem_append_right _ (List.mem_append_right _ (List.mem_append_right _ (List.mem_append_right _ (List.mem_append_right _ (List.mem_append_right _ (List.mem_append_right _ (List.mem_append_right _ (List.mem_append_right _ (List.mem_append_right _ (List.mem_append_right _ (List.mem_append_right _ (List.mem_append_right _ (List.mem_append_left _ (List.mem_of_getElem? (i := 9) rfl))))))))))))))))))))))
abbrev b_LoopRankerModel_levels : ByteArray := prog_6_method_26_code
def y_LoopRankerModel_levels : MethodName := ⟨"LoopRankerModel", "levels", "()I"⟩
abbrev rm_LoopRankerModel_levels : Room := { frames := 8, cells := 0, slots := 0, locals := 208 }
theorem kw_LoopRankerModel_levels : Cond.code y_LoopRankerModel_levels b_LoopRankerModel_levels 1 (some .int) ∈ BW := (List.mem_append_right _ (List.mem_append_right _ (List.mem_append_right _ (List.mem_append_right _ (List.mem_append_right _ (List.mem_append_right _ (List.mem_append_right _ (List.mem_append_right _ (List.mem_append_right _ (List.mem_append_right _ (List.mem_append_right _ (List.mem_append_right _ (List.mem_append_right _ (List.mem_append_right _ (List.mem_append_right _ (List.mem_append_right _ (List.mem_append_right _ (List.mem_append_right _ (List.mem_append_right _ (List.mem_append_right _ (List.mem_append_left _ (List.mem_of_getElem? (i := 6) rfl))))))))))))))))))))))
abbrev b_LoopRankerModel_proven : ByteArray := prog_6_method_27_code
def y_LoopRankerModel_proven : MethodName := ⟨"LoopRankerModel", "proven", "()Z"⟩
abbrev rm_LoopRankerModel_proven : Room := { frames := 8, cells := 0, slots := 0, locals := 208 }
theorem kw_LoopRankerModel_proven : Cond.code y_LoopRankerModel_proven b_LoopRankerModel_proven 1 (some .boolean) ∈ BW := (List.mem_append_right _ (List.mem_append_right _ (List.mem_append_right _ (List.mem_append_right _ (List.mem_append_right _ (List.mem_append_right _ (List.mem_append_right _ (List.mem_append_right _ (List.mem_append_right _ (List.mem_append_right _ (List.mem_append_right _ (List.mem_append_right _ (List.mem_append_right _ (List.mem_append_right _ (List.mem_append_right _ (List.mem_append_right _ (List.mem_append_right _ (List.mem_append_right _ (List.mem_append_right _ (List.mem_append_right _ (List.mem_append_right _ (List.mem_append_left _ (List.mem_of_getElem? (i := 8) rfl)))))))))))))))))))))))
abbrev b_LoopRankerModel_levelOf : ByteArray := prog_6_method_28_code
def y_LoopRankerModel_levelOf : MethodName := ⟨"LoopRankerModel", "levelOf", "(I)I"⟩
abbrev rm_LoopRankerModel_levelOf : Room := { frames := 8, cells := 0, slots := 0, locals := 208 }
theorem kw_LoopRankerModel_levelOf : Cond.code y_LoopRankerModel_levelOf b_LoopRankerModel_levelOf 2 (some .int) ∈ BW := (List.mem_append_right _ (List.mem_append_right _ (List.mem_append_right _ (List.mem_append_right _ (List.mem_append_right _ (List.mem_append_right _ (List.mem_append_right _ (List.mem_append_right _ (List.mem_append_right _ (List.mem_append_right _ (List.mem_append_right _ (List.mem_append_right _ (List.mem_append_right _ (List.mem_append_right _ (List.mem_append_right _ (List.mem_append_right _ (List.mem_append_right _ (List.mem_append_right _ (List.mem_append_right _ (List.mem_append_right _ (List.mem_append_right _ (List.mem_append_left _ (List.mem_of_getElem? (i := 12) rfl)))))))))))))))))))))))
abbrev b_LoopRankerModel_coefficient : ByteArray := prog_6_method_29_code
def y_LoopRankerModel_coefficient : MethodName := ⟨"LoopRankerModel", "coefficient", "(II)I"⟩
abbrev rm_LoopRankerModel_coefficient : Room := { frames := 8, cells := 0, slots := 0, locals := 208 }
theorem kw_LoopRankerModel_coefficient : Cond.code y_LoopRankerModel_coefficient b_LoopRankerModel_coefficient 3 (some .int) ∈ BW := (List.mem_append_right _ (List.mem_append_right _ (List.mem_append_right _ (List.mem_append_right _ (List.mem_append_right _ (List.mem_append_right _ (List.mem_append_right _ (List.mem_append_right _ (List.mem_append_right _ (List.mem_append_right _ (List.mem_append_right _ (List.mem_append_right _ (List.mem_append_right _ (List.mem_append_right _ (List.mem_append_right _ (List.mem_append_right _ (List.mem_append_right _ (List.mem_append_right _ (List.mem_append_right _ (List.mem_append_right _ (List.mem_append_right _ (List.mem_append_left _ (List.mem_of_getElem? (i := 16) rfl)))))))))))))))))))))))
abbrev b_LoopRankerModel_floorOf : ByteArray := prog_6_method_30_code
def y_LoopRankerModel_floorOf : MethodName := ⟨"LoopRankerModel", "floorOf", "(I)J"⟩
abbrev rm_LoopRankerModel_floorOf : Room := { frames := 3, cells := 0, slots := 0, locals := 87 }
theorem kw_LoopRankerModel_floorOf : Cond.code y_LoopRankerModel_floorOf b_LoopRankerModel_floorOf 9 (some .long) ∈ BW := (List.mem_append_right _ (List.mem_append_right _ (List.mem_append_right _ (List.mem_append_right _ (List.mem_append_right _ (List.mem_append_right _ (List.mem_append_right _ (List.mem_append_right _ (List.mem_append_right _ (List.mem_append_right _ (List.mem_append_right _ (List.mem_append_right _ (List.mem_append_right _ (List.mem_append_right _ (List.mem_append_right _ (List.mem_append_right _ (List.mem_append_right _ (List.mem_append_right _ (List.mem_append_right _ (List.mem_append_right _ (List.mem_append_right _ (List.mem_append_right _ (List.mem_append_left _ (List.mem_of_getElem? (i := 3) rfl))))))))))))))))))))))))
abbrev b_LoopRankerModel_floor : ByteArray := prog_6_method_31_code
def y_LoopRankerModel_floor : MethodName := ⟨"LoopRankerModel", "floor", "(I)J"⟩
abbrev rm_LoopRankerModel_floor : Room := { frames := 8, cells := 0, slots := 0, locals := 208 }
theorem kw_LoopRankerModel_floor : Cond.code y_LoopRankerModel_floor b_LoopRankerModel_floor 2 (some .long) ∈ BW := (List.mem_append_right _ (List.mem_append_right _ (List.mem_append_right _ (List.mem_append_right _ (List.mem_append_right _ (List.mem_append_right _ (List.mem_append_right _ (List.mem_append_right _ (List.mem_append_right _ (List.mem_append_right _ (List.mem_append_right _ (List.mem_append_right _ (List.mem_append_right _ (List.mem_append_right _ (List.mem_append_right _ (List.mem_append_right _ (List.mem_append_right _ (List.mem_append_right _ (List.mem_append_right _ (List.mem_append_right _ (List.mem_append_right _ (List.mem_append_right _ (List.mem_append_left _ (List.mem_of_getElem? (i := 0) rfl))))))))))))))))))))))))
abbrev b_LoopRankerModel_start : ByteArray := prog_6_method_32_code
def y_LoopRankerModel_start : MethodName := ⟨"LoopRankerModel", "start", "(II)Z"⟩
abbrev rm_LoopRankerModel_start : Room := { frames := 1, cells := 0, slots := 0, locals := 21 }
theorem kw_LoopRankerModel_start : Cond.code y_LoopRankerModel_start b_LoopRankerModel_start 3 (some .boolean) ∈ BW := (List.mem_append_right _ (List.mem_append_right _ (List.mem_append_right _ (List.mem_append_right _ (List.mem_append_right _ (List.mem_append_right _ (List.mem_append_right _ (List.mem_append_right _ (List.mem_append_right _ (List.mem_append_right _ (List.mem_append_right _ (List.mem_append_right _ (List.mem_append_right _ (List.mem_append_right _ (List.mem_append_right _ (List.mem_append_right _ (List.mem_append_right _ (List.mem_append_right _ (List.mem_append_right _ (List.mem_append_right _ (List.mem_append_right _ (List.mem_append_right _ (List.mem_append_left _ (List.mem_of_getElem? (i := 7) rfl))))))))))))))))))))))))
abbrev b_LoopRankerModel_far : ByteArray := prog_6_method_33_code
def y_LoopRankerModel_far : MethodName := ⟨"LoopRankerModel", "far", "(J)Z"⟩
abbrev rm_LoopRankerModel_far : Room := { frames := 0, cells := 0, slots := 0, locals := 0 }
theorem kw_LoopRankerModel_far : Cond.code y_LoopRankerModel_far b_LoopRankerModel_far 2 (some .boolean) ∈ BW := (List.mem_append_right _ (List.mem_append_right _ (List.mem_append_right _ (List.mem_append_right _ (List.mem_append_right _ (List.mem_append_right _ (List.mem_append_right _ (List.mem_append_right _ (List.mem_append_right _ (List.mem_append_right _ (List.mem_append_right _ (List.mem_append_right _ (List.mem_append_right _ (List.mem_append_right _ (List.mem_append_right _ (List.mem_append_right _ (List.mem_append_right _ (List.mem_append_right _ (List.mem_append_right _ (List.mem_append_right _ (List.mem_append_right _ (List.mem_append_right _ (List.mem_append_left _ (List.mem_of_getElem? (i := 15) rfl))))))))))))))))))))))))
abbrev b_LoopRankerModel_fire : ByteArray := prog_6_method_34_code
def y_LoopRankerModel_fire : MethodName := ⟨"LoopRankerModel", "fire", "(I)Z"⟩
abbrev rm_LoopRankerModel_fire : Room := { frames := 1, cells := 0, slots := 0, locals := 21 }
theorem kw_LoopRankerModel_fire : Cond.code y_LoopRankerModel_fire b_LoopRankerModel_fire 7 (some .boolean) ∈ BW := (List.mem_append_right _ (List.mem_append_right _ (List.mem_append_right _ (List.mem_append_right _ (List.mem_append_right _ (List.mem_append_right _ (List.mem_append_right _ (List.mem_append_right _ (List.mem_append_right _ (List.mem_append_right _ (List.mem_append_right _ (List.mem_append_right _ (List.mem_append_right _ (List.mem_append_right _ (List.mem_append_right _ (List.mem_append_right _ (List.mem_append_right _ (List.mem_append_right _ (List.mem_append_right _ (List.mem_append_right _ (List.mem_append_right _ (List.mem_append_right _ (List.mem_append_left _ (List.mem_of_getElem? (i := 12) rfl))))))))))))))))))))))))
abbrev b_LoopRankerModel_value : ByteArray := prog_6_method_35_code
def y_LoopRankerModel_value : MethodName := ⟨"LoopRankerModel", "value", "(I)J"⟩
abbrev rm_LoopRankerModel_value : Room := { frames := 0, cells := 0, slots := 0, locals := 0 }
theorem kw_LoopRankerModel_value : Cond.code y_LoopRankerModel_value b_LoopRankerModel_value 2 (some .long) ∈ BW := (List.mem_append_right _ (List.mem_append_right _ (List.mem_append_right _ (List.mem_append_right _ (List.mem_append_right _ (List.mem_append_right _ (List.mem_append_right _ (List.mem_append_right _ (List.mem_append_right _ (List.mem_append_right _ (List.mem_append_right _ (List.mem_append_right _ (List.mem_append_right _ (List.mem_append_right _ (List.mem_append_right _ (List.mem_append_right _ (List.mem_append_right _ (List.mem_append_right _ (List.mem_append_right _ (List.mem_append_right _ (List.mem_append_right _ (List.mem_append_right _ (List.mem_append_right _ (List.mem_append_left _ (List.mem_of_getElem? (i := 1) rfl)))))))))))))))))))))))))
abbrev b_LoopRankerModel_fired : ByteArray := prog_6_method_36_code
def y_LoopRankerModel_fired : MethodName := ⟨"LoopRankerModel", "fired", "()I"⟩
abbrev rm_LoopRankerModel_fired : Room := { frames := 0, cells := 0, slots := 0, locals := 0 }
theorem kw_LoopRankerModel_fired : Cond.code y_LoopRankerModel_fired b_LoopRankerModel_fired 1 (some .int) ∈ BW := (List.mem_append_right _ (List.mem_append_right _ (List.mem_append_right _ (List.mem_append_right _ (List.mem_append_right _ (List.mem_append_right _ (List.mem_append_right _ (List.mem_append_right _ (List.mem_append_right _ (List.mem_append_right _ (List.mem_append_right _ (List.mem_append_right _ (List.mem_append_right _ (List.mem_append_right _ (List.mem_append_right _ (List.mem_append_right _ (List.mem_append_right _ (List.mem_append_right _ (List.mem_append_right _ (List.mem_append_right _ (List.mem_append_right _ (List.mem_append_right _ (List.mem_append_right _ (List.mem_append_left _ (List.mem_of_getElem? (i := 5) rfl)))))))))))))))))))))))))
abbrev b_LoopRankerModel_rank : ByteArray := prog_6_method_37_code
def y_LoopRankerModel_rank : MethodName := ⟨"LoopRankerModel", "rank", "(I)J"⟩
abbrev rm_LoopRankerModel_rank : Room := { frames := 8, cells := 0, slots := 0, locals := 208 }
theorem kw_LoopRankerModel_rank : Cond.code y_LoopRankerModel_rank b_LoopRankerModel_rank 2 (some .long) ∈ BW := (List.mem_append_right _ (List.mem_append_right _ (List.mem_append_right _ (List.mem_append_right _ (List.mem_append_right _ (List.mem_append_right _ (List.mem_append_right _ (List.mem_append_right _ (List.mem_append_right _ (List.mem_append_right _ (List.mem_append_right _ (List.mem_append_right _ (List.mem_append_right _ (List.mem_append_right _ (List.mem_append_right _ (List.mem_append_right _ (List.mem_append_right _ (List.mem_append_right _ (List.mem_append_right _ (List.mem_append_right _ (List.mem_append_right _ (List.mem_append_right _ (List.mem_append_right _ (List.mem_append_left _ (List.mem_of_getElem? (i := 9) rfl)))))))))))))))))))))))))
abbrev b_LoopRankerModel_budget : ByteArray := prog_6_method_38_code
def y_LoopRankerModel_budget : MethodName := ⟨"LoopRankerModel", "budget", "()J"⟩
abbrev rm_LoopRankerModel_budget : Room := { frames := 8, cells := 0, slots := 0, locals := 208 }
theorem kw_LoopRankerModel_budget : Cond.code y_LoopRankerModel_budget b_LoopRankerModel_budget 3 (some .long) ∈ BW := (List.mem_append_right _ (List.mem_append_right _ (List.mem_append_right _ (List.mem_append_right _ (List.mem_append_right _ (List.mem_append_right _ (List.mem_append_right _ (List.mem_append_right _ (List.mem_append_right _ (List.mem_append_right _ (List.mem_append_right _ (List.mem_append_right _ (List.mem_append_right _ (List.mem_append_right _ (List.mem_append_right _ (List.mem_append_right _ (List.mem_append_right _ (List.mem_append_right _ (List.mem_append_right _ (List.mem_append_right _ (List.mem_append_right _ (List.mem_append_right _ (List.mem_append_right _ (List.mem_append_left _ (List.mem_of_getElem? (i := 13) rfl)))))))))))))))))))))))))
abbrev b_Math_floorDiv : ByteArray := prog_7_method_49_code
def y_Math_floorDiv : MethodName := ⟨"java/lang/Math", "floorDiv", "(JJ)J"⟩
abbrev rm_Math_floorDiv : Room := { frames := 0, cells := 0, slots := 0, locals := 0 }
theorem kw_Math_floorDiv : Cond.code y_Math_floorDiv b_Math_floorDiv 6 (some .long) ∈ BW := (List.mem_append_right _ (List.mem_append_right _ (List.mem_append_right _ (List.mem_append_right _ (List.mem_append_right _ (List.mem_append_right _ (List.mem_append_right _ (List.mem_append_right _ (List.mem_append_right _ (List.mem_append_left _ (List.mem_of_getElem? (i := 14) rfl)))))))))))
theorem hin_Guard : ∀ w ∈ u_ws R_Guard F_Guard 7, w ∈ BW := by
  intro w hw
  obtain ⟨k, hk, rfl⟩ := List.mem_map.mp hw
  rw [List.mem_range] at hk
  rcases (show k = 0 ∨ k = 1 ∨ k = 2 ∨ k = 3 ∨ k = 4 ∨ k = 5 ∨ k = 6 by omega) with rfl | rfl | rfl | rfl | rfl | rfl | rfl
  · exact (List.mem_append_right _ (List.mem_append_left _ (List.mem_of_getElem? (i := 15) rfl)))
  · exact (List.mem_append_right _ (List.mem_append_left _ (List.mem_of_getElem? (i := 17) rfl)))
  · exact (List.mem_append_right _ (List.mem_append_left _ (List.mem_of_getElem? (i := 19) rfl)))
  · exact (List.mem_append_right _ (List.mem_append_right _ (List.mem_append_left _ (List.mem_of_getElem? (i := 1) rfl))))
  · exact (List.mem_append_right _ (List.mem_append_right _ (List.mem_append_left _ (List.mem_of_getElem? (i := 3) rfl))))
  · exact (List.mem_append_right _ (List.mem_append_right _ (List.mem_append_left _ (List.mem_of_getElem? (i := 5) rfl))))
  · exact (List.mem_append_right _ (List.mem_append_right _ (List.mem_append_left _ (List.mem_of_getElem? (i := 7) rfl))))
theorem hin_Step : ∀ w ∈ u_ws R_Step F_Step 4, w ∈ BW := by
  intro w hw
  obtain ⟨k, hk, rfl⟩ := List.mem_map.mp hw
  rw [List.mem_range] at hk
  rcases (show k = 0 ∨ k = 1 ∨ k = 2 ∨ k = 3 by omega) with rfl | rfl | rfl | rfl
  · exact (List.mem_append_right _ (List.mem_append_right _ (List.mem_append_left _ (List.mem_of_getElem? (i := 15) rfl))))
  · exact (List.mem_append_right _ (List.mem_append_right _ (List.mem_append_left _ (List.mem_of_getElem? (i := 17) rfl))))
  · exact (List.mem_append_right _ (List.mem_append_right _ (List.mem_append_left _ (List.mem_of_getElem? (i := 19) rfl))))
  · exact (List.mem_append_right _ (List.mem_append_right _ (List.mem_append_right _ (List.mem_append_left _ (List.mem_of_getElem? (i := 1) rfl)))))
theorem hin_Proof : ∀ w ∈ u_ws R_Proof F_Proof 9, w ∈ BW := by
  intro w hw
  obtain ⟨k, hk, rfl⟩ := List.mem_map.mp hw
  rw [List.mem_range] at hk
  rcases (show k = 0 ∨ k = 1 ∨ k = 2 ∨ k = 3 ∨ k = 4 ∨ k = 5 ∨ k = 6 ∨ k = 7 ∨ k = 8 by omega) with rfl | rfl | rfl | rfl | rfl | rfl | rfl | rfl | rfl
  · exact (List.mem_append_right _ (List.mem_append_right _ (List.mem_append_right _ (List.mem_append_right _ (List.mem_append_left _ (List.mem_of_getElem? (i := 4) rfl))))))
  · exact (List.mem_append_right _ (List.mem_append_right _ (List.mem_append_right _ (List.mem_append_right _ (List.mem_append_left _ (List.mem_of_getElem? (i := 6) rfl))))))
  · exact (List.mem_append_right _ (List.mem_append_right _ (List.mem_append_right _ (List.mem_append_right _ (List.mem_append_left _ (List.mem_of_getElem? (i := 8) rfl))))))
  · exact (List.mem_append_right _ (List.mem_append_right _ (List.mem_append_right _ (List.mem_append_right _ (List.mem_append_left _ (List.mem_of_getElem? (i := 10) rfl))))))
  · exact (List.mem_append_right _ (List.mem_append_right _ (List.mem_append_right _ (List.mem_append_right _ (List.mem_append_left _ (List.mem_of_getElem? (i := 12) rfl))))))
  · exact (List.mem_append_right _ (List.mem_append_right _ (List.mem_append_right _ (List.mem_append_right _ (List.mem_append_left _ (List.mem_of_getElem? (i := 14) rfl))))))
  · exact (List.mem_append_right _ (List.mem_append_right _ (List.mem_append_right _ (List.mem_append_right _ (List.mem_append_left _ (List.mem_of_getElem? (i := 16) rfl))))))
  · exact (List.mem_append_right _ (List.mem_append_right _ (List.mem_append_right _ (List.mem_append_right _ (List.mem_append_left _ (List.mem_of_getElem? (i := 18) rfl))))))
  · exact (List.mem_append_right _ (List.mem_append_right _ (List.mem_append_right _ (List.mem_append_right _ (List.mem_append_right _ (List.mem_append_left _ (List.mem_of_getElem? (i := 0) rfl)))))))
theorem hin_LoopRanker : ∀ w ∈ u_ws R_LoopRanker F_LoopRanker 6, w ∈ BW := by
  intro w hw
  obtain ⟨k, hk, rfl⟩ := List.mem_map.mp hw
  rw [List.mem_range] at hk
  rcases (show k = 0 ∨ k = 1 ∨ k = 2 ∨ k = 3 ∨ k = 4 ∨ k = 5 by omega) with rfl | rfl | rfl | rfl | rfl | rfl
  · exact (List.mem_append_right _ (List.mem_append_right _ (List.mem_append_right _ (List.mem_append_right _ (List.mem_append_right _ (List.mem_append_left _ (List.mem_of_getElem? (i := 10) rfl)))))))
  · exact (List.mem_append_right _ (List.mem_append_right _ (List.mem_append_right _ (List.mem_append_right _ (List.mem_append_right _ (List.mem_append_left _ (List.mem_of_getElem? (i := 12) rfl)))))))
  · exact (List.mem_append_right _ (List.mem_append_right _ (List.mem_append_right _ (List.mem_append_right _ (List.mem_append_right _ (List.mem_append_left _ (List.mem_of_getElem? (i := 14) rfl)))))))
  · exact (List.mem_append_right _ (List.mem_append_right _ (List.mem_append_right _ (List.mem_append_right _ (List.mem_append_right _ (List.mem_append_left _ (List.mem_of_getElem? (i := 16) rfl)))))))
  · exact (List.mem_append_right _ (List.mem_append_right _ (List.mem_append_right _ (List.mem_append_right _ (List.mem_append_right _ (List.mem_append_left _ (List.mem_of_getElem? (i := 18) rfl)))))))
  · exact (List.mem_append_right _ (List.mem_append_right _ (List.mem_append_right _ (List.mem_append_right _ (List.mem_append_right _ (List.mem_append_right _ (List.mem_append_left _ (List.mem_of_getElem? (i := 0) rfl))))))))
theorem hin_LoopRankerModel : ∀ w ∈ u_ws R_LoopRankerModel F_LoopRankerModel 16, w ∈ BW := by
  intro w hw
  obtain ⟨k, hk, rfl⟩ := List.mem_map.mp hw
  rw [List.mem_range] at hk
  rcases (show k = 0 ∨ k = 1 ∨ k = 2 ∨ k = 3 ∨ k = 4 ∨ k = 5 ∨ k = 6 ∨ k = 7 ∨ k = 8 ∨ k = 9 ∨ k = 10 ∨ k = 11 ∨ k = 12 ∨ k = 13 ∨ k = 14 ∨ k = 15 by omega) with rfl | rfl | rfl | rfl | rfl | rfl | rfl | rfl | rfl | rfl | rfl | rfl | rfl | rfl | rfl | rfl
  · exact (List.mem_append_right _ (List.mem_append_right _ (List.mem_append_right _ (List.mem_append_right _ (List.mem_append_right _ (List.mem_append_right _ (List.mem_append_right _ (List.mem_append_right _ (List.mem_append_right _ (List.mem_append_right _ (List.mem_append_right _ (List.mem_append_right _ (List.mem_append_right _ (List.mem_append_right _ (List.mem_append_right _ (List.mem_append_left _ (List.mem_of_getElem? (i := 7) rfl)))))))))))))))))
  · exact (List.mem_append_right _ (List.mem_append_right _ (List.mem_append_right _ (List.mem_append_right _ (List.mem_append_right _ (List.mem_append_right _ (List.mem_append_right _ (List.mem_append_right _ (List.mem_append_right _ (List.mem_append_right _ (List.mem_append_right _ (List.mem_append_right _ (List.mem_append_right _ (List.mem_append_right _ (List.mem_append_right _ (List.mem_append_left _ (List.mem_of_getElem? (i := 9) rfl)))))))))))))))))
  · exact (List.mem_append_right _ (List.mem_append_right _ (List.mem_append_right _ (List.mem_append_right _ (List.mem_append_right _ (List.mem_append_right _ (List.mem_append_right _ (List.mem_append_right _ (List.mem_append_right _ (List.mem_append_right _ (List.mem_append_right _ (List.mem_append_right _ (List.mem_append_right _ (List.mem_append_right _ (List.mem_append_right _ (List.mem_append_left _ (List.mem_of_getElem? (i := 11) rfl)))))))))))))))))
  · exact (List.mem_append_right _ (List.mem_append_right _ (List.mem_append_right _ (List.mem_append_right _ (List.mem_append_right _ (List.mem_append_right _ (List.mem_append_right _ (List.mem_append_right _ (List.mem_append_right _ (List.mem_append_right _ (List.mem_append_right _ (List.mem_append_right _ (List.mem_append_right _ (List.mem_append_right _ (List.mem_append_right _ (List.mem_append_left _ (List.mem_of_getElem? (i := 13) rfl)))))))))))))))))
  · exact (List.mem_append_right _ (List.mem_append_right _ (List.mem_append_right _ (List.mem_append_right _ (List.mem_append_right _ (List.mem_append_right _ (List.mem_append_right _ (List.mem_append_right _ (List.mem_append_right _ (List.mem_append_right _ (List.mem_append_right _ (List.mem_append_right _ (List.mem_append_right _ (List.mem_append_right _ (List.mem_append_right _ (List.mem_append_left _ (List.mem_of_getElem? (i := 15) rfl)))))))))))))))))
  · exact (List.mem_append_right _ (List.mem_append_right _ (List.mem_append_right _ (List.mem_append_right _ (List.mem_append_right _ (List.mem_append_right _ (List.mem_append_right _ (List.mem_append_right _ (List.mem_append_right _ (List.mem_append_right _ (List.mem_append_right _ (List.mem_append_right _ (List.mem_append_right _ (List.mem_append_right _ (List.mem_append_right _ (List.mem_append_left _ (List.mem_of_getElem? (i := 17) rfl)))))))))))))))))
  · exact (List.mem_append_right _ (List.mem_append_right _ (List.mem_append_right _ (List.mem_append_right _ (List.mem_append_right _ (List.mem_append_right _ (List.mem_append_right _ (List.mem_append_right _ (List.mem_append_right _ (List.mem_append_right _ (List.mem_append_right _ (List.mem_append_right _ (List.mem_append_right _ (List.mem_append_right _ (List.mem_append_right _ (List.mem_append_left _ (List.mem_of_getElem? (i := 19) rfl)))))))))))))))))
  · exact (List.mem_append_right _ (List.mem_append_right _ (List.mem_append_right _ (List.mem_append_right _ (List.mem_append_right _ (List.mem_append_right _ (List.mem_append_right _ (List.mem_append_right _ (List.mem_append_right _ (List.mem_append_right _ (List.mem_append_right _ (List.mem_append_right _ (List.mem_append_right _ (List.mem_append_right _ (List.mem_append_right _ (List.mem_append_right _ (List.mem_append_left _ (List.mem_of_getElem? (i := 1) rfl))))))))))))))))))
  · exact (List.mem_append_right _ (List.mem_append_right _ (List.mem_append_right _ (List.mem_append_right _ (List.mem_append_right _ (List.mem_append_right _ (List.mem_append_right _ (List.mem_append_right _ (List.mem_append_right _ (List.mem_append_right _ (List.mem_append_right _ (List.mem_append_right _ (List.mem_append_right _ (List.mem_append_right _ (List.mem_append_right _ (List.mem_append_right _ (List.mem_append_left _ (List.mem_of_getElem? (i := 3) rfl))))))))))))))))))
  · exact (List.mem_append_right _ (List.mem_append_right _ (List.mem_append_right _ (List.mem_append_right _ (List.mem_append_right _ (List.mem_append_right _ (List.mem_append_right _ (List.mem_append_right _ (List.mem_append_right _ (List.mem_append_right _ (List.mem_append_right _ (List.mem_append_right _ (List.mem_append_right _ (List.mem_append_right _ (List.mem_append_right _ (List.mem_append_right _ (List.mem_append_left _ (List.mem_of_getElem? (i := 5) rfl))))))))))))))))))
  · exact (List.mem_append_right _ (List.mem_append_right _ (List.mem_append_right _ (List.mem_append_right _ (List.mem_append_right _ (List.mem_append_right _ (List.mem_append_right _ (List.mem_append_right _ (List.mem_append_right _ (List.mem_append_right _ (List.mem_append_right _ (List.mem_append_right _ (List.mem_append_right _ (List.mem_append_right _ (List.mem_append_right _ (List.mem_append_right _ (List.mem_append_left _ (List.mem_of_getElem? (i := 7) rfl))))))))))))))))))
  · exact (List.mem_append_right _ (List.mem_append_right _ (List.mem_append_right _ (List.mem_append_right _ (List.mem_append_right _ (List.mem_append_right _ (List.mem_append_right _ (List.mem_append_right _ (List.mem_append_right _ (List.mem_append_right _ (List.mem_append_right _ (List.mem_append_right _ (List.mem_append_right _ (List.mem_append_right _ (List.mem_append_right _ (List.mem_append_right _ (List.mem_append_left _ (List.mem_of_getElem? (i := 9) rfl))))))))))))))))))
  · exact (List.mem_append_right _ (List.mem_append_right _ (List.mem_append_right _ (List.mem_append_right _ (List.mem_append_right _ (List.mem_append_right _ (List.mem_append_right _ (List.mem_append_right _ (List.mem_append_right _ (List.mem_append_right _ (List.mem_append_right _ (List.mem_append_right _ (List.mem_append_right _ (List.mem_append_right _ (List.mem_append_right _ (List.mem_append_right _ (List.mem_append_left _ (List.mem_of_getElem? (i := 11) rfl))))))))))))))))))
  · exact (List.mem_append_right _ (List.mem_append_right _ (List.mem_append_right _ (List.mem_append_right _ (List.mem_append_right _ (List.mem_append_right _ (List.mem_append_right _ (List.mem_append_right _ (List.mem_append_right _ (List.mem_append_right _ (List.mem_append_right _ (List.mem_append_right _ (List.mem_append_right _ (List.mem_append_right _ (List.mem_append_right _ (List.mem_append_right _ (List.mem_append_left _ (List.mem_of_getElem? (i := 13) rfl))))))))))))))))))
  · exact (List.mem_append_right _ (List.mem_append_right _ (List.mem_append_right _ (List.mem_append_right _ (List.mem_append_right _ (List.mem_append_right _ (List.mem_append_right _ (List.mem_append_right _ (List.mem_append_right _ (List.mem_append_right _ (List.mem_append_right _ (List.mem_append_right _ (List.mem_append_right _ (List.mem_append_right _ (List.mem_append_right _ (List.mem_append_right _ (List.mem_append_left _ (List.mem_of_getElem? (i := 15) rfl))))))))))))))))))
  · exact (List.mem_append_right _ (List.mem_append_right _ (List.mem_append_right _ (List.mem_append_right _ (List.mem_append_right _ (List.mem_append_right _ (List.mem_append_right _ (List.mem_append_right _ (List.mem_append_right _ (List.mem_append_right _ (List.mem_append_right _ (List.mem_append_right _ (List.mem_append_right _ (List.mem_append_right _ (List.mem_append_right _ (List.mem_append_right _ (List.mem_append_left _ (List.mem_of_getElem? (i := 17) rfl))))))))))))))))))
end
section
/-! What the class's methods answer, as they are written: Int32 and Int64 -/
def g_cross (a b c d : Int64) : Int64 := a * d - b * c
def g_abs (x : Int32) : Int32 := if 0 ≤ x then x else 0 - x
def g_lo (s : Int64 × Int64) (t d : Int64) : Int64 × Int64 := if s.2 = 0 then (t, d) else if t * s.2 < s.1 * d then (t, d) else s
def g_row (fp fq fr : Nat → Int32) (a b : Int32) (i : Nat) (s : Int64 × Int64) : Int64 × Int64 :=
  if g_cross (fp i).toInt64 (fq i).toInt64 a.toInt64 b.toInt64 = 0 then (if fp i * a + fq i * b ≤ 0 then s else g_lo s ((fr i).toInt64 * (g_abs a + g_abs b).toInt64) (g_abs (fp i) + g_abs (fq i)).toInt64) else s
def g_sg (c : Int64) : Int64 := if c < 0 then -1 else 1
def g_pair (fp fq fr : Nat → Int32) (a b : Int32) (i j : Nat) (s : Int64 × Int64) : Int64 × Int64 :=
  if g_cross (fp i).toInt64 (fq i).toInt64 (fp j).toInt64 (fq j).toInt64 = 0 then s
  else if g_sg (g_cross (fp i).toInt64 (fq i).toInt64 (fp j).toInt64 (fq j).toInt64) * g_cross a.toInt64 b.toInt64 (fp j).toInt64 (fq j).toInt64 < 0 then s
  else if g_sg (g_cross (fp i).toInt64 (fq i).toInt64 (fp j).toInt64 (fq j).toInt64) * g_cross (fp i).toInt64 (fq i).toInt64 a.toInt64 b.toInt64 < 0 then s
  else g_lo s ((fr i).toInt64 * (g_sg (g_cross (fp i).toInt64 (fq i).toInt64 (fp j).toInt64 (fq j).toInt64) * g_cross a.toInt64 b.toInt64 (fp j).toInt64 (fq j).toInt64) + (fr j).toInt64 * (g_sg (g_cross (fp i).toInt64 (fq i).toInt64 (fp j).toInt64 (fq j).toInt64) * g_cross (fp i).toInt64 (fq i).toInt64 a.toInt64 b.toInt64)) (g_sg (g_cross (fp i).toInt64 (fq i).toInt64 (fp j).toInt64 (fq j).toInt64) * g_cross (fp i).toInt64 (fq i).toInt64 (fp j).toInt64 (fq j).toInt64)
def g_in (fp fq fr : Nat → Int32) (a b : Int32) (i : Nat) : Nat → Nat → Int64 × Int64 → Int64 × Int64
  | 0, _, s => s
  | k + 1, j, s => g_in fp fq fr a b i k (j + 1) (g_pair fp fq fr a b i j s)
def g_out (fp fq fr : Nat → Int32) (a b : Int32) : Nat → Nat → Int64 × Int64 → Int64 × Int64
  | 0, _, s => s
  | k + 1, i, s => g_out fp fq fr a b k (i + 1) (g_in fp fq fr a b i k (i + 1) (g_row fp fq fr a b i s))
def g_max (fp fq fr : Nat → Int32) (n : Nat) (a b : Int32) : Int64 × Int64 := if a = 0 then (if b = 0 then (0, 1) else g_out fp fq fr a b n 0 (0, 0)) else g_out fp fq fr a b n 0 (0, 0)
def g_has (bot : Int64) : Int32 := if bot = 0 then 0 else 1
def g_atm (top bot x : Int64) : Int32 := if bot = 0 then 0 else if x * bot < top then 0 else 1
def g_al (fp fq fr : Nat → Int32) (x y : Int64) : Nat → Nat → Int32
  | 0, _ => 1
  | k + 1, i => if (fr i).toInt64 < (fp i).toInt64 * x + (fq i).toInt64 * y then 0 else g_al fp fq fr x y k (i + 1)
def g_fd (x y : Int64) : Int64 := if (x ^^^ y) < 0 then (if x / y * y = x then x / y else x / y - 1) else x / y
def g_rnd (top bot : Int64) : Int64 := if bot = 0 then 4611686018427387904 else g_fd top bot
def g_em (fp fq fr : Nat → Int32) (n : Nat) (em p q r : Int32) : Int32 :=
  if em = 0 then (if (g_max fp fq fr n (-p) (-q)).2 = 0 then 0 else if (g_max fp fq fr n (-p) (-q)).1 < (-r).toInt64 * (g_max fp fq fr n (-p) (-q)).2 then 1 else 0) else em
abbrev gW (cI : ClassId) (g a1 a2 a3 : Nat) (fp fq fr : Nat → Int32) (n : Nat) (em : Int32) (top bot : Int64) : va_W :=
  [(g, .inr (0, [.ref a1, .ref a2, .ref a3, .int (nI n), .int em, .long top, .long bot])), (a1, .inl (cI, 4, .inl fp)), (a2, .inl (cI, 4, .inl fq)), (a3, .inl (cI, 4, .inl fr))]
def s_set (ru : Nat → Int32) (v a b c : Int32) : Nat → Int32 := if v = 0 then upd (upd (upd ru 0 a) 1 b) 2 c else upd (upd (upd ru 3 a) 4 b) 5 c
def s_next (ru : Nat → Int32) (v : Int32) (x y : Int64) : Int64 := if v = 0 then (ru 0).toInt64 * x + (ru 1).toInt64 * y + (ru 2).toInt64 else (ru 3).toInt64 * x + (ru 4).toInt64 * y + (ru 5).toInt64
def s_chg (fp fq fr : Nat → Int32) (n : Nat) (em : Int32) (ru : Nat → Int32) (u v most : Int32) : Int32 :=
  if em = 0 then g_atm (g_max fp fq fr n (u * ru 0 + v * ru 3 - u) (u * ru 1 + v * ru 4 - v)).1 (g_max fp fq fr n (u * ru 0 + v * ru 3 - u) (u * ru 1 + v * ru 4 - v)).2 (most - (u * ru 2 + v * ru 5)).toInt64 else 1
def s_bnd (fp fq fr : Nat → Int32) (n : Nat) (em : Int32) (u v : Int32) : Int32 := if em = 0 then g_has (g_max fp fq fr n (-u) (-v)).2 else 1
def s_kind (fp fq fr : Nat → Int32) (n : Nat) (em : Int32) (ru : Nat → Int32) (u v : Int32) : Int32 :=
  if s_chg fp fq fr n em ru u v 0 = 0 then 0 else if s_chg fp fq fr n em ru u v (-1) = 0 then 1 else if s_bnd fp fq fr n em u v = 0 then 1 else 2
theorem g_has_b (b : Int64) : g_has b = 0 ∨ g_has b = 1 := by unfold g_has; split <;> simp
theorem g_atm_b (t b x : Int64) : g_atm t b x = 0 ∨ g_atm t b x = 1 := by unfold g_atm; split <;> (try split) <;> simp
abbrev sW (cI : ClassId) (so g a1 a2 a3 a4 a5 : Nat) (fp fq fr : Nat → Int32) (n : Nat) (em : Int32) (top bot : Int64) (ru kd : Nat → Int32) (kf : Int32) : va_W :=
  [(so, .inr (1, [.ref g, .ref a4, .ref a5, .int kf])), (g, .inr (0, [.ref a1, .ref a2, .ref a3, .int (nI n), .int em, .long top, .long bot])), (a1, .inl (cI, 4, .inl fp)), (a2, .inl (cI, 4, .inl fq)), (a3, .inl (cI, 4, .inl fr)), (a4, .inl (cI, 6, .inl ru)), (a5, .inl (cI, 80, .inl kd))]
abbrev kW (cI : ClassId) (so g a1 a2 a3 a4 a5 : Nat) (fp fq fr : Nat → Int32) (n : Nat) (em : Int32) (top bot : Int64) (ru kd : Nat → Int32) (kf : Int32) (u1 u2 : Nat) (us vs : Nat → Int32) : va_W :=
  [(so, .inr (1, [.ref g, .ref a4, .ref a5, .int kf])), (g, .inr (0, [.ref a1, .ref a2, .ref a3, .int (nI n), .int em, .long top, .long bot])), (a1, .inl (cI, 4, .inl fp)), (a2, .inl (cI, 4, .inl fq)), (a3, .inl (cI, 4, .inl fr)), (a4, .inl (cI, 6, .inl ru)), (a5, .inl (cI, 80, .inl kd)), (u1, .inl (cI, 80, .inl us)), (u2, .inl (cI, 80, .inl vs))]
end
section
/-! One row for each field, method and constant that an instruction names -/
section LK
variable {p : Program} {l : Launch} {e : Env} {R : Room} {s : State} {m : MethodId} {args : Array Value} {below : List Frame} {meth : Method} {c : Code} {H : Heap} {locs : List Loc} {cells slots : Nat} {Q : State → Prop}
variable {D : va_G} {tys : List (ClassId × FieldType)} {A : Nat → Prop} {ws0 : va_W} {cc : ByteArray} {pc nL : Nat} {ls : Array Slot} {rest : List Value} {ad : Nat}
theorem fp_Guard_9 (X : wk_X p s m args meth c cc "LoopRanker$Guard" nL BW D cls tys nz A) (hin : meth.name = "<init>") (hP : va_P D cls ws0 H) (hD : va_D A ws0) (hS : va_S A s.heap H locs) (q0 : Nat) {fs : List Value} {v : Value} (he : ws0[q0]? = some (ad, .inr (0, fs))) (hn : narrow (.array .int) v = v) (hf : fits (.array .int) v = true) (hl : Nat.ble (0 + 1) fs.length = true) (hdg : decode cc pc = .ok (.putfield 9, 3)) (kk : ∀ (H1 : Heap) (locs1 : List Loc), va_P D cls (ws0.set q0 (ad, .inr (0, fs.set 0 v))) H1 → va_D A (ws0.set q0 (ad, .inr (0, fs.set 0 v))) → va_S A s.heap H1 locs1 → W p l e R s m args below meth c H1 locs1 cells slots Q (F0 m (pc + 3) ls rest)) : W p l e R s m args below meth c H locs cells slots Q (F0 m pc ls (v :: .ref ad :: rest)) :=
  va_putF (D := D) (ci := 0) (v := v) (ty := .array .int) (C := R_Guard) (T := F_Guard) (N := 7) X.1.1 X.1.2.1 X.1.2.2.2.2 hin_Guard t_Guard t_Guard_ok n_Guard X.1.2.2.2.1 X.2.1 hP hD hS q0 he rfl 0 (by decide) (X.1.2.2.2.2 _ (List.mem_append_right _ (List.mem_append_left _ (List.mem_of_getElem? (i := 8) rfl)))) (fun _ h9 => h9) rfl hin rfl (by decide +kernel) hn hf (Nat.le_of_ble_eq_true hl) hdg kk
theorem fp_Guard_15 (X : wk_X p s m args meth c cc "LoopRanker$Guard" nL BW D cls tys nz A) (hin : meth.name = "<init>") (hP : va_P D cls ws0 H) (hD : va_D A ws0) (hS : va_S A s.heap H locs) (q0 : Nat) {fs : List Value} {v : Value} (he : ws0[q0]? = some (ad, .inr (0, fs))) (hn : narrow (.array .int) v = v) (hf : fits (.array .int) v = true) (hl : Nat.ble (1 + 1) fs.length = true) (hdg : decode cc pc = .ok (.putfield 15, 3)) (kk : ∀ (H1 : Heap) (locs1 : List Loc), va_P D cls (ws0.set q0 (ad, .inr (0, fs.set 1 v))) H1 → va_D A (ws0.set q0 (ad, .inr (0, fs.set 1 v))) → va_S A s.heap H1 locs1 → W p l e R s m args below meth c H1 locs1 cells slots Q (F0 m (pc + 3) ls rest)) : W p l e R s m args below meth c H locs cells slots Q (F0 m pc ls (v :: .ref ad :: rest)) :=
  va_putF (D := D) (ci := 0) (v := v) (ty := .array .int) (C := R_Guard) (T := F_Guard) (N := 7) X.1.1 X.1.2.1 X.1.2.2.2.2 hin_Guard t_Guard t_Guard_ok n_Guard X.1.2.2.2.1 X.2.1 hP hD hS q0 he rfl 1 (by decide) (X.1.2.2.2.2 _ (List.mem_append_right _ (List.mem_append_left _ (List.mem_of_getElem? (i := 9) rfl)))) (fun _ h9 => h9) rfl hin rfl (by decide +kernel) hn hf (Nat.le_of_ble_eq_true hl) hdg kk
theorem fp_Guard_18 (X : wk_X p s m args meth c cc "LoopRanker$Guard" nL BW D cls tys nz A) (hin : meth.name = "<init>") (hP : va_P D cls ws0 H) (hD : va_D A ws0) (hS : va_S A s.heap H locs) (q0 : Nat) {fs : List Value} {v : Value} (he : ws0[q0]? = some (ad, .inr (0, fs))) (hn : narrow (.array .int) v = v) (hf : fits (.array .int) v = true) (hl : Nat.ble (2 + 1) fs.length = true) (hdg : decode cc pc = .ok (.putfield 18, 3)) (kk : ∀ (H1 : Heap) (locs1 : List Loc), va_P D cls (ws0.set q0 (ad, .inr (0, fs.set 2 v))) H1 → va_D A (ws0.set q0 (ad, .inr (0, fs.set 2 v))) → va_S A s.heap H1 locs1 → W p l e R s m args below meth c H1 locs1 cells slots Q (F0 m (pc + 3) ls rest)) : W p l e R s m args below meth c H locs cells slots Q (F0 m pc ls (v :: .ref ad :: rest)) :=
  va_putF (D := D) (ci := 0) (v := v) (ty := .array .int) (C := R_Guard) (T := F_Guard) (N := 7) X.1.1 X.1.2.1 X.1.2.2.2.2 hin_Guard t_Guard t_Guard_ok n_Guard X.1.2.2.2.1 X.2.1 hP hD hS q0 he rfl 2 (by decide) (X.1.2.2.2.2 _ (List.mem_append_right _ (List.mem_append_left _ (List.mem_of_getElem? (i := 10) rfl)))) (fun _ h9 => h9) rfl hin rfl (by decide +kernel) hn hf (Nat.le_of_ble_eq_true hl) hdg kk
theorem cw_Guard_21 (hT : ∀ w ∈ BW, w.before args s = true) (hZ : wk_Z nz s) (hR : rm_Guard_clear.frames + 1 ≤ R.frames ∧ 8 + (1 + 11) + rm_Guard_clear.locals ≤ R.locals) : (CallB R s args "LoopRanker$Guard" 21 y_Guard_clear b_Guard_clear 1 none (Cond.code y_Guard_clear b_Guard_clear 1 none :: BW) rm_Guard_clear 0 0 0) ∧ (Cond.instanceMethod y_Guard_clear).before args s = true ∧ (Cond.selects "LoopRanker$Guard" y_Guard_clear y_Guard_clear).before args s = true :=
  ⟨callB_of 0 hT (BW_good kw_Guard_clear) rfl rfl rfl (hT _ (List.mem_append_left _ (List.mem_of_getElem? (i := 3) rfl))) (hT _ (List.mem_append_right _ (List.mem_append_left _ (List.mem_of_getElem? (i := 5) rfl)))) ⟨by decide, by decide, by decide +kernel⟩ hR, (hT _ (List.mem_append_right _ (List.mem_append_left _ (List.mem_of_getElem? (i := 6) rfl)))), (hT _ (List.mem_append_right _ (List.mem_append_right _ (List.mem_append_right _ (List.mem_append_right _ (List.mem_append_right _ (List.mem_append_right _ (List.mem_append_right _ (List.mem_append_right _ (List.mem_append_right _ (List.mem_append_right _ (List.mem_append_right _ (List.mem_append_right _ (List.mem_append_right _ (List.mem_append_right _ (List.mem_append_right _ (List.mem_append_right _ (List.mem_append_right _ (List.mem_append_right _ (List.mem_append_right _ (List.mem_append_right _ (List.mem_append_right _ (List.mem_append_right _ (List.mem_append_right _ (List.mem_append_left _ (List.mem_of_getElem? (i := 15) rfl))))))))))))))))))))))))))⟩
theorem fp_Guard_24 (X : wk_X p s m args meth c cc "LoopRanker$Guard" nL BW D cls tys nz A) (hP : va_P D cls ws0 H) (hD : va_D A ws0) (hS : va_S A s.heap H locs) (q0 : Nat) {fs : List Value} {v : Value} (he : ws0[q0]? = some (ad, .inr (0, fs))) (hn : narrow (.int) v = v) (hf : fits (.int) v = true) (hl : Nat.ble (3 + 1) fs.length = true) (hdg : decode cc pc = .ok (.putfield 24, 3)) (kk : ∀ (H1 : Heap) (locs1 : List Loc), va_P D cls (ws0.set q0 (ad, .inr (0, fs.set 3 v))) H1 → va_D A (ws0.set q0 (ad, .inr (0, fs.set 3 v))) → va_S A s.heap H1 locs1 → W p l e R s m args below meth c H1 locs1 cells slots Q (F0 m (pc + 3) ls rest)) : W p l e R s m args below meth c H locs cells slots Q (F0 m pc ls (v :: .ref ad :: rest)) :=
  va_put (D := D) (ci := 0) (v := v) (ty := .int) (C := R_Guard) (T := F_Guard) (N := 7) X.1.1 X.1.2.1 X.1.2.2.2.2 hin_Guard t_Guard t_Guard_ok n_Guard X.1.2.2.2.1 X.2.1 hP hD hS q0 he rfl 3 (by decide) (X.1.2.2.2.2 _ (List.mem_append_right _ (List.mem_append_left _ (List.mem_of_getElem? (i := 11) rfl)))) (fun _ h9 => h9) rfl (by decide +kernel) hn hf (Nat.le_of_ble_eq_true hl) hdg kk
theorem fp_Guard_28 (X : wk_X p s m args meth c cc "LoopRanker$Guard" nL BW D cls tys nz A) (hP : va_P D cls ws0 H) (hD : va_D A ws0) (hS : va_S A s.heap H locs) (q0 : Nat) {fs : List Value} {v : Value} (he : ws0[q0]? = some (ad, .inr (0, fs))) (hn : narrow (.boolean) v = v) (hf : fits (.boolean) v = true) (hl : Nat.ble (4 + 1) fs.length = true) (hdg : decode cc pc = .ok (.putfield 28, 3)) (kk : ∀ (H1 : Heap) (locs1 : List Loc), va_P D cls (ws0.set q0 (ad, .inr (0, fs.set 4 v))) H1 → va_D A (ws0.set q0 (ad, .inr (0, fs.set 4 v))) → va_S A s.heap H1 locs1 → W p l e R s m args below meth c H1 locs1 cells slots Q (F0 m (pc + 3) ls rest)) : W p l e R s m args below meth c H locs cells slots Q (F0 m pc ls (v :: .ref ad :: rest)) :=
  va_put (D := D) (ci := 0) (v := v) (ty := .boolean) (C := R_Guard) (T := F_Guard) (N := 7) X.1.1 X.1.2.1 X.1.2.2.2.2 hin_Guard t_Guard t_Guard_ok n_Guard X.1.2.2.2.1 X.2.1 hP hD hS q0 he rfl 4 (by decide) (X.1.2.2.2.2 _ (List.mem_append_right _ (List.mem_append_left _ (List.mem_of_getElem? (i := 12) rfl)))) (fun _ h9 => h9) rfl (by decide +kernel) hn hf (Nat.le_of_ble_eq_true hl) hdg kk
theorem fp_Guard_32 (X : wk_X p s m args meth c cc "LoopRanker$Guard" nL BW D cls tys nz A) (hP : va_P D cls ws0 H) (hD : va_D A ws0) (hS : va_S A s.heap H locs) (q0 : Nat) {fs : List Value} {v : Value} (he : ws0[q0]? = some (ad, .inr (0, fs))) (hn : narrow (.long) v = v) (hf : fits (.long) v = true) (hl : Nat.ble (5 + 1) fs.length = true) (hdg : decode cc pc = .ok (.putfield 32, 3)) (kk : ∀ (H1 : Heap) (locs1 : List Loc), va_P D cls (ws0.set q0 (ad, .inr (0, fs.set 5 v))) H1 → va_D A (ws0.set q0 (ad, .inr (0, fs.set 5 v))) → va_S A s.heap H1 locs1 → W p l e R s m args below meth c H1 locs1 cells slots Q (F0 m (pc + 3) ls rest)) : W p l e R s m args below meth c H locs cells slots Q (F0 m pc ls (v :: .ref ad :: rest)) :=
  va_put (D := D) (ci := 0) (v := v) (ty := .long) (C := R_Guard) (T := F_Guard) (N := 7) X.1.1 X.1.2.1 X.1.2.2.2.2 hin_Guard t_Guard t_Guard_ok n_Guard X.1.2.2.2.1 X.2.1 hP hD hS q0 he rfl 5 (by decide) (X.1.2.2.2.2 _ (List.mem_append_right _ (List.mem_append_left _ (List.mem_of_getElem? (i := 13) rfl)))) (fun _ h9 => h9) rfl (by decide +kernel) hn hf (Nat.le_of_ble_eq_true hl) hdg kk
theorem fp_Guard_36 (X : wk_X p s m args meth c cc "LoopRanker$Guard" nL BW D cls tys nz A) (hP : va_P D cls ws0 H) (hD : va_D A ws0) (hS : va_S A s.heap H locs) (q0 : Nat) {fs : List Value} {v : Value} (he : ws0[q0]? = some (ad, .inr (0, fs))) (hn : narrow (.long) v = v) (hf : fits (.long) v = true) (hl : Nat.ble (6 + 1) fs.length = true) (hdg : decode cc pc = .ok (.putfield 36, 3)) (kk : ∀ (H1 : Heap) (locs1 : List Loc), va_P D cls (ws0.set q0 (ad, .inr (0, fs.set 6 v))) H1 → va_D A (ws0.set q0 (ad, .inr (0, fs.set 6 v))) → va_S A s.heap H1 locs1 → W p l e R s m args below meth c H1 locs1 cells slots Q (F0 m (pc + 3) ls rest)) : W p l e R s m args below meth c H locs cells slots Q (F0 m pc ls (v :: .ref ad :: rest)) :=
  va_put (D := D) (ci := 0) (v := v) (ty := .long) (C := R_Guard) (T := F_Guard) (N := 7) X.1.1 X.1.2.1 X.1.2.2.2.2 hin_Guard t_Guard t_Guard_ok n_Guard X.1.2.2.2.1 X.2.1 hP hD hS q0 he rfl 6 (by decide) (X.1.2.2.2.2 _ (List.mem_append_right _ (List.mem_append_left _ (List.mem_of_getElem? (i := 14) rfl)))) (fun _ h9 => h9) rfl (by decide +kernel) hn hf (Nat.le_of_ble_eq_true hl) hdg kk
theorem fg_Guard_24 (X : wk_X p s m args meth c cc "LoopRanker$Guard" nL BW D cls tys nz A) (hP : va_P D cls ws0 H) (q0 : Nat) {fs : List Value} {v : Value} (he : ws0[q0]? = some (ad, .inr (0, fs))) (hv : fs[3]? = some v) (hdg : decode cc pc = .ok (.getfield 24, 3)) (kk : W p l e R s m args below meth c H locs cells slots Q (F0 m (pc + 3) ls (v :: rest))) : W p l e R s m args below meth c H locs cells slots Q (F0 m pc ls (.ref ad :: rest)) :=
  va_get (D := D) (ci := 0) (C := R_Guard) (T := F_Guard) (N := 7) X.1.1 X.1.2.1 X.1.2.2.2.2 hin_Guard X.1.2.2.2.1 X.2.1 hP q0 he rfl 3 (by decide) (X.1.2.2.2.2 _ (List.mem_append_right _ (List.mem_append_left _ (List.mem_of_getElem? (i := 11) rfl)))) (fun _ h9 => h9) hv hdg kk
theorem fg_Guard_28 (X : wk_X p s m args meth c cc "LoopRanker$Guard" nL BW D cls tys nz A) (hP : va_P D cls ws0 H) (q0 : Nat) {fs : List Value} {v : Value} (he : ws0[q0]? = some (ad, .inr (0, fs))) (hv : fs[4]? = some v) (hdg : decode cc pc = .ok (.getfield 28, 3)) (kk : W p l e R s m args below meth c H locs cells slots Q (F0 m (pc + 3) ls (v :: rest))) : W p l e R s m args below meth c H locs cells slots Q (F0 m pc ls (.ref ad :: rest)) :=
  va_get (D := D) (ci := 0) (C := R_Guard) (T := F_Guard) (N := 7) X.1.1 X.1.2.1 X.1.2.2.2.2 hin_Guard X.1.2.2.2.1 X.2.1 hP q0 he rfl 4 (by decide) (X.1.2.2.2.2 _ (List.mem_append_right _ (List.mem_append_left _ (List.mem_of_getElem? (i := 12) rfl)))) (fun _ h9 => h9) hv hdg kk
theorem cw_Guard_39 (hT : ∀ w ∈ BW, w.before args s = true) (hZ : wk_Z nz s) (hR : rm_Guard_maximise.frames + 1 ≤ R.frames ∧ 8 + (5 + 11) + rm_Guard_maximise.locals ≤ R.locals) : (CallB R s args "LoopRanker$Guard" 39 y_Guard_maximise b_Guard_maximise 5 none (Cond.code y_Guard_maximise b_Guard_maximise 5 none :: BW) rm_Guard_maximise 0 0 2) ∧ (Cond.instanceMethod y_Guard_maximise).before args s = true ∧ (Cond.selects "LoopRanker$Guard" y_Guard_maximise y_Guard_maximise).before args s = true :=
  ⟨callB_of 2 hT (BW_good kw_Guard_maximise) rfl rfl rfl (hT _ (List.mem_append_left _ (List.mem_of_getElem? (i := 3) rfl))) (hT _ (List.mem_append_right _ (List.mem_append_right _ (List.mem_append_right _ (List.mem_append_right _ (List.mem_append_right _ (List.mem_append_right _ (List.mem_append_right _ (List.mem_append_left _ (List.mem_of_getElem? (i := 8) rfl)))))))))) ⟨by decide, by decide, by decide +kernel⟩ hR, (hT _ (List.mem_append_right _ (List.mem_append_right _ (List.mem_append_right _ (List.mem_append_right _ (List.mem_append_right _ (List.mem_append_right _ (List.mem_append_right _ (List.mem_append_left _ (List.mem_of_getElem? (i := 9) rfl)))))))))), (hT _ (List.mem_append_right _ (List.mem_append_right _ (List.mem_append_right _ (List.mem_append_right _ (List.mem_append_right _ (List.mem_append_right _ (List.mem_append_right _ (List.mem_append_right _ (List.mem_append_right _ (List.mem_append_right _ (List.mem_append_right _ (List.mem_append_right _ (List.mem_append_right _ (List.mem_append_right _ (List.mem_append_right _ (List.mem_append_right _ (List.mem_append_right _ (List.mem_append_right _ (List.mem_append_right _ (List.mem_append_right _ (List.mem_append_right _ (List.mem_append_right _ (List.mem_append_right _ (List.mem_append_right _ (List.mem_append_left _ (List.mem_of_getElem? (i := 2) rfl)))))))))))))))))))))))))))⟩
theorem fg_Guard_36 (X : wk_X p s m args meth c cc "LoopRanker$Guard" nL BW D cls tys nz A) (hP : va_P D cls ws0 H) (q0 : Nat) {fs : List Value} {v : Value} (he : ws0[q0]? = some (ad, .inr (0, fs))) (hv : fs[6]? = some v) (hdg : decode cc pc = .ok (.getfield 36, 3)) (kk : W p l e R s m args below meth c H locs cells slots Q (F0 m (pc + 3) ls (v :: rest))) : W p l e R s m args below meth c H locs cells slots Q (F0 m pc ls (.ref ad :: rest)) :=
  va_get (D := D) (ci := 0) (C := R_Guard) (T := F_Guard) (N := 7) X.1.1 X.1.2.1 X.1.2.2.2.2 hin_Guard X.1.2.2.2.1 X.2.1 hP q0 he rfl 6 (by decide) (X.1.2.2.2.2 _ (List.mem_append_right _ (List.mem_append_left _ (List.mem_of_getElem? (i := 14) rfl)))) (fun _ h9 => h9) hv hdg kk
theorem fg_Guard_32 (X : wk_X p s m args meth c cc "LoopRanker$Guard" nL BW D cls tys nz A) (hP : va_P D cls ws0 H) (q0 : Nat) {fs : List Value} {v : Value} (he : ws0[q0]? = some (ad, .inr (0, fs))) (hv : fs[5]? = some v) (hdg : decode cc pc = .ok (.getfield 32, 3)) (kk : W p l e R s m args below meth c H locs cells slots Q (F0 m (pc + 3) ls (v :: rest))) : W p l e R s m args below meth c H locs cells slots Q (F0 m pc ls (.ref ad :: rest)) :=
  va_get (D := D) (ci := 0) (C := R_Guard) (T := F_Guard) (N := 7) X.1.1 X.1.2.1 X.1.2.2.2.2 hin_Guard X.1.2.2.2.1 X.2.1 hP q0 he rfl 5 (by decide) (X.1.2.2.2.2 _ (List.mem_append_right _ (List.mem_append_left _ (List.mem_of_getElem? (i := 13) rfl)))) (fun _ h9 => h9) hv hdg kk
theorem fg_Guard_9 (X : wk_X p s m args meth c cc "LoopRanker$Guard" nL BW D cls tys nz A) (hP : va_P D cls ws0 H) (q0 : Nat) {fs : List Value} {v : Value} (he : ws0[q0]? = some (ad, .inr (0, fs))) (hv : fs[0]? = some v) (hdg : decode cc pc = .ok (.getfield 9, 3)) (kk : W p l e R s m args below meth c H locs cells slots Q (F0 m (pc + 3) ls (v :: rest))) : W p l e R s m args below meth c H locs cells slots Q (F0 m pc ls (.ref ad :: rest)) :=
  va_get (D := D) (ci := 0) (C := R_Guard) (T := F_Guard) (N := 7) X.1.1 X.1.2.1 X.1.2.2.2.2 hin_Guard X.1.2.2.2.1 X.2.1 hP q0 he rfl 0 (by decide) (X.1.2.2.2.2 _ (List.mem_append_right _ (List.mem_append_left _ (List.mem_of_getElem? (i := 8) rfl)))) (fun _ h9 => h9) hv hdg kk
theorem fg_Guard_15 (X : wk_X p s m args meth c cc "LoopRanker$Guard" nL BW D cls tys nz A) (hP : va_P D cls ws0 H) (q0 : Nat) {fs : List Value} {v : Value} (he : ws0[q0]? = some (ad, .inr (0, fs))) (hv : fs[1]? = some v) (hdg : decode cc pc = .ok (.getfield 15, 3)) (kk : W p l e R s m args below meth c H locs cells slots Q (F0 m (pc + 3) ls (v :: rest))) : W p l e R s m args below meth c H locs cells slots Q (F0 m pc ls (.ref ad :: rest)) :=
  va_get (D := D) (ci := 0) (C := R_Guard) (T := F_Guard) (N := 7) X.1.1 X.1.2.1 X.1.2.2.2.2 hin_Guard X.1.2.2.2.1 X.2.1 hP q0 he rfl 1 (by decide) (X.1.2.2.2.2 _ (List.mem_append_right _ (List.mem_append_left _ (List.mem_of_getElem? (i := 9) rfl)))) (fun _ h9 => h9) hv hdg kk
theorem fg_Guard_18 (X : wk_X p s m args meth c cc "LoopRanker$Guard" nL BW D cls tys nz A) (hP : va_P D cls ws0 H) (q0 : Nat) {fs : List Value} {v : Value} (he : ws0[q0]? = some (ad, .inr (0, fs))) (hv : fs[2]? = some v) (hdg : decode cc pc = .ok (.getfield 18, 3)) (kk : W p l e R s m args below meth c H locs cells slots Q (F0 m (pc + 3) ls (v :: rest))) : W p l e R s m args below meth c H locs cells slots Q (F0 m pc ls (.ref ad :: rest)) :=
  va_get (D := D) (ci := 0) (C := R_Guard) (T := F_Guard) (N := 7) X.1.1 X.1.2.1 X.1.2.2.2.2 hin_Guard X.1.2.2.2.1 X.2.1 hP q0 he rfl 2 (by decide) (X.1.2.2.2.2 _ (List.mem_append_right _ (List.mem_append_left _ (List.mem_of_getElem? (i := 10) rfl)))) (fun _ h9 => h9) hv hdg kk
theorem cw_Guard_43 (hT : ∀ w ∈ BW, w.before args s = true) (hZ : wk_Z nz s) (hR : rm_Guard_boundByRow.frames + 1 ≤ R.frames ∧ 8 + (5 + 11) + rm_Guard_boundByRow.locals ≤ R.locals) : (CallB R s args "LoopRanker$Guard" 43 y_Guard_boundByRow b_Guard_boundByRow 5 none (Cond.code y_Guard_boundByRow b_Guard_boundByRow 5 none :: BW) rm_Guard_boundByRow 0 0 3) ∧ (Cond.instanceMethod y_Guard_boundByRow).before args s = true ∧ (Cond.selects "LoopRanker$Guard" y_Guard_boundByRow y_Guard_boundByRow).before args s = true :=
  ⟨callB_of 3 hT (BW_good kw_Guard_boundByRow) rfl rfl rfl (hT _ (List.mem_append_left _ (List.mem_of_getElem? (i := 3) rfl))) (hT _ (List.mem_append_right _ (List.mem_append_right _ (List.mem_append_right _ (List.mem_append_right _ (List.mem_append_right _ (List.mem_append_right _ (List.mem_append_right _ (List.mem_append_left _ (List.mem_of_getElem? (i := 11) rfl)))))))))) ⟨by decide, by decide, by decide +kernel⟩ hR, (hT _ (List.mem_append_right _ (List.mem_append_right _ (List.mem_append_right _ (List.mem_append_right _ (List.mem_append_right _ (List.mem_append_right _ (List.mem_append_right _ (List.mem_append_left _ (List.mem_of_getElem? (i := 12) rfl)))))))))), (hT _ (List.mem_append_right _ (List.mem_append_right _ (List.mem_append_right _ (List.mem_append_right _ (List.mem_append_right _ (List.mem_append_right _ (List.mem_append_right _ (List.mem_append_right _ (List.mem_append_right _ (List.mem_append_right _ (List.mem_append_right _ (List.mem_append_right _ (List.mem_append_right _ (List.mem_append_right _ (List.mem_append_right _ (List.mem_append_right _ (List.mem_append_right _ (List.mem_append_right _ (List.mem_append_right _ (List.mem_append_right _ (List.mem_append_right _ (List.mem_append_right _ (List.mem_append_right _ (List.mem_append_right _ (List.mem_append_left _ (List.mem_of_getElem? (i := 3) rfl)))))))))))))))))))))))))))⟩
theorem cw_Guard_47 (hT : ∀ w ∈ BW, w.before args s = true) (hZ : wk_Z nz s) (hR : rm_Guard_boundByPair.frames + 1 ≤ R.frames ∧ 8 + (13 + 11) + rm_Guard_boundByPair.locals ≤ R.locals) : (CallB R s args "LoopRanker$Guard" 47 y_Guard_boundByPair b_Guard_boundByPair 13 none (Cond.code y_Guard_boundByPair b_Guard_boundByPair 13 none :: BW) rm_Guard_boundByPair 0 0 4) ∧ (Cond.instanceMethod y_Guard_boundByPair).before args s = true ∧ (Cond.selects "LoopRanker$Guard" y_Guard_boundByPair y_Guard_boundByPair).before args s = true :=
  ⟨callB_of 4 hT (BW_good kw_Guard_boundByPair) rfl rfl rfl (hT _ (List.mem_append_left _ (List.mem_of_getElem? (i := 3) rfl))) (hT _ (List.mem_append_right _ (List.mem_append_right _ (List.mem_append_right _ (List.mem_append_right _ (List.mem_append_right _ (List.mem_append_right _ (List.mem_append_right _ (List.mem_append_right _ (List.mem_append_left _ (List.mem_of_getElem? (i := 1) rfl))))))))))) ⟨by decide, by decide, by decide +kernel⟩ hR, (hT _ (List.mem_append_right _ (List.mem_append_right _ (List.mem_append_right _ (List.mem_append_right _ (List.mem_append_right _ (List.mem_append_right _ (List.mem_append_right _ (List.mem_append_right _ (List.mem_append_left _ (List.mem_of_getElem? (i := 2) rfl))))))))))), (hT _ (List.mem_append_right _ (List.mem_append_right _ (List.mem_append_right _ (List.mem_append_right _ (List.mem_append_right _ (List.mem_append_right _ (List.mem_append_right _ (List.mem_append_right _ (List.mem_append_right _ (List.mem_append_right _ (List.mem_append_right _ (List.mem_append_right _ (List.mem_append_right _ (List.mem_append_right _ (List.mem_append_right _ (List.mem_append_right _ (List.mem_append_right _ (List.mem_append_right _ (List.mem_append_right _ (List.mem_append_right _ (List.mem_append_right _ (List.mem_append_right _ (List.mem_append_right _ (List.mem_append_right _ (List.mem_append_left _ (List.mem_of_getElem? (i := 5) rfl)))))))))))))))))))))))))))⟩
theorem cw_Guard_51 (hT : ∀ w ∈ BW, w.before args s = true) (hZ : wk_Z nz s) (hR : rm_Guard_cross.frames + 1 ≤ R.frames ∧ 8 + (8 + 11) + rm_Guard_cross.locals ≤ R.locals) : (CallB R s args "LoopRanker$Guard" 51 y_Guard_cross b_Guard_cross 8 (some .long) (Cond.code y_Guard_cross b_Guard_cross 8 (some .long) :: BW) rm_Guard_cross 0 0 4) ∧ (Cond.static y_Guard_cross).before args s = true :=
  ⟨callB_of 4 hT (BW_good kw_Guard_cross) rfl rfl rfl (hT _ (List.mem_append_left _ (List.mem_of_getElem? (i := 3) rfl))) (hT _ (List.mem_append_right _ (List.mem_append_right _ (List.mem_append_right _ (List.mem_append_right _ (List.mem_append_right _ (List.mem_append_right _ (List.mem_append_right _ (List.mem_append_left _ (List.mem_of_getElem? (i := 14) rfl)))))))))) ⟨by decide, by decide, by decide +kernel⟩ hR, (hT _ (List.mem_append_right _ (List.mem_append_right _ (List.mem_append_right _ (List.mem_append_right _ (List.mem_append_right _ (List.mem_append_right _ (List.mem_append_right _ (List.mem_append_left _ (List.mem_of_getElem? (i := 15) rfl))))))))))⟩
theorem wm_abs_Guard_55 {x : Int32} (X : wk_X p s m args meth c cc "LoopRanker$Guard" nL BW D cls tys nz A) (hz : ls.size = nL) (hfr : 1 ≤ R.frames) (hlo : (rest.map fun v => v.category).sum + 13 ≤ R.locals) (hcs : cells ≤ R.cells ∧ slots ≤ R.slots) (hdg : decode cc pc = .ok (.invokestatic 55, 3)) (kk : W p l e R s m args below meth c H locs cells slots Q (F0 m (pc + 3) ls (.int (g_abs x) :: rest))) : W p l e R s m args below meth c H locs cells slots Q (F0 m pc ls (.int x :: rest)) :=
  va_mabs X.1.1 X.1.2.1 (X.1.2.2.1.trans hz.symm) X.1.2.2.2.1 (X.1.2.2.2.2 _ (List.mem_append_right _ (List.mem_append_right _ (List.mem_append_right _ (List.mem_append_right _ (List.mem_append_right _ (List.mem_append_right _ (List.mem_append_right _ (List.mem_append_left _ (List.mem_of_getElem? (i := 17) rfl)))))))))) (X.1.2.2.2.2 _ (List.mem_append_right _ (List.mem_append_right _ (List.mem_append_right _ (List.mem_append_left _ (List.mem_of_getElem? (i := 13) rfl)))))) (X.1.2.2.2.2 _ (List.mem_append_left _ (List.mem_of_getElem? (i := 5) rfl))) (X.1.2.2.2.2 _ (List.mem_append_right _ (List.mem_append_right _ (List.mem_append_right _ (List.mem_append_left _ (List.mem_of_getElem? (i := 14) rfl)))))) hfr hlo hcs.1 hcs.2 hdg kk
theorem cw_Guard_61 (hT : ∀ w ∈ BW, w.before args s = true) (hZ : wk_Z nz s) (hR : rm_Guard_lowerTo.frames + 1 ≤ R.frames ∧ 8 + (5 + 11) + rm_Guard_lowerTo.locals ≤ R.locals) : (CallB R s args "LoopRanker$Guard" 61 y_Guard_lowerTo b_Guard_lowerTo 5 none (Cond.code y_Guard_lowerTo b_Guard_lowerTo 5 none :: BW) rm_Guard_lowerTo 0 0 2) ∧ (Cond.instanceMethod y_Guard_lowerTo).before args s = true ∧ (Cond.selects "LoopRanker$Guard" y_Guard_lowerTo y_Guard_lowerTo).before args s = true :=
  ⟨callB_of 2 hT (BW_good kw_Guard_lowerTo) rfl rfl rfl (hT _ (List.mem_append_left _ (List.mem_of_getElem? (i := 3) rfl))) (hT _ (List.mem_append_right _ (List.mem_append_right _ (List.mem_append_right _ (List.mem_append_right _ (List.mem_append_right _ (List.mem_append_right _ (List.mem_append_right _ (List.mem_append_left _ (List.mem_of_getElem? (i := 18) rfl)))))))))) ⟨by decide, by decide, by decide +kernel⟩ hR, (hT _ (List.mem_append_right _ (List.mem_append_right _ (List.mem_append_right _ (List.mem_append_right _ (List.mem_append_right _ (List.mem_append_right _ (List.mem_append_right _ (List.mem_append_left _ (List.mem_of_getElem? (i := 19) rfl)))))))))), (hT _ (List.mem_append_right _ (List.mem_append_right _ (List.mem_append_right _ (List.mem_append_right _ (List.mem_append_right _ (List.mem_append_right _ (List.mem_append_right _ (List.mem_append_right _ (List.mem_append_right _ (List.mem_append_right _ (List.mem_append_right _ (List.mem_append_right _ (List.mem_append_right _ (List.mem_append_right _ (List.mem_append_right _ (List.mem_append_right _ (List.mem_append_right _ (List.mem_append_right _ (List.mem_append_right _ (List.mem_append_right _ (List.mem_append_right _ (List.mem_append_right _ (List.mem_append_right _ (List.mem_append_right _ (List.mem_append_left _ (List.mem_of_getElem? (i := 4) rfl)))))))))))))))))))))))))))⟩
theorem kc_Guard_65 : Jvm.Cond.constantLong "LoopRanker$Guard" 65 (-1) ∈ BW := (List.mem_append_right _ (List.mem_append_right _ (List.mem_append_right _ (List.mem_append_right _ (List.mem_append_right _ (List.mem_append_right _ (List.mem_append_right _ (List.mem_append_right _ (List.mem_append_left _ (List.mem_of_getElem? (i := 4) rfl))))))))))
theorem kc_Guard_67 : Jvm.Cond.constantLong "LoopRanker$Guard" 67 (4611686018427387904) ∈ BW := (List.mem_append_right _ (List.mem_append_right _ (List.mem_append_right _ (List.mem_append_right _ (List.mem_append_right _ (List.mem_append_right _ (List.mem_append_right _ (List.mem_append_right _ (List.mem_append_right _ (List.mem_append_left _ (List.mem_of_getElem? (i := 11) rfl)))))))))))
theorem cw_Guard_69 (hT : ∀ w ∈ BW, w.before args s = true) (hZ : wk_Z nz s) (hR : rm_Math_floorDiv.frames + 1 ≤ R.frames ∧ 8 + (6 + 11) + rm_Math_floorDiv.locals ≤ R.locals) : (CallB R s args "LoopRanker$Guard" 69 y_Math_floorDiv b_Math_floorDiv 6 (some .long) (Cond.code y_Math_floorDiv b_Math_floorDiv 6 (some .long) :: BW) rm_Math_floorDiv 0 0 2) ∧ (Cond.static y_Math_floorDiv).before args s = true :=
  ⟨callB_of 2 hT (BW_good kw_Math_floorDiv) rfl rfl rfl (hT _ (List.mem_append_left _ (List.mem_of_getElem? (i := 5) rfl))) (hT _ (List.mem_append_right _ (List.mem_append_right _ (List.mem_append_right _ (List.mem_append_right _ (List.mem_append_right _ (List.mem_append_right _ (List.mem_append_right _ (List.mem_append_right _ (List.mem_append_right _ (List.mem_append_left _ (List.mem_of_getElem? (i := 12) rfl)))))))))))) ⟨by decide, by decide, by decide +kernel⟩ hR, (hT _ (List.mem_append_right _ (List.mem_append_right _ (List.mem_append_right _ (List.mem_append_right _ (List.mem_append_right _ (List.mem_append_right _ (List.mem_append_right _ (List.mem_append_right _ (List.mem_append_right _ (List.mem_append_left _ (List.mem_of_getElem? (i := 13) rfl))))))))))))⟩
theorem fp_Step_12 (X : wk_X p s m args meth c cc "LoopRanker$Step" nL BW D cls tys nz A) (hin : meth.name = "<init>") (hP : va_P D cls ws0 H) (hD : va_D A ws0) (hS : va_S A s.heap H locs) (q0 : Nat) {fs : List Value} {v : Value} (he : ws0[q0]? = some (ad, .inr (1, fs))) (hn : narrow (.object "LoopRanker$Guard") v = v) (hf : fits (.object "LoopRanker$Guard") v = true) (hl : Nat.ble (0 + 1) fs.length = true) (hdg : decode cc pc = .ok (.putfield 12, 3)) (kk : ∀ (H1 : Heap) (locs1 : List Loc), va_P D cls (ws0.set q0 (ad, .inr (1, fs.set 0 v))) H1 → va_D A (ws0.set q0 (ad, .inr (1, fs.set 0 v))) → va_S A s.heap H1 locs1 → W p l e R s m args below meth c H1 locs1 cells slots Q (F0 m (pc + 3) ls rest)) : W p l e R s m args below meth c H locs cells slots Q (F0 m pc ls (v :: .ref ad :: rest)) :=
  va_putF (D := D) (ci := 1) (v := v) (ty := .object "LoopRanker$Guard") (C := R_Step) (T := F_Step) (N := 4) X.1.1 X.1.2.1 X.1.2.2.2.2 hin_Step t_Step t_Step_ok n_Step X.1.2.2.2.1 X.2.1 hP hD hS q0 he rfl 0 (by decide) (X.1.2.2.2.2 _ (List.mem_append_right _ (List.mem_append_right _ (List.mem_append_left _ (List.mem_of_getElem? (i := 11) rfl))))) (fun _ h9 => h9) rfl hin rfl (by decide +kernel) hn hf (Nat.le_of_ble_eq_true hl) hdg kk
theorem fp_Step_18 (X : wk_X p s m args meth c cc "LoopRanker$Step" nL BW D cls tys nz A) (hin : meth.name = "<init>") (hP : va_P D cls ws0 H) (hD : va_D A ws0) (hS : va_S A s.heap H locs) (q0 : Nat) {fs : List Value} {v : Value} (he : ws0[q0]? = some (ad, .inr (1, fs))) (hn : narrow (.array .int) v = v) (hf : fits (.array .int) v = true) (hl : Nat.ble (1 + 1) fs.length = true) (hdg : decode cc pc = .ok (.putfield 18, 3)) (kk : ∀ (H1 : Heap) (locs1 : List Loc), va_P D cls (ws0.set q0 (ad, .inr (1, fs.set 1 v))) H1 → va_D A (ws0.set q0 (ad, .inr (1, fs.set 1 v))) → va_S A s.heap H1 locs1 → W p l e R s m args below meth c H1 locs1 cells slots Q (F0 m (pc + 3) ls rest)) : W p l e R s m args below meth c H locs cells slots Q (F0 m pc ls (v :: .ref ad :: rest)) :=
  va_putF (D := D) (ci := 1) (v := v) (ty := .array .int) (C := R_Step) (T := F_Step) (N := 4) X.1.1 X.1.2.1 X.1.2.2.2.2 hin_Step t_Step t_Step_ok n_Step X.1.2.2.2.1 X.2.1 hP hD hS q0 he rfl 1 (by decide) (X.1.2.2.2.2 _ (List.mem_append_right _ (List.mem_append_right _ (List.mem_append_left _ (List.mem_of_getElem? (i := 12) rfl))))) (fun _ h9 => h9) rfl hin rfl (by decide +kernel) hn hf (Nat.le_of_ble_eq_true hl) hdg kk
theorem fp_Step_22 (X : wk_X p s m args meth c cc "LoopRanker$Step" nL BW D cls tys nz A) (hin : meth.name = "<init>") (hP : va_P D cls ws0 H) (hD : va_D A ws0) (hS : va_S A s.heap H locs) (q0 : Nat) {fs : List Value} {v : Value} (he : ws0[q0]? = some (ad, .inr (1, fs))) (hn : narrow (.array .int) v = v) (hf : fits (.array .int) v = true) (hl : Nat.ble (2 + 1) fs.length = true) (hdg : decode cc pc = .ok (.putfield 22, 3)) (kk : ∀ (H1 : Heap) (locs1 : List Loc), va_P D cls (ws0.set q0 (ad, .inr (1, fs.set 2 v))) H1 → va_D A (ws0.set q0 (ad, .inr (1, fs.set 2 v))) → va_S A s.heap H1 locs1 → W p l e R s m args below meth c H1 locs1 cells slots Q (F0 m (pc + 3) ls rest)) : W p l e R s m args below meth c H locs cells slots Q (F0 m pc ls (v :: .ref ad :: rest)) :=
  va_putF (D := D) (ci := 1) (v := v) (ty := .array .int) (C := R_Step) (T := F_Step) (N := 4) X.1.1 X.1.2.1 X.1.2.2.2.2 hin_Step t_Step t_Step_ok n_Step X.1.2.2.2.1 X.2.1 hP hD hS q0 he rfl 2 (by decide) (X.1.2.2.2.2 _ (List.mem_append_right _ (List.mem_append_right _ (List.mem_append_left _ (List.mem_of_getElem? (i := 13) rfl))))) (fun _ h9 => h9) rfl hin rfl (by decide +kernel) hn hf (Nat.le_of_ble_eq_true hl) hdg kk
theorem fp_Step_25 (X : wk_X p s m args meth c cc "LoopRanker$Step" nL BW D cls tys nz A) (hP : va_P D cls ws0 H) (hD : va_D A ws0) (hS : va_S A s.heap H locs) (q0 : Nat) {fs : List Value} {v : Value} (he : ws0[q0]? = some (ad, .inr (1, fs))) (hn : narrow (.boolean) v = v) (hf : fits (.boolean) v = true) (hl : Nat.ble (3 + 1) fs.length = true) (hdg : decode cc pc = .ok (.putfield 25, 3)) (kk : ∀ (H1 : Heap) (locs1 : List Loc), va_P D cls (ws0.set q0 (ad, .inr (1, fs.set 3 v))) H1 → va_D A (ws0.set q0 (ad, .inr (1, fs.set 3 v))) → va_S A s.heap H1 locs1 → W p l e R s m args below meth c H1 locs1 cells slots Q (F0 m (pc + 3) ls rest)) : W p l e R s m args below meth c H locs cells slots Q (F0 m pc ls (v :: .ref ad :: rest)) :=
  va_put (D := D) (ci := 1) (v := v) (ty := .boolean) (C := R_Step) (T := F_Step) (N := 4) X.1.1 X.1.2.1 X.1.2.2.2.2 hin_Step t_Step t_Step_ok n_Step X.1.2.2.2.1 X.2.1 hP hD hS q0 he rfl 3 (by decide) (X.1.2.2.2.2 _ (List.mem_append_right _ (List.mem_append_right _ (List.mem_append_left _ (List.mem_of_getElem? (i := 14) rfl))))) (fun _ h9 => h9) rfl (by decide +kernel) hn hf (Nat.le_of_ble_eq_true hl) hdg kk
theorem fg_Step_12 (X : wk_X p s m args meth c cc "LoopRanker$Step" nL BW D cls tys nz A) (hP : va_P D cls ws0 H) (q0 : Nat) {fs : List Value} {v : Value} (he : ws0[q0]? = some (ad, .inr (1, fs))) (hv : fs[0]? = some v) (hdg : decode cc pc = .ok (.getfield 12, 3)) (kk : W p l e R s m args below meth c H locs cells slots Q (F0 m (pc + 3) ls (v :: rest))) : W p l e R s m args below meth c H locs cells slots Q (F0 m pc ls (.ref ad :: rest)) :=
  va_get (D := D) (ci := 1) (C := R_Step) (T := F_Step) (N := 4) X.1.1 X.1.2.1 X.1.2.2.2.2 hin_Step X.1.2.2.2.1 X.2.1 hP q0 he rfl 0 (by decide) (X.1.2.2.2.2 _ (List.mem_append_right _ (List.mem_append_right _ (List.mem_append_left _ (List.mem_of_getElem? (i := 11) rfl))))) (fun _ h9 => h9) hv hdg kk
theorem cw_Step_29 (hT : ∀ w ∈ BW, w.before args s = true) (hZ : wk_Z nz s) (hR : rm_Guard_clear.frames + 1 ≤ R.frames ∧ 8 + (1 + 11) + rm_Guard_clear.locals ≤ R.locals) : (va_CN R s args "LoopRanker$Step" 29 y_Guard_clear "LoopRanker" b_Guard_clear 1 none (Cond.code y_Guard_clear b_Guard_clear 1 none :: BW) rm_Guard_clear 0 0 0) ∧ (Cond.instanceMethod y_Guard_clear).before args s = true ∧ (Cond.selects "LoopRanker$Guard" y_Guard_clear y_Guard_clear).before args s = true :=
  ⟨va_cnB 0 hT (BW_good kw_Guard_clear) rfl rfl rfl (hZ _ (List.mem_of_getElem? (i := 18) rfl)) (hT _ (List.mem_append_left _ (List.mem_of_getElem? (i := 3) rfl))) ⟨by decide, by decide, by decide +kernel⟩ hR, (hT _ (List.mem_append_right _ (List.mem_append_left _ (List.mem_of_getElem? (i := 6) rfl)))), (hT _ (List.mem_append_right _ (List.mem_append_right _ (List.mem_append_right _ (List.mem_append_right _ (List.mem_append_right _ (List.mem_append_right _ (List.mem_append_right _ (List.mem_append_right _ (List.mem_append_right _ (List.mem_append_right _ (List.mem_append_right _ (List.mem_append_right _ (List.mem_append_right _ (List.mem_append_right _ (List.mem_append_right _ (List.mem_append_right _ (List.mem_append_right _ (List.mem_append_right _ (List.mem_append_right _ (List.mem_append_right _ (List.mem_append_right _ (List.mem_append_right _ (List.mem_append_right _ (List.mem_append_left _ (List.mem_of_getElem? (i := 15) rfl))))))))))))))))))))))))))⟩
theorem cw_Step_32 (hT : ∀ w ∈ BW, w.before args s = true) (hZ : wk_Z nz s) (hR : rm_Step_setRule.frames + 1 ≤ R.frames ∧ 8 + (6 + 11) + rm_Step_setRule.locals ≤ R.locals) : (CallB R s args "LoopRanker$Step" 32 y_Step_setRule b_Step_setRule 6 none (Cond.code y_Step_setRule b_Step_setRule 6 none :: BW) rm_Step_setRule 0 0 4) ∧ (Cond.instanceMethod y_Step_setRule).before args s = true ∧ (Cond.selects "LoopRanker$Step" y_Step_setRule y_Step_setRule).before args s = true :=
  ⟨callB_of 4 hT (BW_good kw_Step_setRule) rfl rfl rfl (hT _ (List.mem_append_left _ (List.mem_of_getElem? (i := 2) rfl))) (hT _ (List.mem_append_right _ (List.mem_append_right _ (List.mem_append_right _ (List.mem_append_right _ (List.mem_append_right _ (List.mem_append_right _ (List.mem_append_left _ (List.mem_of_getElem? (i := 9) rfl))))))))) ⟨by decide, by decide, by decide +kernel⟩ hR, (hT _ (List.mem_append_right _ (List.mem_append_right _ (List.mem_append_right _ (List.mem_append_right _ (List.mem_append_right _ (List.mem_append_right _ (List.mem_append_left _ (List.mem_of_getElem? (i := 10) rfl))))))))), (hT _ (List.mem_append_right _ (List.mem_append_right _ (List.mem_append_right _ (List.mem_append_right _ (List.mem_append_right _ (List.mem_append_right _ (List.mem_append_right _ (List.mem_append_right _ (List.mem_append_right _ (List.mem_append_right _ (List.mem_append_right _ (List.mem_append_right _ (List.mem_append_right _ (List.mem_append_right _ (List.mem_append_right _ (List.mem_append_right _ (List.mem_append_right _ (List.mem_append_right _ (List.mem_append_right _ (List.mem_append_right _ (List.mem_append_right _ (List.mem_append_right _ (List.mem_append_right _ (List.mem_append_left _ (List.mem_of_getElem? (i := 18) rfl))))))))))))))))))))))))))⟩
theorem cw_Step_36 (hT : ∀ w ∈ BW, w.before args s = true) (hZ : wk_Z nz s) (hR : rm_Guard_add.frames + 1 ≤ R.frames ∧ 8 + (4 + 11) + rm_Guard_add.locals ≤ R.locals) : (va_CN R s args "LoopRanker$Step" 36 y_Guard_add "LoopRanker" b_Guard_add 4 none (Cond.code y_Guard_add b_Guard_add 4 none :: BW) rm_Guard_add 0 0 3) ∧ (Cond.instanceMethod y_Guard_add).before args s = true ∧ (Cond.selects "LoopRanker$Guard" y_Guard_add y_Guard_add).before args s = true :=
  ⟨va_cnB 3 hT (BW_good kw_Guard_add) rfl rfl rfl (hZ _ (List.mem_of_getElem? (i := 20) rfl)) (hT _ (List.mem_append_left _ (List.mem_of_getElem? (i := 3) rfl))) ⟨by decide, by decide, by decide +kernel⟩ hR, (hT _ (List.mem_append_right _ (List.mem_append_right _ (List.mem_append_right _ (List.mem_append_right _ (List.mem_append_right _ (List.mem_append_right _ (List.mem_append_right _ (List.mem_append_left _ (List.mem_of_getElem? (i := 6) rfl)))))))))), (hT _ (List.mem_append_right _ (List.mem_append_right _ (List.mem_append_right _ (List.mem_append_right _ (List.mem_append_right _ (List.mem_append_right _ (List.mem_append_right _ (List.mem_append_right _ (List.mem_append_right _ (List.mem_append_right _ (List.mem_append_right _ (List.mem_append_right _ (List.mem_append_right _ (List.mem_append_right _ (List.mem_append_right _ (List.mem_append_right _ (List.mem_append_right _ (List.mem_append_right _ (List.mem_append_right _ (List.mem_append_right _ (List.mem_append_right _ (List.mem_append_right _ (List.mem_append_right _ (List.mem_append_right _ (List.mem_append_left _ (List.mem_of_getElem? (i := 1) rfl)))))))))))))))))))))))))))⟩
theorem fg_Step_18 (X : wk_X p s m args meth c cc "LoopRanker$Step" nL BW D cls tys nz A) (hP : va_P D cls ws0 H) (q0 : Nat) {fs : List Value} {v : Value} (he : ws0[q0]? = some (ad, .inr (1, fs))) (hv : fs[1]? = some v) (hdg : decode cc pc = .ok (.getfield 18, 3)) (kk : W p l e R s m args below meth c H locs cells slots Q (F0 m (pc + 3) ls (v :: rest))) : W p l e R s m args below meth c H locs cells slots Q (F0 m pc ls (.ref ad :: rest)) :=
  va_get (D := D) (ci := 1) (C := R_Step) (T := F_Step) (N := 4) X.1.1 X.1.2.1 X.1.2.2.2.2 hin_Step X.1.2.2.2.1 X.2.1 hP q0 he rfl 1 (by decide) (X.1.2.2.2.2 _ (List.mem_append_right _ (List.mem_append_right _ (List.mem_append_left _ (List.mem_of_getElem? (i := 12) rfl))))) (fun _ h9 => h9) hv hdg kk
theorem fg_Step_40 (X : wk_X p s m args meth c cc "LoopRanker$Step" nL BW D cls tys nz A) (hP : va_P D cls ws0 H) (q0 : Nat) {fs : List Value} {v : Value} (he : ws0[q0]? = some (ad, .inr (0, fs))) (hv : fs[4]? = some v) (hdg : decode cc pc = .ok (.getfield 40, 3)) (kk : W p l e R s m args below meth c H locs cells slots Q (F0 m (pc + 3) ls (v :: rest))) : W p l e R s m args below meth c H locs cells slots Q (F0 m pc ls (.ref ad :: rest)) :=
  va_getN (D := D) (ci := 0) (C := R_Guard) (T := F_Guard) (N := 7) X.1.1 X.1.2.1 X.1.2.2.2.2 hin_Guard X.1.2.2.2.1 X.2.1 hP q0 he rfl 4 (by decide) (va_Nw.use rfl (X.2.2.1 _ (List.mem_of_getElem? (i := 3) rfl))) (fun _ h9 => h9) hv hdg kk
theorem cw_Step_43 (hT : ∀ w ∈ BW, w.before args s = true) (hZ : wk_Z nz s) (hR : rm_Guard_maximise.frames + 1 ≤ R.frames ∧ 8 + (5 + 11) + rm_Guard_maximise.locals ≤ R.locals) : (va_CN R s args "LoopRanker$Step" 43 y_Guard_maximise "LoopRanker" b_Guard_maximise 5 none (Cond.code y_Guard_maximise b_Guard_maximise 5 none :: BW) rm_Guard_maximise 0 0 2) ∧ (Cond.instanceMethod y_Guard_maximise).before args s = true ∧ (Cond.selects "LoopRanker$Guard" y_Guard_maximise y_Guard_maximise).before args s = true :=
  ⟨va_cnB 2 hT (BW_good kw_Guard_maximise) rfl rfl rfl (hZ _ (List.mem_of_getElem? (i := 25) rfl)) (hT _ (List.mem_append_left _ (List.mem_of_getElem? (i := 3) rfl))) ⟨by decide, by decide, by decide +kernel⟩ hR, (hT _ (List.mem_append_right _ (List.mem_append_right _ (List.mem_append_right _ (List.mem_append_right _ (List.mem_append_right _ (List.mem_append_right _ (List.mem_append_right _ (List.mem_append_left _ (List.mem_of_getElem? (i := 9) rfl)))))))))), (hT _ (List.mem_append_right _ (List.mem_append_right _ (List.mem_append_right _ (List.mem_append_right _ (List.mem_append_right _ (List.mem_append_right _ (List.mem_append_right _ (List.mem_append_right _ (List.mem_append_right _ (List.mem_append_right _ (List.mem_append_right _ (List.mem_append_right _ (List.mem_append_right _ (List.mem_append_right _ (List.mem_append_right _ (List.mem_append_right _ (List.mem_append_right _ (List.mem_append_right _ (List.mem_append_right _ (List.mem_append_right _ (List.mem_append_right _ (List.mem_append_right _ (List.mem_append_right _ (List.mem_append_right _ (List.mem_append_left _ (List.mem_of_getElem? (i := 2) rfl)))))))))))))))))))))))))))⟩
theorem cw_Step_47 (hT : ∀ w ∈ BW, w.before args s = true) (hZ : wk_Z nz s) (hR : rm_Guard_maximumIsAtMost.frames + 1 ≤ R.frames ∧ 8 + (3 + 11) + rm_Guard_maximumIsAtMost.locals ≤ R.locals) : (va_CN R s args "LoopRanker$Step" 47 y_Guard_maximumIsAtMost "LoopRanker" b_Guard_maximumIsAtMost 3 (some .boolean) (Cond.code y_Guard_maximumIsAtMost b_Guard_maximumIsAtMost 3 (some .boolean) :: BW) rm_Guard_maximumIsAtMost 0 0 1) ∧ (Cond.instanceMethod y_Guard_maximumIsAtMost).before args s = true ∧ (Cond.selects "LoopRanker$Guard" y_Guard_maximumIsAtMost y_Guard_maximumIsAtMost).before args s = true :=
  ⟨va_cnB 1 hT (BW_good kw_Guard_maximumIsAtMost) rfl rfl rfl (hZ _ (List.mem_of_getElem? (i := 26) rfl)) (hT _ (List.mem_append_left _ (List.mem_of_getElem? (i := 3) rfl))) ⟨by decide, by decide, by decide +kernel⟩ hR, (hT _ (List.mem_append_right _ (List.mem_append_right _ (List.mem_append_right _ (List.mem_append_right _ (List.mem_append_right _ (List.mem_append_right _ (List.mem_append_right _ (List.mem_append_right _ (List.mem_append_right _ (List.mem_append_right _ (List.mem_append_left _ (List.mem_of_getElem? (i := 2) rfl))))))))))))), (hT _ (List.mem_append_right _ (List.mem_append_right _ (List.mem_append_right _ (List.mem_append_right _ (List.mem_append_right _ (List.mem_append_right _ (List.mem_append_right _ (List.mem_append_right _ (List.mem_append_right _ (List.mem_append_right _ (List.mem_append_right _ (List.mem_append_right _ (List.mem_append_right _ (List.mem_append_right _ (List.mem_append_right _ (List.mem_append_right _ (List.mem_append_right _ (List.mem_append_right _ (List.mem_append_right _ (List.mem_append_right _ (List.mem_append_right _ (List.mem_append_right _ (List.mem_append_right _ (List.mem_append_right _ (List.mem_append_left _ (List.mem_of_getElem? (i := 8) rfl)))))))))))))))))))))))))))⟩
theorem cw_Step_51 (hT : ∀ w ∈ BW, w.before args s = true) (hZ : wk_Z nz s) (hR : rm_Guard_hasMaximum.frames + 1 ≤ R.frames ∧ 8 + (1 + 11) + rm_Guard_hasMaximum.locals ≤ R.locals) : (va_CN R s args "LoopRanker$Step" 51 y_Guard_hasMaximum "LoopRanker" b_Guard_hasMaximum 1 (some .boolean) (Cond.code y_Guard_hasMaximum b_Guard_hasMaximum 1 (some .boolean) :: BW) rm_Guard_hasMaximum 0 0 0) ∧ (Cond.instanceMethod y_Guard_hasMaximum).before args s = true ∧ (Cond.selects "LoopRanker$Guard" y_Guard_hasMaximum y_Guard_hasMaximum).before args s = true :=
  ⟨va_cnB 0 hT (BW_good kw_Guard_hasMaximum) rfl rfl rfl (hZ _ (List.mem_of_getElem? (i := 28) rfl)) (hT _ (List.mem_append_left _ (List.mem_of_getElem? (i := 3) rfl))) ⟨by decide, by decide, by decide +kernel⟩ hR, (hT _ (List.mem_append_right _ (List.mem_append_right _ (List.mem_append_right _ (List.mem_append_right _ (List.mem_append_right _ (List.mem_append_right _ (List.mem_append_right _ (List.mem_append_right _ (List.mem_append_right _ (List.mem_append_right _ (List.mem_append_left _ (List.mem_of_getElem? (i := 6) rfl))))))))))))), (hT _ (List.mem_append_right _ (List.mem_append_right _ (List.mem_append_right _ (List.mem_append_right _ (List.mem_append_right _ (List.mem_append_right _ (List.mem_append_right _ (List.mem_append_right _ (List.mem_append_right _ (List.mem_append_right _ (List.mem_append_right _ (List.mem_append_right _ (List.mem_append_right _ (List.mem_append_right _ (List.mem_append_right _ (List.mem_append_right _ (List.mem_append_right _ (List.mem_append_right _ (List.mem_append_right _ (List.mem_append_right _ (List.mem_append_right _ (List.mem_append_right _ (List.mem_append_right _ (List.mem_append_right _ (List.mem_append_left _ (List.mem_of_getElem? (i := 10) rfl)))))))))))))))))))))))))))⟩
theorem fg_Step_25 (X : wk_X p s m args meth c cc "LoopRanker$Step" nL BW D cls tys nz A) (hP : va_P D cls ws0 H) (q0 : Nat) {fs : List Value} {v : Value} (he : ws0[q0]? = some (ad, .inr (1, fs))) (hv : fs[3]? = some v) (hdg : decode cc pc = .ok (.getfield 25, 3)) (kk : W p l e R s m args below meth c H locs cells slots Q (F0 m (pc + 3) ls (v :: rest))) : W p l e R s m args below meth c H locs cells slots Q (F0 m pc ls (.ref ad :: rest)) :=
  va_get (D := D) (ci := 1) (C := R_Step) (T := F_Step) (N := 4) X.1.1 X.1.2.1 X.1.2.2.2.2 hin_Step X.1.2.2.2.1 X.2.1 hP q0 he rfl 3 (by decide) (X.1.2.2.2.2 _ (List.mem_append_right _ (List.mem_append_right _ (List.mem_append_left _ (List.mem_of_getElem? (i := 14) rfl))))) (fun _ h9 => h9) hv hdg kk
theorem cw_Step_55 (hT : ∀ w ∈ BW, w.before args s = true) (hZ : wk_Z nz s) (hR : rm_Step_changesByAtMost.frames + 1 ≤ R.frames ∧ 8 + (4 + 11) + rm_Step_changesByAtMost.locals ≤ R.locals) : (CallB R s args "LoopRanker$Step" 55 y_Step_changesByAtMost b_Step_changesByAtMost 4 (some .boolean) (Cond.code y_Step_changesByAtMost b_Step_changesByAtMost 4 (some .boolean) :: BW) rm_Step_changesByAtMost 0 0 3) ∧ (Cond.instanceMethod y_Step_changesByAtMost).before args s = true ∧ (Cond.selects "LoopRanker$Step" y_Step_changesByAtMost y_Step_changesByAtMost).before args s = true :=
  ⟨callB_of 3 hT (BW_good kw_Step_changesByAtMost) rfl rfl rfl (hT _ (List.mem_append_left _ (List.mem_of_getElem? (i := 2) rfl))) (hT _ (List.mem_append_right _ (List.mem_append_right _ (List.mem_append_right _ (List.mem_append_right _ (List.mem_append_right _ (List.mem_append_right _ (List.mem_append_right _ (List.mem_append_right _ (List.mem_append_right _ (List.mem_append_right _ (List.mem_append_left _ (List.mem_of_getElem? (i := 16) rfl))))))))))))) ⟨by decide, by decide, by decide +kernel⟩ hR, (hT _ (List.mem_append_right _ (List.mem_append_right _ (List.mem_append_right _ (List.mem_append_right _ (List.mem_append_right _ (List.mem_append_right _ (List.mem_append_right _ (List.mem_append_right _ (List.mem_append_right _ (List.mem_append_right _ (List.mem_append_left _ (List.mem_of_getElem? (i := 0) rfl))))))))))))), (hT _ (List.mem_append_right _ (List.mem_append_right _ (List.mem_append_right _ (List.mem_append_right _ (List.mem_append_right _ (List.mem_append_right _ (List.mem_append_right _ (List.mem_append_right _ (List.mem_append_right _ (List.mem_append_right _ (List.mem_append_right _ (List.mem_append_right _ (List.mem_append_right _ (List.mem_append_right _ (List.mem_append_right _ (List.mem_append_right _ (List.mem_append_right _ (List.mem_append_right _ (List.mem_append_right _ (List.mem_append_right _ (List.mem_append_right _ (List.mem_append_right _ (List.mem_append_right _ (List.mem_append_right _ (List.mem_append_left _ (List.mem_of_getElem? (i := 7) rfl)))))))))))))))))))))))))))⟩
theorem fg_Step_22 (X : wk_X p s m args meth c cc "LoopRanker$Step" nL BW D cls tys nz A) (hP : va_P D cls ws0 H) (q0 : Nat) {fs : List Value} {v : Value} (he : ws0[q0]? = some (ad, .inr (1, fs))) (hv : fs[2]? = some v) (hdg : decode cc pc = .ok (.getfield 22, 3)) (kk : W p l e R s m args below meth c H locs cells slots Q (F0 m (pc + 3) ls (v :: rest))) : W p l e R s m args below meth c H locs cells slots Q (F0 m pc ls (.ref ad :: rest)) :=
  va_get (D := D) (ci := 1) (C := R_Step) (T := F_Step) (N := 4) X.1.1 X.1.2.1 X.1.2.2.2.2 hin_Step X.1.2.2.2.1 X.2.1 hP q0 he rfl 2 (by decide) (X.1.2.2.2.2 _ (List.mem_append_right _ (List.mem_append_right _ (List.mem_append_left _ (List.mem_of_getElem? (i := 13) rfl))))) (fun _ h9 => h9) hv hdg kk
theorem cw_Step_59 (hT : ∀ w ∈ BW, w.before args s = true) (hZ : wk_Z nz s) (hR : rm_Step_isBounded.frames + 1 ≤ R.frames ∧ 8 + (3 + 11) + rm_Step_isBounded.locals ≤ R.locals) : (CallB R s args "LoopRanker$Step" 59 y_Step_isBounded b_Step_isBounded 3 (some .boolean) (Cond.code y_Step_isBounded b_Step_isBounded 3 (some .boolean) :: BW) rm_Step_isBounded 0 0 2) ∧ (Cond.instanceMethod y_Step_isBounded).before args s = true ∧ (Cond.selects "LoopRanker$Step" y_Step_isBounded y_Step_isBounded).before args s = true :=
  ⟨callB_of 2 hT (BW_good kw_Step_isBounded) rfl rfl rfl (hT _ (List.mem_append_left _ (List.mem_of_getElem? (i := 2) rfl))) (hT _ (List.mem_append_right _ (List.mem_append_right _ (List.mem_append_right _ (List.mem_append_right _ (List.mem_append_right _ (List.mem_append_right _ (List.mem_append_right _ (List.mem_append_right _ (List.mem_append_right _ (List.mem_append_right _ (List.mem_append_left _ (List.mem_of_getElem? (i := 17) rfl))))))))))))) ⟨by decide, by decide, by decide +kernel⟩ hR, (hT _ (List.mem_append_right _ (List.mem_append_right _ (List.mem_append_right _ (List.mem_append_right _ (List.mem_append_right _ (List.mem_append_right _ (List.mem_append_right _ (List.mem_append_right _ (List.mem_append_right _ (List.mem_append_right _ (List.mem_append_left _ (List.mem_of_getElem? (i := 4) rfl))))))))))))), (hT _ (List.mem_append_right _ (List.mem_append_right _ (List.mem_append_right _ (List.mem_append_right _ (List.mem_append_right _ (List.mem_append_right _ (List.mem_append_right _ (List.mem_append_right _ (List.mem_append_right _ (List.mem_append_right _ (List.mem_append_right _ (List.mem_append_right _ (List.mem_append_right _ (List.mem_append_right _ (List.mem_append_right _ (List.mem_append_right _ (List.mem_append_right _ (List.mem_append_right _ (List.mem_append_right _ (List.mem_append_right _ (List.mem_append_right _ (List.mem_append_right _ (List.mem_append_right _ (List.mem_append_right _ (List.mem_append_left _ (List.mem_of_getElem? (i := 9) rfl)))))))))))))))))))))))))))⟩
theorem fp_Proof_9 (X : wk_X p s m args meth c cc "LoopRanker$Proof" nL BW D cls tys nz A) (hin : meth.name = "<init>") (hP : va_P D cls ws0 H) (hD : va_D A ws0) (hS : va_S A s.heap H locs) (q0 : Nat) {fs : List Value} {v : Value} (he : ws0[q0]? = some (ad, .inr (2, fs))) (hn : narrow (.array .int) v = v) (hf : fits (.array .int) v = true) (hl : Nat.ble (0 + 1) fs.length = true) (hdg : decode cc pc = .ok (.putfield 9, 3)) (kk : ∀ (H1 : Heap) (locs1 : List Loc), va_P D cls (ws0.set q0 (ad, .inr (2, fs.set 0 v))) H1 → va_D A (ws0.set q0 (ad, .inr (2, fs.set 0 v))) → va_S A s.heap H1 locs1 → W p l e R s m args below meth c H1 locs1 cells slots Q (F0 m (pc + 3) ls rest)) : W p l e R s m args below meth c H locs cells slots Q (F0 m pc ls (v :: .ref ad :: rest)) :=
  va_putF (D := D) (ci := 2) (v := v) (ty := .array .int) (C := R_Proof) (T := F_Proof) (N := 9) X.1.1 X.1.2.1 X.1.2.2.2.2 hin_Proof t_Proof t_Proof_ok n_Proof X.1.2.2.2.1 X.2.1 hP hD hS q0 he rfl 0 (by decide) (X.1.2.2.2.2 _ (List.mem_append_right _ (List.mem_append_right _ (List.mem_append_right _ (List.mem_append_left _ (List.mem_of_getElem? (i := 15) rfl)))))) (fun _ h9 => h9) rfl hin rfl (by decide +kernel) hn hf (Nat.le_of_ble_eq_true hl) hdg kk
theorem fp_Proof_15 (X : wk_X p s m args meth c cc "LoopRanker$Proof" nL BW D cls tys nz A) (hin : meth.name = "<init>") (hP : va_P D cls ws0 H) (hD : va_D A ws0) (hS : va_S A s.heap H locs) (q0 : Nat) {fs : List Value} {v : Value} (he : ws0[q0]? = some (ad, .inr (2, fs))) (hn : narrow (.array .int) v = v) (hf : fits (.array .int) v = true) (hl : Nat.ble (1 + 1) fs.length = true) (hdg : decode cc pc = .ok (.putfield 15, 3)) (kk : ∀ (H1 : Heap) (locs1 : List Loc), va_P D cls (ws0.set q0 (ad, .inr (2, fs.set 1 v))) H1 → va_D A (ws0.set q0 (ad, .inr (2, fs.set 1 v))) → va_S A s.heap H1 locs1 → W p l e R s m args below meth c H1 locs1 cells slots Q (F0 m (pc + 3) ls rest)) : W p l e R s m args below meth c H locs cells slots Q (F0 m pc ls (v :: .ref ad :: rest)) :=
  va_putF (D := D) (ci := 2) (v := v) (ty := .array .int) (C := R_Proof) (T := F_Proof) (N := 9) X.1.1 X.1.2.1 X.1.2.2.2.2 hin_Proof t_Proof t_Proof_ok n_Proof X.1.2.2.2.1 X.2.1 hP hD hS q0 he rfl 1 (by decide) (X.1.2.2.2.2 _ (List.mem_append_right _ (List.mem_append_right _ (List.mem_append_right _ (List.mem_append_left _ (List.mem_of_getElem? (i := 16) rfl)))))) (fun _ h9 => h9) rfl hin rfl (by decide +kernel) hn hf (Nat.le_of_ble_eq_true hl) hdg kk
theorem fp_Proof_18 (X : wk_X p s m args meth c cc "LoopRanker$Proof" nL BW D cls tys nz A) (hin : meth.name = "<init>") (hP : va_P D cls ws0 H) (hD : va_D A ws0) (hS : va_S A s.heap H locs) (q0 : Nat) {fs : List Value} {v : Value} (he : ws0[q0]? = some (ad, .inr (2, fs))) (hn : narrow (.array .int) v = v) (hf : fits (.array .int) v = true) (hl : Nat.ble (2 + 1) fs.length = true) (hdg : decode cc pc = .ok (.putfield 18, 3)) (kk : ∀ (H1 : Heap) (locs1 : List Loc), va_P D cls (ws0.set q0 (ad, .inr (2, fs.set 2 v))) H1 → va_D A (ws0.set q0 (ad, .inr (2, fs.set 2 v))) → va_S A s.heap H1 locs1 → W p l e R s m args below meth c H1 locs1 cells slots Q (F0 m (pc + 3) ls rest)) : W p l e R s m args below meth c H locs cells slots Q (F0 m pc ls (v :: .ref ad :: rest)) :=
  va_putF (D := D) (ci := 2) (v := v) (ty := .array .int) (C := R_Proof) (T := F_Proof) (N := 9) X.1.1 X.1.2.1 X.1.2.2.2.2 hin_Proof t_Proof t_Proof_ok n_Proof X.1.2.2.2.1 X.2.1 hP hD hS q0 he rfl 2 (by decide) (X.1.2.2.2.2 _ (List.mem_append_right _ (List.mem_append_right _ (List.mem_append_right _ (List.mem_append_left _ (List.mem_of_getElem? (i := 17) rfl)))))) (fun _ h9 => h9) rfl hin rfl (by decide +kernel) hn hf (Nat.le_of_ble_eq_true hl) hdg kk
theorem fp_Proof_21 (X : wk_X p s m args meth c cc "LoopRanker$Proof" nL BW D cls tys nz A) (hin : meth.name = "<init>") (hP : va_P D cls ws0 H) (hD : va_D A ws0) (hS : va_S A s.heap H locs) (q0 : Nat) {fs : List Value} {v : Value} (he : ws0[q0]? = some (ad, .inr (2, fs))) (hn : narrow (.array .int) v = v) (hf : fits (.array .int) v = true) (hl : Nat.ble (3 + 1) fs.length = true) (hdg : decode cc pc = .ok (.putfield 21, 3)) (kk : ∀ (H1 : Heap) (locs1 : List Loc), va_P D cls (ws0.set q0 (ad, .inr (2, fs.set 3 v))) H1 → va_D A (ws0.set q0 (ad, .inr (2, fs.set 3 v))) → va_S A s.heap H1 locs1 → W p l e R s m args below meth c H1 locs1 cells slots Q (F0 m (pc + 3) ls rest)) : W p l e R s m args below meth c H locs cells slots Q (F0 m pc ls (v :: .ref ad :: rest)) :=
  va_putF (D := D) (ci := 2) (v := v) (ty := .array .int) (C := R_Proof) (T := F_Proof) (N := 9) X.1.1 X.1.2.1 X.1.2.2.2.2 hin_Proof t_Proof t_Proof_ok n_Proof X.1.2.2.2.1 X.2.1 hP hD hS q0 he rfl 3 (by decide) (X.1.2.2.2.2 _ (List.mem_append_right _ (List.mem_append_right _ (List.mem_append_right _ (List.mem_append_left _ (List.mem_of_getElem? (i := 18) rfl)))))) (fun _ h9 => h9) rfl hin rfl (by decide +kernel) hn hf (Nat.le_of_ble_eq_true hl) hdg kk
theorem fp_Proof_24 (X : wk_X p s m args meth c cc "LoopRanker$Proof" nL BW D cls tys nz A) (hin : meth.name = "<init>") (hP : va_P D cls ws0 H) (hD : va_D A ws0) (hS : va_S A s.heap H locs) (q0 : Nat) {fs : List Value} {v : Value} (he : ws0[q0]? = some (ad, .inr (2, fs))) (hn : narrow (.array .long) v = v) (hf : fits (.array .long) v = true) (hl : Nat.ble (4 + 1) fs.length = true) (hdg : decode cc pc = .ok (.putfield 24, 3)) (kk : ∀ (H1 : Heap) (locs1 : List Loc), va_P D cls (ws0.set q0 (ad, .inr (2, fs.set 4 v))) H1 → va_D A (ws0.set q0 (ad, .inr (2, fs.set 4 v))) → va_S A s.heap H1 locs1 → W p l e R s m args below meth c H1 locs1 cells slots Q (F0 m (pc + 3) ls rest)) : W p l e R s m args below meth c H locs cells slots Q (F0 m pc ls (v :: .ref ad :: rest)) :=
  va_putF (D := D) (ci := 2) (v := v) (ty := .array .long) (C := R_Proof) (T := F_Proof) (N := 9) X.1.1 X.1.2.1 X.1.2.2.2.2 hin_Proof t_Proof t_Proof_ok n_Proof X.1.2.2.2.1 X.2.1 hP hD hS q0 he rfl 4 (by decide) (X.1.2.2.2.2 _ (List.mem_append_right _ (List.mem_append_right _ (List.mem_append_right _ (List.mem_append_left _ (List.mem_of_getElem? (i := 19) rfl)))))) (fun _ h9 => h9) rfl hin rfl (by decide +kernel) hn hf (Nat.le_of_ble_eq_true hl) hdg kk
theorem fp_Proof_28 (X : wk_X p s m args meth c cc "LoopRanker$Proof" nL BW D cls tys nz A) (hin : meth.name = "<init>") (hP : va_P D cls ws0 H) (hD : va_D A ws0) (hS : va_S A s.heap H locs) (q0 : Nat) {fs : List Value} {v : Value} (he : ws0[q0]? = some (ad, .inr (2, fs))) (hn : narrow (.array .int) v = v) (hf : fits (.array .int) v = true) (hl : Nat.ble (5 + 1) fs.length = true) (hdg : decode cc pc = .ok (.putfield 28, 3)) (kk : ∀ (H1 : Heap) (locs1 : List Loc), va_P D cls (ws0.set q0 (ad, .inr (2, fs.set 5 v))) H1 → va_D A (ws0.set q0 (ad, .inr (2, fs.set 5 v))) → va_S A s.heap H1 locs1 → W p l e R s m args below meth c H1 locs1 cells slots Q (F0 m (pc + 3) ls rest)) : W p l e R s m args below meth c H locs cells slots Q (F0 m pc ls (v :: .ref ad :: rest)) :=
  va_putF (D := D) (ci := 2) (v := v) (ty := .array .int) (C := R_Proof) (T := F_Proof) (N := 9) X.1.1 X.1.2.1 X.1.2.2.2.2 hin_Proof t_Proof t_Proof_ok n_Proof X.1.2.2.2.1 X.2.1 hP hD hS q0 he rfl 5 (by decide) (X.1.2.2.2.2 _ (List.mem_append_right _ (List.mem_append_right _ (List.mem_append_right _ (List.mem_append_right _ (List.mem_append_left _ (List.mem_of_getElem? (i := 0) rfl))))))) (fun _ h9 => h9) rfl hin rfl (by decide +kernel) hn hf (Nat.le_of_ble_eq_true hl) hdg kk
theorem fp_Proof_31 (X : wk_X p s m args meth c cc "LoopRanker$Proof" nL BW D cls tys nz A) (hP : va_P D cls ws0 H) (hD : va_D A ws0) (hS : va_S A s.heap H locs) (q0 : Nat) {fs : List Value} {v : Value} (he : ws0[q0]? = some (ad, .inr (2, fs))) (hn : narrow (.int) v = v) (hf : fits (.int) v = true) (hl : Nat.ble (6 + 1) fs.length = true) (hdg : decode cc pc = .ok (.putfield 31, 3)) (kk : ∀ (H1 : Heap) (locs1 : List Loc), va_P D cls (ws0.set q0 (ad, .inr (2, fs.set 6 v))) H1 → va_D A (ws0.set q0 (ad, .inr (2, fs.set 6 v))) → va_S A s.heap H1 locs1 → W p l e R s m args below meth c H1 locs1 cells slots Q (F0 m (pc + 3) ls rest)) : W p l e R s m args below meth c H locs cells slots Q (F0 m pc ls (v :: .ref ad :: rest)) :=
  va_put (D := D) (ci := 2) (v := v) (ty := .int) (C := R_Proof) (T := F_Proof) (N := 9) X.1.1 X.1.2.1 X.1.2.2.2.2 hin_Proof t_Proof t_Proof_ok n_Proof X.1.2.2.2.1 X.2.1 hP hD hS q0 he rfl 6 (by decide) (X.1.2.2.2.2 _ (List.mem_append_right _ (List.mem_append_right _ (List.mem_append_right _ (List.mem_append_right _ (List.mem_append_left _ (List.mem_of_getElem? (i := 1) rfl))))))) (fun _ h9 => h9) rfl (by decide +kernel) hn hf (Nat.le_of_ble_eq_true hl) hdg kk
theorem fp_Proof_35 (X : wk_X p s m args meth c cc "LoopRanker$Proof" nL BW D cls tys nz A) (hP : va_P D cls ws0 H) (hD : va_D A ws0) (hS : va_S A s.heap H locs) (q0 : Nat) {fs : List Value} {v : Value} (he : ws0[q0]? = some (ad, .inr (2, fs))) (hn : narrow (.int) v = v) (hf : fits (.int) v = true) (hl : Nat.ble (7 + 1) fs.length = true) (hdg : decode cc pc = .ok (.putfield 35, 3)) (kk : ∀ (H1 : Heap) (locs1 : List Loc), va_P D cls (ws0.set q0 (ad, .inr (2, fs.set 7 v))) H1 → va_D A (ws0.set q0 (ad, .inr (2, fs.set 7 v))) → va_S A s.heap H1 locs1 → W p l e R s m args below meth c H1 locs1 cells slots Q (F0 m (pc + 3) ls rest)) : W p l e R s m args below meth c H locs cells slots Q (F0 m pc ls (v :: .ref ad :: rest)) :=
  va_put (D := D) (ci := 2) (v := v) (ty := .int) (C := R_Proof) (T := F_Proof) (N := 9) X.1.1 X.1.2.1 X.1.2.2.2.2 hin_Proof t_Proof t_Proof_ok n_Proof X.1.2.2.2.1 X.2.1 hP hD hS q0 he rfl 7 (by decide) (X.1.2.2.2.2 _ (List.mem_append_right _ (List.mem_append_right _ (List.mem_append_right _ (List.mem_append_right _ (List.mem_append_left _ (List.mem_of_getElem? (i := 2) rfl))))))) (fun _ h9 => h9) rfl (by decide +kernel) hn hf (Nat.le_of_ble_eq_true hl) hdg kk
theorem fp_Proof_38 (X : wk_X p s m args meth c cc "LoopRanker$Proof" nL BW D cls tys nz A) (hP : va_P D cls ws0 H) (hD : va_D A ws0) (hS : va_S A s.heap H locs) (q0 : Nat) {fs : List Value} {v : Value} (he : ws0[q0]? = some (ad, .inr (2, fs))) (hn : narrow (.boolean) v = v) (hf : fits (.boolean) v = true) (hl : Nat.ble (8 + 1) fs.length = true) (hdg : decode cc pc = .ok (.putfield 38, 3)) (kk : ∀ (H1 : Heap) (locs1 : List Loc), va_P D cls (ws0.set q0 (ad, .inr (2, fs.set 8 v))) H1 → va_D A (ws0.set q0 (ad, .inr (2, fs.set 8 v))) → va_S A s.heap H1 locs1 → W p l e R s m args below meth c H1 locs1 cells slots Q (F0 m (pc + 3) ls rest)) : W p l e R s m args below meth c H locs cells slots Q (F0 m pc ls (v :: .ref ad :: rest)) :=
  va_put (D := D) (ci := 2) (v := v) (ty := .boolean) (C := R_Proof) (T := F_Proof) (N := 9) X.1.1 X.1.2.1 X.1.2.2.2.2 hin_Proof t_Proof t_Proof_ok n_Proof X.1.2.2.2.1 X.2.1 hP hD hS q0 he rfl 8 (by decide) (X.1.2.2.2.2 _ (List.mem_append_right _ (List.mem_append_right _ (List.mem_append_right _ (List.mem_append_right _ (List.mem_append_left _ (List.mem_of_getElem? (i := 3) rfl))))))) (fun _ h9 => h9) rfl (by decide +kernel) hn hf (Nat.le_of_ble_eq_true hl) hdg kk
theorem cw_Proof_42 (hT : ∀ w ∈ BW, w.before args s = true) (hZ : wk_Z nz s) (hR : rm_Proof_listFunctions.frames + 1 ≤ R.frames ∧ 8 + (5 + 11) + rm_Proof_listFunctions.locals ≤ R.locals) : (CallB R s args "LoopRanker$Proof" 42 y_Proof_listFunctions b_Proof_listFunctions 5 none (Cond.code y_Proof_listFunctions b_Proof_listFunctions 5 none :: BW) rm_Proof_listFunctions 0 0 0) ∧ (Cond.instanceMethod y_Proof_listFunctions).before args s = true ∧ (Cond.selects "LoopRanker$Proof" y_Proof_listFunctions y_Proof_listFunctions).before args s = true :=
  ⟨callB_of 0 hT (BW_good kw_Proof_listFunctions) rfl rfl rfl (hT _ (List.mem_append_left _ (List.mem_of_getElem? (i := 4) rfl))) (hT _ (List.mem_append_right _ (List.mem_append_right _ (List.mem_append_right _ (List.mem_append_left _ (List.mem_of_getElem? (i := 9) rfl)))))) ⟨by decide, by decide, by decide +kernel⟩ hR, (hT _ (List.mem_append_right _ (List.mem_append_right _ (List.mem_append_right _ (List.mem_append_left _ (List.mem_of_getElem? (i := 10) rfl)))))), (hT _ (List.mem_append_right _ (List.mem_append_right _ (List.mem_append_right _ (List.mem_append_right _ (List.mem_append_right _ (List.mem_append_right _ (List.mem_append_right _ (List.mem_append_right _ (List.mem_append_right _ (List.mem_append_right _ (List.mem_append_right _ (List.mem_append_right _ (List.mem_append_right _ (List.mem_append_right _ (List.mem_append_right _ (List.mem_append_right _ (List.mem_append_right _ (List.mem_append_right _ (List.mem_append_right _ (List.mem_append_right _ (List.mem_append_right _ (List.mem_append_right _ (List.mem_append_right _ (List.mem_append_left _ (List.mem_of_getElem? (i := 16) rfl))))))))))))))))))))))))))⟩
theorem wm_abs_Proof_45 {x : Int32} (X : wk_X p s m args meth c cc "LoopRanker$Proof" nL BW D cls tys nz A) (hz : ls.size = nL) (hfr : 1 ≤ R.frames) (hlo : (rest.map fun v => v.category).sum + 13 ≤ R.locals) (hcs : cells ≤ R.cells ∧ slots ≤ R.slots) (hdg : decode cc pc = .ok (.invokestatic 45, 3)) (kk : W p l e R s m args below meth c H locs cells slots Q (F0 m (pc + 3) ls (.int (g_abs x) :: rest))) : W p l e R s m args below meth c H locs cells slots Q (F0 m pc ls (.int x :: rest)) :=
  va_mabs X.1.1 X.1.2.1 (X.1.2.2.1.trans hz.symm) X.1.2.2.2.1 (X.1.2.2.2.2 _ (List.mem_append_right _ (List.mem_append_right _ (List.mem_append_right _ (List.mem_append_left _ (List.mem_of_getElem? (i := 12) rfl)))))) (X.1.2.2.2.2 _ (List.mem_append_right _ (List.mem_append_right _ (List.mem_append_right _ (List.mem_append_left _ (List.mem_of_getElem? (i := 13) rfl)))))) (X.1.2.2.2.2 _ (List.mem_append_left _ (List.mem_of_getElem? (i := 5) rfl))) (X.1.2.2.2.2 _ (List.mem_append_right _ (List.mem_append_right _ (List.mem_append_right _ (List.mem_append_left _ (List.mem_of_getElem? (i := 14) rfl)))))) hfr hlo hcs.1 hcs.2 hdg kk
theorem fg_Proof_9 (X : wk_X p s m args meth c cc "LoopRanker$Proof" nL BW D cls tys nz A) (hP : va_P D cls ws0 H) (q0 : Nat) {fs : List Value} {v : Value} (he : ws0[q0]? = some (ad, .inr (2, fs))) (hv : fs[0]? = some v) (hdg : decode cc pc = .ok (.getfield 9, 3)) (kk : W p l e R s m args below meth c H locs cells slots Q (F0 m (pc + 3) ls (v :: rest))) : W p l e R s m args below meth c H locs cells slots Q (F0 m pc ls (.ref ad :: rest)) :=
  va_get (D := D) (ci := 2) (C := R_Proof) (T := F_Proof) (N := 9) X.1.1 X.1.2.1 X.1.2.2.2.2 hin_Proof X.1.2.2.2.1 X.2.1 hP q0 he rfl 0 (by decide) (X.1.2.2.2.2 _ (List.mem_append_right _ (List.mem_append_right _ (List.mem_append_right _ (List.mem_append_left _ (List.mem_of_getElem? (i := 15) rfl)))))) (fun _ h9 => h9) hv hdg kk
theorem fg_Proof_15 (X : wk_X p s m args meth c cc "LoopRanker$Proof" nL BW D cls tys nz A) (hP : va_P D cls ws0 H) (q0 : Nat) {fs : List Value} {v : Value} (he : ws0[q0]? = some (ad, .inr (2, fs))) (hv : fs[1]? = some v) (hdg : decode cc pc = .ok (.getfield 15, 3)) (kk : W p l e R s m args below meth c H locs cells slots Q (F0 m (pc + 3) ls (v :: rest))) : W p l e R s m args below meth c H locs cells slots Q (F0 m pc ls (.ref ad :: rest)) :=
  va_get (D := D) (ci := 2) (C := R_Proof) (T := F_Proof) (N := 9) X.1.1 X.1.2.1 X.1.2.2.2.2 hin_Proof X.1.2.2.2.1 X.2.1 hP q0 he rfl 1 (by decide) (X.1.2.2.2.2 _ (List.mem_append_right _ (List.mem_append_right _ (List.mem_append_right _ (List.mem_append_left _ (List.mem_of_getElem? (i := 16) rfl)))))) (fun _ h9 => h9) hv hdg kk
theorem fg_Proof_31 (X : wk_X p s m args meth c cc "LoopRanker$Proof" nL BW D cls tys nz A) (hP : va_P D cls ws0 H) (q0 : Nat) {fs : List Value} {v : Value} (he : ws0[q0]? = some (ad, .inr (2, fs))) (hv : fs[6]? = some v) (hdg : decode cc pc = .ok (.getfield 31, 3)) (kk : W p l e R s m args below meth c H locs cells slots Q (F0 m (pc + 3) ls (v :: rest))) : W p l e R s m args below meth c H locs cells slots Q (F0 m pc ls (.ref ad :: rest)) :=
  va_get (D := D) (ci := 2) (C := R_Proof) (T := F_Proof) (N := 9) X.1.1 X.1.2.1 X.1.2.2.2.2 hin_Proof X.1.2.2.2.1 X.2.1 hP q0 he rfl 6 (by decide) (X.1.2.2.2.2 _ (List.mem_append_right _ (List.mem_append_right _ (List.mem_append_right _ (List.mem_append_right _ (List.mem_append_left _ (List.mem_of_getElem? (i := 1) rfl))))))) (fun _ h9 => h9) hv hdg kk
theorem fg_Proof_18 (X : wk_X p s m args meth c cc "LoopRanker$Proof" nL BW D cls tys nz A) (hP : va_P D cls ws0 H) (q0 : Nat) {fs : List Value} {v : Value} (he : ws0[q0]? = some (ad, .inr (2, fs))) (hv : fs[2]? = some v) (hdg : decode cc pc = .ok (.getfield 18, 3)) (kk : W p l e R s m args below meth c H locs cells slots Q (F0 m (pc + 3) ls (v :: rest))) : W p l e R s m args below meth c H locs cells slots Q (F0 m pc ls (.ref ad :: rest)) :=
  va_get (D := D) (ci := 2) (C := R_Proof) (T := F_Proof) (N := 9) X.1.1 X.1.2.1 X.1.2.2.2.2 hin_Proof X.1.2.2.2.1 X.2.1 hP q0 he rfl 2 (by decide) (X.1.2.2.2.2 _ (List.mem_append_right _ (List.mem_append_right _ (List.mem_append_right _ (List.mem_append_left _ (List.mem_of_getElem? (i := 17) rfl)))))) (fun _ h9 => h9) hv hdg kk
theorem fg_Proof_21 (X : wk_X p s m args meth c cc "LoopRanker$Proof" nL BW D cls tys nz A) (hP : va_P D cls ws0 H) (q0 : Nat) {fs : List Value} {v : Value} (he : ws0[q0]? = some (ad, .inr (2, fs))) (hv : fs[3]? = some v) (hdg : decode cc pc = .ok (.getfield 21, 3)) (kk : W p l e R s m args below meth c H locs cells slots Q (F0 m (pc + 3) ls (v :: rest))) : W p l e R s m args below meth c H locs cells slots Q (F0 m pc ls (.ref ad :: rest)) :=
  va_get (D := D) (ci := 2) (C := R_Proof) (T := F_Proof) (N := 9) X.1.1 X.1.2.1 X.1.2.2.2.2 hin_Proof X.1.2.2.2.1 X.2.1 hP q0 he rfl 3 (by decide) (X.1.2.2.2.2 _ (List.mem_append_right _ (List.mem_append_right _ (List.mem_append_right _ (List.mem_append_left _ (List.mem_of_getElem? (i := 18) rfl)))))) (fun _ h9 => h9) hv hdg kk
theorem fg_Proof_38 (X : wk_X p s m args meth c cc "LoopRanker$Proof" nL BW D cls tys nz A) (hP : va_P D cls ws0 H) (q0 : Nat) {fs : List Value} {v : Value} (he : ws0[q0]? = some (ad, .inr (2, fs))) (hv : fs[8]? = some v) (hdg : decode cc pc = .ok (.getfield 38, 3)) (kk : W p l e R s m args below meth c H locs cells slots Q (F0 m (pc + 3) ls (v :: rest))) : W p l e R s m args below meth c H locs cells slots Q (F0 m pc ls (.ref ad :: rest)) :=
  va_get (D := D) (ci := 2) (C := R_Proof) (T := F_Proof) (N := 9) X.1.1 X.1.2.1 X.1.2.2.2.2 hin_Proof X.1.2.2.2.1 X.2.1 hP q0 he rfl 8 (by decide) (X.1.2.2.2.2 _ (List.mem_append_right _ (List.mem_append_right _ (List.mem_append_right _ (List.mem_append_right _ (List.mem_append_left _ (List.mem_of_getElem? (i := 3) rfl))))))) (fun _ h9 => h9) hv hdg kk
theorem fg_Proof_28 (X : wk_X p s m args meth c cc "LoopRanker$Proof" nL BW D cls tys nz A) (hP : va_P D cls ws0 H) (q0 : Nat) {fs : List Value} {v : Value} (he : ws0[q0]? = some (ad, .inr (2, fs))) (hv : fs[5]? = some v) (hdg : decode cc pc = .ok (.getfield 28, 3)) (kk : W p l e R s m args below meth c H locs cells slots Q (F0 m (pc + 3) ls (v :: rest))) : W p l e R s m args below meth c H locs cells slots Q (F0 m pc ls (.ref ad :: rest)) :=
  va_get (D := D) (ci := 2) (C := R_Proof) (T := F_Proof) (N := 9) X.1.1 X.1.2.1 X.1.2.2.2.2 hin_Proof X.1.2.2.2.1 X.2.1 hP q0 he rfl 5 (by decide) (X.1.2.2.2.2 _ (List.mem_append_right _ (List.mem_append_right _ (List.mem_append_right _ (List.mem_append_right _ (List.mem_append_left _ (List.mem_of_getElem? (i := 0) rfl))))))) (fun _ h9 => h9) hv hdg kk
theorem cw_Proof_51 (hT : ∀ w ∈ BW, w.before args s = true) (hZ : wk_Z nz s) (hR : rm_Step_findKinds.frames + 1 ≤ R.frames ∧ 8 + (4 + 11) + rm_Step_findKinds.locals ≤ R.locals) : (va_CN R s args "LoopRanker$Proof" 51 y_Step_findKinds "LoopRanker" b_Step_findKinds 4 none (Cond.code y_Step_findKinds b_Step_findKinds 4 none :: BW) rm_Step_findKinds 0 0 2) ∧ (Cond.instanceMethod y_Step_findKinds).before args s = true ∧ (Cond.selects "LoopRanker$Step" y_Step_findKinds y_Step_findKinds).before args s = true :=
  ⟨va_cnB 2 hT (BW_good kw_Step_findKinds) rfl rfl rfl (hZ _ (List.mem_of_getElem? (i := 30) rfl)) (hT _ (List.mem_append_left _ (List.mem_of_getElem? (i := 2) rfl))) ⟨by decide, by decide, by decide +kernel⟩ hR, (hT _ (List.mem_append_right _ (List.mem_append_right _ (List.mem_append_right _ (List.mem_append_right _ (List.mem_append_right _ (List.mem_append_right _ (List.mem_append_right _ (List.mem_append_right _ (List.mem_append_right _ (List.mem_append_right _ (List.mem_append_left _ (List.mem_of_getElem? (i := 14) rfl))))))))))))), (hT _ (List.mem_append_right _ (List.mem_append_right _ (List.mem_append_right _ (List.mem_append_right _ (List.mem_append_right _ (List.mem_append_right _ (List.mem_append_right _ (List.mem_append_right _ (List.mem_append_right _ (List.mem_append_right _ (List.mem_append_right _ (List.mem_append_right _ (List.mem_append_right _ (List.mem_append_right _ (List.mem_append_right _ (List.mem_append_right _ (List.mem_append_right _ (List.mem_append_right _ (List.mem_append_right _ (List.mem_append_right _ (List.mem_append_right _ (List.mem_append_right _ (List.mem_append_right _ (List.mem_append_right _ (List.mem_append_left _ (List.mem_of_getElem? (i := 12) rfl)))))))))))))))))))))))))))⟩
theorem fg_Proof_35 (X : wk_X p s m args meth c cc "LoopRanker$Proof" nL BW D cls tys nz A) (hP : va_P D cls ws0 H) (q0 : Nat) {fs : List Value} {v : Value} (he : ws0[q0]? = some (ad, .inr (2, fs))) (hv : fs[7]? = some v) (hdg : decode cc pc = .ok (.getfield 35, 3)) (kk : W p l e R s m args below meth c H locs cells slots Q (F0 m (pc + 3) ls (v :: rest))) : W p l e R s m args below meth c H locs cells slots Q (F0 m pc ls (.ref ad :: rest)) :=
  va_get (D := D) (ci := 2) (C := R_Proof) (T := F_Proof) (N := 9) X.1.1 X.1.2.1 X.1.2.2.2.2 hin_Proof X.1.2.2.2.1 X.2.1 hP q0 he rfl 7 (by decide) (X.1.2.2.2.2 _ (List.mem_append_right _ (List.mem_append_right _ (List.mem_append_right _ (List.mem_append_right _ (List.mem_append_left _ (List.mem_of_getElem? (i := 2) rfl))))))) (fun _ h9 => h9) hv hdg kk
theorem cw_Proof_57 (hT : ∀ w ∈ BW, w.before args s = true) (hZ : wk_Z nz s) (hR : rm_Proof_bestFunction.frames + 1 ≤ R.frames ∧ 8 + (7 + 11) + rm_Proof_bestFunction.locals ≤ R.locals) : (CallB R s args "LoopRanker$Proof" 57 y_Proof_bestFunction b_Proof_bestFunction 7 (some .int) (Cond.code y_Proof_bestFunction b_Proof_bestFunction 7 (some .int) :: BW) rm_Proof_bestFunction 0 0 2) ∧ (Cond.instanceMethod y_Proof_bestFunction).before args s = true ∧ (Cond.selects "LoopRanker$Proof" y_Proof_bestFunction y_Proof_bestFunction).before args s = true :=
  ⟨callB_of 2 hT (BW_good kw_Proof_bestFunction) rfl rfl rfl (hT _ (List.mem_append_left _ (List.mem_of_getElem? (i := 4) rfl))) (hT _ (List.mem_append_right _ (List.mem_append_right _ (List.mem_append_right _ (List.mem_append_right _ (List.mem_append_right _ (List.mem_append_right _ (List.mem_append_right _ (List.mem_append_right _ (List.mem_append_right _ (List.mem_append_right _ (List.mem_append_left _ (List.mem_of_getElem? (i := 18) rfl))))))))))))) ⟨by decide, by decide, by decide +kernel⟩ hR, (hT _ (List.mem_append_right _ (List.mem_append_right _ (List.mem_append_right _ (List.mem_append_right _ (List.mem_append_right _ (List.mem_append_right _ (List.mem_append_right _ (List.mem_append_right _ (List.mem_append_right _ (List.mem_append_right _ (List.mem_append_left _ (List.mem_of_getElem? (i := 19) rfl))))))))))))), (hT _ (List.mem_append_right _ (List.mem_append_right _ (List.mem_append_right _ (List.mem_append_right _ (List.mem_append_right _ (List.mem_append_right _ (List.mem_append_right _ (List.mem_append_right _ (List.mem_append_right _ (List.mem_append_right _ (List.mem_append_right _ (List.mem_append_right _ (List.mem_append_right _ (List.mem_append_right _ (List.mem_append_right _ (List.mem_append_right _ (List.mem_append_right _ (List.mem_append_right _ (List.mem_append_right _ (List.mem_append_right _ (List.mem_append_right _ (List.mem_append_right _ (List.mem_append_right _ (List.mem_append_right _ (List.mem_append_left _ (List.mem_of_getElem? (i := 13) rfl)))))))))))))))))))))))))))⟩
theorem cw_Proof_61 (hT : ∀ w ∈ BW, w.before args s = true) (hZ : wk_Z nz s) (hR : rm_Proof_addLevel.frames + 1 ≤ R.frames ∧ 8 + (8 + 11) + rm_Proof_addLevel.locals ≤ R.locals) : (CallB R s args "LoopRanker$Proof" 61 y_Proof_addLevel b_Proof_addLevel 8 none (Cond.code y_Proof_addLevel b_Proof_addLevel 8 none :: BW) rm_Proof_addLevel 0 0 3) ∧ (Cond.instanceMethod y_Proof_addLevel).before args s = true ∧ (Cond.selects "LoopRanker$Proof" y_Proof_addLevel y_Proof_addLevel).before args s = true :=
  ⟨callB_of 3 hT (BW_good kw_Proof_addLevel) rfl rfl rfl (hT _ (List.mem_append_left _ (List.mem_of_getElem? (i := 4) rfl))) (hT _ (List.mem_append_right _ (List.mem_append_right _ (List.mem_append_right _ (List.mem_append_right _ (List.mem_append_right _ (List.mem_append_right _ (List.mem_append_right _ (List.mem_append_right _ (List.mem_append_right _ (List.mem_append_right _ (List.mem_append_right _ (List.mem_append_left _ (List.mem_of_getElem? (i := 4) rfl)))))))))))))) ⟨by decide, by decide, by decide +kernel⟩ hR, (hT _ (List.mem_append_right _ (List.mem_append_right _ (List.mem_append_right _ (List.mem_append_right _ (List.mem_append_right _ (List.mem_append_right _ (List.mem_append_right _ (List.mem_append_right _ (List.mem_append_right _ (List.mem_append_right _ (List.mem_append_right _ (List.mem_append_left _ (List.mem_of_getElem? (i := 5) rfl)))))))))))))), (hT _ (List.mem_append_right _ (List.mem_append_right _ (List.mem_append_right _ (List.mem_append_right _ (List.mem_append_right _ (List.mem_append_right _ (List.mem_append_right _ (List.mem_append_right _ (List.mem_append_right _ (List.mem_append_right _ (List.mem_append_right _ (List.mem_append_right _ (List.mem_append_right _ (List.mem_append_right _ (List.mem_append_right _ (List.mem_append_right _ (List.mem_append_right _ (List.mem_append_right _ (List.mem_append_right _ (List.mem_append_right _ (List.mem_append_right _ (List.mem_append_right _ (List.mem_append_right _ (List.mem_append_right _ (List.mem_append_left _ (List.mem_of_getElem? (i := 15) rfl)))))))))))))))))))))))))))⟩
theorem cw_Proof_65 (hT : ∀ w ∈ BW, w.before args s = true) (hZ : wk_Z nz s) (hR : rm_Proof_countRemoved.frames + 1 ≤ R.frames ∧ 8 + (6 + 11) + rm_Proof_countRemoved.locals ≤ R.locals) : (CallB R s args "LoopRanker$Proof" 65 y_Proof_countRemoved b_Proof_countRemoved 6 (some .int) (Cond.code y_Proof_countRemoved b_Proof_countRemoved 6 (some .int) :: BW) rm_Proof_countRemoved 0 0 3) ∧ (Cond.instanceMethod y_Proof_countRemoved).before args s = true ∧ (Cond.selects "LoopRanker$Proof" y_Proof_countRemoved y_Proof_countRemoved).before args s = true :=
  ⟨callB_of 3 hT (BW_good kw_Proof_countRemoved) rfl rfl rfl (hT _ (List.mem_append_left _ (List.mem_of_getElem? (i := 4) rfl))) (hT _ (List.mem_append_right _ (List.mem_append_right _ (List.mem_append_right _ (List.mem_append_right _ (List.mem_append_right _ (List.mem_append_right _ (List.mem_append_right _ (List.mem_append_right _ (List.mem_append_right _ (List.mem_append_right _ (List.mem_append_right _ (List.mem_append_left _ (List.mem_of_getElem? (i := 1) rfl)))))))))))))) ⟨by decide, by decide, by decide +kernel⟩ hR, (hT _ (List.mem_append_right _ (List.mem_append_right _ (List.mem_append_right _ (List.mem_append_right _ (List.mem_append_right _ (List.mem_append_right _ (List.mem_append_right _ (List.mem_append_right _ (List.mem_append_right _ (List.mem_append_right _ (List.mem_append_right _ (List.mem_append_left _ (List.mem_of_getElem? (i := 2) rfl)))))))))))))), (hT _ (List.mem_append_right _ (List.mem_append_right _ (List.mem_append_right _ (List.mem_append_right _ (List.mem_append_right _ (List.mem_append_right _ (List.mem_append_right _ (List.mem_append_right _ (List.mem_append_right _ (List.mem_append_right _ (List.mem_append_right _ (List.mem_append_right _ (List.mem_append_right _ (List.mem_append_right _ (List.mem_append_right _ (List.mem_append_right _ (List.mem_append_right _ (List.mem_append_right _ (List.mem_append_right _ (List.mem_append_right _ (List.mem_append_right _ (List.mem_append_right _ (List.mem_append_right _ (List.mem_append_right _ (List.mem_append_left _ (List.mem_of_getElem? (i := 14) rfl)))))))))))))))))))))))))))⟩
theorem fg_Proof_69 (X : wk_X p s m args meth c cc "LoopRanker$Proof" nL BW D cls tys nz A) (hP : va_P D cls ws0 H) (q0 : Nat) {fs : List Value} {v : Value} (he : ws0[q0]? = some (ad, .inr (1, fs))) (hv : fs[2]? = some v) (hdg : decode cc pc = .ok (.getfield 69, 3)) (kk : W p l e R s m args below meth c H locs cells slots Q (F0 m (pc + 3) ls (v :: rest))) : W p l e R s m args below meth c H locs cells slots Q (F0 m pc ls (.ref ad :: rest)) :=
  va_getN (D := D) (ci := 1) (C := R_Step) (T := F_Step) (N := 4) X.1.1 X.1.2.1 X.1.2.2.2.2 hin_Step X.1.2.2.2.1 X.2.1 hP q0 he rfl 2 (by decide) (va_Nw.use rfl (X.2.2.1 _ (List.mem_of_getElem? (i := 8) rfl))) (fun _ h9 => h9) hv hdg kk
theorem kc_Proof_72 : Jvm.Cond.constantLong "LoopRanker$Proof" 72 (4611686018427387904) ∈ BW := (List.mem_append_right _ (List.mem_append_right _ (List.mem_append_right _ (List.mem_append_right _ (List.mem_append_right _ (List.mem_append_right _ (List.mem_append_right _ (List.mem_append_right _ (List.mem_append_right _ (List.mem_append_right _ (List.mem_append_right _ (List.mem_append_left _ (List.mem_of_getElem? (i := 7) rfl)))))))))))))
theorem fg_Proof_74 (X : wk_X p s m args meth c cc "LoopRanker$Proof" nL BW D cls tys nz A) (hP : va_P D cls ws0 H) (q0 : Nat) {fs : List Value} {v : Value} (he : ws0[q0]? = some (ad, .inr (1, fs))) (hv : fs[0]? = some v) (hdg : decode cc pc = .ok (.getfield 74, 3)) (kk : W p l e R s m args below meth c H locs cells slots Q (F0 m (pc + 3) ls (v :: rest))) : W p l e R s m args below meth c H locs cells slots Q (F0 m pc ls (.ref ad :: rest)) :=
  va_getN (D := D) (ci := 1) (C := R_Step) (T := F_Step) (N := 4) X.1.1 X.1.2.1 X.1.2.2.2.2 hin_Step X.1.2.2.2.1 X.2.1 hP q0 he rfl 0 (by decide) (va_Nw.use rfl (X.2.2.1 _ (List.mem_of_getElem? (i := 7) rfl))) (fun _ h9 => h9) hv hdg kk
theorem fg_Proof_78 (X : wk_X p s m args meth c cc "LoopRanker$Proof" nL BW D cls tys nz A) (hP : va_P D cls ws0 H) (q0 : Nat) {fs : List Value} {v : Value} (he : ws0[q0]? = some (ad, .inr (0, fs))) (hv : fs[4]? = some v) (hdg : decode cc pc = .ok (.getfield 78, 3)) (kk : W p l e R s m args below meth c H locs cells slots Q (F0 m (pc + 3) ls (v :: rest))) : W p l e R s m args below meth c H locs cells slots Q (F0 m pc ls (.ref ad :: rest)) :=
  va_getN (D := D) (ci := 0) (C := R_Guard) (T := F_Guard) (N := 7) X.1.1 X.1.2.1 X.1.2.2.2.2 hin_Guard X.1.2.2.2.1 X.2.1 hP q0 he rfl 4 (by decide) (va_Nw.use rfl (X.2.2.1 _ (List.mem_of_getElem? (i := 5) rfl))) (fun _ h9 => h9) hv hdg kk
theorem cw_Proof_83 (hT : ∀ w ∈ BW, w.before args s = true) (hZ : wk_Z nz s) (hR : rm_Guard_maximise.frames + 1 ≤ R.frames ∧ 8 + (5 + 11) + rm_Guard_maximise.locals ≤ R.locals) : (va_CN R s args "LoopRanker$Proof" 83 y_Guard_maximise "LoopRanker" b_Guard_maximise 5 none (Cond.code y_Guard_maximise b_Guard_maximise 5 none :: BW) rm_Guard_maximise 0 0 2) ∧ (Cond.instanceMethod y_Guard_maximise).before args s = true ∧ (Cond.selects "LoopRanker$Guard" y_Guard_maximise y_Guard_maximise).before args s = true :=
  ⟨va_cnB 2 hT (BW_good kw_Guard_maximise) rfl rfl rfl (hZ _ (List.mem_of_getElem? (i := 31) rfl)) (hT _ (List.mem_append_left _ (List.mem_of_getElem? (i := 3) rfl))) ⟨by decide, by decide, by decide +kernel⟩ hR, (hT _ (List.mem_append_right _ (List.mem_append_right _ (List.mem_append_right _ (List.mem_append_right _ (List.mem_append_right _ (List.mem_append_right _ (List.mem_append_right _ (List.mem_append_left _ (List.mem_of_getElem? (i := 9) rfl)))))))))), (hT _ (List.mem_append_right _ (List.mem_append_right _ (List.mem_append_right _ (List.mem_append_right _ (List.mem_append_right _ (List.mem_append_right _ (List.mem_append_right _ (List.mem_append_right _ (List.mem_append_right _ (List.mem_append_right _ (List.mem_append_right _ (List.mem_append_right _ (List.mem_append_right _ (List.mem_append_right _ (List.mem_append_right _ (List.mem_append_right _ (List.mem_append_right _ (List.mem_append_right _ (List.mem_append_right _ (List.mem_append_right _ (List.mem_append_right _ (List.mem_append_right _ (List.mem_append_right _ (List.mem_append_right _ (List.mem_append_left _ (List.mem_of_getElem? (i := 2) rfl)))))))))))))))))))))))))))⟩
theorem cw_Proof_87 (hT : ∀ w ∈ BW, w.before args s = true) (hZ : wk_Z nz s) (hR : rm_Guard_maximumRoundedDown.frames + 1 ≤ R.frames ∧ 8 + (1 + 11) + rm_Guard_maximumRoundedDown.locals ≤ R.locals) : (va_CN R s args "LoopRanker$Proof" 87 y_Guard_maximumRoundedDown "LoopRanker" b_Guard_maximumRoundedDown 1 (some .long) (Cond.code y_Guard_maximumRoundedDown b_Guard_maximumRoundedDown 1 (some .long) :: BW) rm_Guard_maximumRoundedDown 0 0 0) ∧ (Cond.instanceMethod y_Guard_maximumRoundedDown).before args s = true ∧ (Cond.selects "LoopRanker$Guard" y_Guard_maximumRoundedDown y_Guard_maximumRoundedDown).before args s = true :=
  ⟨va_cnB 0 hT (BW_good kw_Guard_maximumRoundedDown) rfl rfl rfl (hZ _ (List.mem_of_getElem? (i := 32) rfl)) (hT _ (List.mem_append_left _ (List.mem_of_getElem? (i := 3) rfl))) ⟨by decide, by decide, by decide +kernel⟩ hR, (hT _ (List.mem_append_right _ (List.mem_append_right _ (List.mem_append_right _ (List.mem_append_right _ (List.mem_append_right _ (List.mem_append_right _ (List.mem_append_right _ (List.mem_append_right _ (List.mem_append_right _ (List.mem_append_left _ (List.mem_of_getElem? (i := 9) rfl)))))))))))), (hT _ (List.mem_append_right _ (List.mem_append_right _ (List.mem_append_right _ (List.mem_append_right _ (List.mem_append_right _ (List.mem_append_right _ (List.mem_append_right _ (List.mem_append_right _ (List.mem_append_right _ (List.mem_append_right _ (List.mem_append_right _ (List.mem_append_right _ (List.mem_append_right _ (List.mem_append_right _ (List.mem_append_right _ (List.mem_append_right _ (List.mem_append_right _ (List.mem_append_right _ (List.mem_append_right _ (List.mem_append_right _ (List.mem_append_right _ (List.mem_append_right _ (List.mem_append_right _ (List.mem_append_right _ (List.mem_append_left _ (List.mem_of_getElem? (i := 6) rfl)))))))))))))))))))))))))))⟩
theorem wm_min_Proof_91 {x y : Int64} (X : wk_X p s m args meth c cc "LoopRanker$Proof" nL BW D cls tys nz A) (hz : ls.size = nL) (hfr : 1 ≤ R.frames) (hlo : (rest.map fun v => v.category).sum + 15 ≤ R.locals) (hcs : cells ≤ R.cells ∧ slots ≤ R.slots) (hdg : decode cc pc = .ok (.invokestatic 91, 3)) (kk : W p l e R s m args below meth c H locs cells slots Q (F0 m (pc + 3) ls (.long (if y < x then y else x) :: rest))) : W p l e R s m args below meth c H locs cells slots Q (F0 m pc ls (.long y :: .long x :: rest)) :=
  va_mmin_long X.1.1 X.1.2.1 (X.1.2.2.1.trans hz.symm) X.1.2.2.2.1 (X.1.2.2.2.2 _ (List.mem_append_right _ (List.mem_append_right _ (List.mem_append_right _ (List.mem_append_right _ (List.mem_append_right _ (List.mem_append_right _ (List.mem_append_right _ (List.mem_append_right _ (List.mem_append_right _ (List.mem_append_right _ (List.mem_append_right _ (List.mem_append_left _ (List.mem_of_getElem? (i := 8) rfl)))))))))))))) (X.1.2.2.2.2 _ (List.mem_append_right _ (List.mem_append_right _ (List.mem_append_right _ (List.mem_append_right _ (List.mem_append_right _ (List.mem_append_right _ (List.mem_append_right _ (List.mem_append_right _ (List.mem_append_right _ (List.mem_append_right _ (List.mem_append_right _ (List.mem_append_left _ (List.mem_of_getElem? (i := 9) rfl)))))))))))))) (X.1.2.2.2.2 _ (List.mem_append_left _ (List.mem_of_getElem? (i := 5) rfl))) (X.1.2.2.2.2 _ (List.mem_append_right _ (List.mem_append_right _ (List.mem_append_right _ (List.mem_append_right _ (List.mem_append_right _ (List.mem_append_right _ (List.mem_append_right _ (List.mem_append_right _ (List.mem_append_right _ (List.mem_append_right _ (List.mem_append_right _ (List.mem_append_left _ (List.mem_of_getElem? (i := 10) rfl)))))))))))))) hfr hlo hcs.1 hcs.2 hdg kk
theorem fg_Proof_24 (X : wk_X p s m args meth c cc "LoopRanker$Proof" nL BW D cls tys nz A) (hP : va_P D cls ws0 H) (q0 : Nat) {fs : List Value} {v : Value} (he : ws0[q0]? = some (ad, .inr (2, fs))) (hv : fs[4]? = some v) (hdg : decode cc pc = .ok (.getfield 24, 3)) (kk : W p l e R s m args below meth c H locs cells slots Q (F0 m (pc + 3) ls (v :: rest))) : W p l e R s m args below meth c H locs cells slots Q (F0 m pc ls (.ref ad :: rest)) :=
  va_get (D := D) (ci := 2) (C := R_Proof) (T := F_Proof) (N := 9) X.1.1 X.1.2.1 X.1.2.2.2.2 hin_Proof X.1.2.2.2.1 X.2.1 hP q0 he rfl 4 (by decide) (X.1.2.2.2.2 _ (List.mem_append_right _ (List.mem_append_right _ (List.mem_append_right _ (List.mem_append_left _ (List.mem_of_getElem? (i := 19) rfl)))))) (fun _ h9 => h9) hv hdg kk
theorem fp_LoopRanker_11 (X : wk_X p s m args meth c cc "LoopRanker" nL BW D cls tys nz A) (hin : meth.name = "<init>") (hP : va_P D cls ws0 H) (hD : va_D A ws0) (hS : va_S A s.heap H locs) (q0 : Nat) {fs : List Value} {v : Value} (he : ws0[q0]? = some (ad, .inr (3, fs))) (hn : narrow (.array (.object "LoopRanker$Step")) v = v) (hf : fits (.array (.object "LoopRanker$Step")) v = true) (hl : Nat.ble (0 + 1) fs.length = true) (hdg : decode cc pc = .ok (.putfield 11, 3)) (kk : ∀ (H1 : Heap) (locs1 : List Loc), va_P D cls (ws0.set q0 (ad, .inr (3, fs.set 0 v))) H1 → va_D A (ws0.set q0 (ad, .inr (3, fs.set 0 v))) → va_S A s.heap H1 locs1 → W p l e R s m args below meth c H1 locs1 cells slots Q (F0 m (pc + 3) ls rest)) : W p l e R s m args below meth c H locs cells slots Q (F0 m pc ls (v :: .ref ad :: rest)) :=
  va_putF (D := D) (ci := 3) (v := v) (ty := .array (.object "LoopRanker$Step")) (C := R_LoopRanker) (T := F_LoopRanker) (N := 6) X.1.1 X.1.2.1 X.1.2.2.2.2 hin_LoopRanker t_LoopRanker t_LoopRanker_ok n_LoopRanker X.1.2.2.2.1 X.2.1 hP hD hS q0 he rfl 0 (by decide) (X.1.2.2.2.2 _ (List.mem_append_right _ (List.mem_append_right _ (List.mem_append_right _ (List.mem_append_right _ (List.mem_append_right _ (List.mem_append_left _ (List.mem_of_getElem? (i := 4) rfl)))))))) (fun _ h9 => h9) rfl hin rfl (by decide +kernel) hn hf (Nat.le_of_ble_eq_true hl) hdg kk
theorem fg_LoopRanker_11 (X : wk_X p s m args meth c cc "LoopRanker" nL BW D cls tys nz A) (hP : va_P D cls ws0 H) (q0 : Nat) {fs : List Value} {v : Value} (he : ws0[q0]? = some (ad, .inr (3, fs))) (hv : fs[0]? = some v) (hdg : decode cc pc = .ok (.getfield 11, 3)) (kk : W p l e R s m args below meth c H locs cells slots Q (F0 m (pc + 3) ls (v :: rest))) : W p l e R s m args below meth c H locs cells slots Q (F0 m pc ls (.ref ad :: rest)) :=
  va_get (D := D) (ci := 3) (C := R_LoopRanker) (T := F_LoopRanker) (N := 6) X.1.1 X.1.2.1 X.1.2.2.2.2 hin_LoopRanker X.1.2.2.2.1 X.2.1 hP q0 he rfl 0 (by decide) (X.1.2.2.2.2 _ (List.mem_append_right _ (List.mem_append_right _ (List.mem_append_right _ (List.mem_append_right _ (List.mem_append_right _ (List.mem_append_left _ (List.mem_of_getElem? (i := 4) rfl)))))))) (fun _ h9 => h9) hv hdg kk
theorem fp_LoopRanker_19 (X : wk_X p s m args meth c cc "LoopRanker" nL BW D cls tys nz A) (hin : meth.name = "<init>") (hP : va_P D cls ws0 H) (hD : va_D A ws0) (hS : va_S A s.heap H locs) (q0 : Nat) {fs : List Value} {v : Value} (he : ws0[q0]? = some (ad, .inr (3, fs))) (hn : narrow (.object "LoopRanker$Proof") v = v) (hf : fits (.object "LoopRanker$Proof") v = true) (hl : Nat.ble (1 + 1) fs.length = true) (hdg : decode cc pc = .ok (.putfield 19, 3)) (kk : ∀ (H1 : Heap) (locs1 : List Loc), va_P D cls (ws0.set q0 (ad, .inr (3, fs.set 1 v))) H1 → va_D A (ws0.set q0 (ad, .inr (3, fs.set 1 v))) → va_S A s.heap H1 locs1 → W p l e R s m args below meth c H1 locs1 cells slots Q (F0 m (pc + 3) ls rest)) : W p l e R s m args below meth c H locs cells slots Q (F0 m pc ls (v :: .ref ad :: rest)) :=
  va_putF (D := D) (ci := 3) (v := v) (ty := .object "LoopRanker$Proof") (C := R_LoopRanker) (T := F_LoopRanker) (N := 6) X.1.1 X.1.2.1 X.1.2.2.2.2 hin_LoopRanker t_LoopRanker t_LoopRanker_ok n_LoopRanker X.1.2.2.2.1 X.2.1 hP hD hS q0 he rfl 1 (by decide) (X.1.2.2.2.2 _ (List.mem_append_right _ (List.mem_append_right _ (List.mem_append_right _ (List.mem_append_right _ (List.mem_append_right _ (List.mem_append_left _ (List.mem_of_getElem? (i := 5) rfl)))))))) (fun _ h9 => h9) rfl hin rfl (by decide +kernel) hn hf (Nat.le_of_ble_eq_true hl) hdg kk
theorem fp_LoopRanker_23 (X : wk_X p s m args meth c cc "LoopRanker" nL BW D cls tys nz A) (hP : va_P D cls ws0 H) (hD : va_D A ws0) (hS : va_S A s.heap H locs) (q0 : Nat) {fs : List Value} {v : Value} (he : ws0[q0]? = some (ad, .inr (3, fs))) (hn : narrow (.int) v = v) (hf : fits (.int) v = true) (hl : Nat.ble (2 + 1) fs.length = true) (hdg : decode cc pc = .ok (.putfield 23, 3)) (kk : ∀ (H1 : Heap) (locs1 : List Loc), va_P D cls (ws0.set q0 (ad, .inr (3, fs.set 2 v))) H1 → va_D A (ws0.set q0 (ad, .inr (3, fs.set 2 v))) → va_S A s.heap H1 locs1 → W p l e R s m args below meth c H1 locs1 cells slots Q (F0 m (pc + 3) ls rest)) : W p l e R s m args below meth c H locs cells slots Q (F0 m pc ls (v :: .ref ad :: rest)) :=
  va_put (D := D) (ci := 3) (v := v) (ty := .int) (C := R_LoopRanker) (T := F_LoopRanker) (N := 6) X.1.1 X.1.2.1 X.1.2.2.2.2 hin_LoopRanker t_LoopRanker t_LoopRanker_ok n_LoopRanker X.1.2.2.2.1 X.2.1 hP hD hS q0 he rfl 2 (by decide) (X.1.2.2.2.2 _ (List.mem_append_right _ (List.mem_append_right _ (List.mem_append_right _ (List.mem_append_right _ (List.mem_append_right _ (List.mem_append_left _ (List.mem_of_getElem? (i := 6) rfl)))))))) (fun _ h9 => h9) rfl (by decide +kernel) hn hf (Nat.le_of_ble_eq_true hl) hdg kk
theorem fp_LoopRanker_27 (X : wk_X p s m args meth c cc "LoopRanker" nL BW D cls tys nz A) (hP : va_P D cls ws0 H) (hD : va_D A ws0) (hS : va_S A s.heap H locs) (q0 : Nat) {fs : List Value} {v : Value} (he : ws0[q0]? = some (ad, .inr (3, fs))) (hn : narrow (.long) v = v) (hf : fits (.long) v = true) (hl : Nat.ble (3 + 1) fs.length = true) (hdg : decode cc pc = .ok (.putfield 27, 3)) (kk : ∀ (H1 : Heap) (locs1 : List Loc), va_P D cls (ws0.set q0 (ad, .inr (3, fs.set 3 v))) H1 → va_D A (ws0.set q0 (ad, .inr (3, fs.set 3 v))) → va_S A s.heap H1 locs1 → W p l e R s m args below meth c H1 locs1 cells slots Q (F0 m (pc + 3) ls rest)) : W p l e R s m args below meth c H locs cells slots Q (F0 m pc ls (v :: .ref ad :: rest)) :=
  va_put (D := D) (ci := 3) (v := v) (ty := .long) (C := R_LoopRanker) (T := F_LoopRanker) (N := 6) X.1.1 X.1.2.1 X.1.2.2.2.2 hin_LoopRanker t_LoopRanker t_LoopRanker_ok n_LoopRanker X.1.2.2.2.1 X.2.1 hP hD hS q0 he rfl 3 (by decide) (X.1.2.2.2.2 _ (List.mem_append_right _ (List.mem_append_right _ (List.mem_append_right _ (List.mem_append_right _ (List.mem_append_right _ (List.mem_append_left _ (List.mem_of_getElem? (i := 7) rfl)))))))) (fun _ h9 => h9) rfl (by decide +kernel) hn hf (Nat.le_of_ble_eq_true hl) hdg kk
theorem fp_LoopRanker_31 (X : wk_X p s m args meth c cc "LoopRanker" nL BW D cls tys nz A) (hP : va_P D cls ws0 H) (hD : va_D A ws0) (hS : va_S A s.heap H locs) (q0 : Nat) {fs : List Value} {v : Value} (he : ws0[q0]? = some (ad, .inr (3, fs))) (hn : narrow (.long) v = v) (hf : fits (.long) v = true) (hl : Nat.ble (4 + 1) fs.length = true) (hdg : decode cc pc = .ok (.putfield 31, 3)) (kk : ∀ (H1 : Heap) (locs1 : List Loc), va_P D cls (ws0.set q0 (ad, .inr (3, fs.set 4 v))) H1 → va_D A (ws0.set q0 (ad, .inr (3, fs.set 4 v))) → va_S A s.heap H1 locs1 → W p l e R s m args below meth c H1 locs1 cells slots Q (F0 m (pc + 3) ls rest)) : W p l e R s m args below meth c H locs cells slots Q (F0 m pc ls (v :: .ref ad :: rest)) :=
  va_put (D := D) (ci := 3) (v := v) (ty := .long) (C := R_LoopRanker) (T := F_LoopRanker) (N := 6) X.1.1 X.1.2.1 X.1.2.2.2.2 hin_LoopRanker t_LoopRanker t_LoopRanker_ok n_LoopRanker X.1.2.2.2.1 X.2.1 hP hD hS q0 he rfl 4 (by decide) (X.1.2.2.2.2 _ (List.mem_append_right _ (List.mem_append_right _ (List.mem_append_right _ (List.mem_append_right _ (List.mem_append_right _ (List.mem_append_left _ (List.mem_of_getElem? (i := 8) rfl)))))))) (fun _ h9 => h9) rfl (by decide +kernel) hn hf (Nat.le_of_ble_eq_true hl) hdg kk
theorem fp_LoopRanker_34 (X : wk_X p s m args meth c cc "LoopRanker" nL BW D cls tys nz A) (hP : va_P D cls ws0 H) (hD : va_D A ws0) (hS : va_S A s.heap H locs) (q0 : Nat) {fs : List Value} {v : Value} (he : ws0[q0]? = some (ad, .inr (3, fs))) (hn : narrow (.int) v = v) (hf : fits (.int) v = true) (hl : Nat.ble (5 + 1) fs.length = true) (hdg : decode cc pc = .ok (.putfield 34, 3)) (kk : ∀ (H1 : Heap) (locs1 : List Loc), va_P D cls (ws0.set q0 (ad, .inr (3, fs.set 5 v))) H1 → va_D A (ws0.set q0 (ad, .inr (3, fs.set 5 v))) → va_S A s.heap H1 locs1 → W p l e R s m args below meth c H1 locs1 cells slots Q (F0 m (pc + 3) ls rest)) : W p l e R s m args below meth c H locs cells slots Q (F0 m pc ls (v :: .ref ad :: rest)) :=
  va_put (D := D) (ci := 3) (v := v) (ty := .int) (C := R_LoopRanker) (T := F_LoopRanker) (N := 6) X.1.1 X.1.2.1 X.1.2.2.2.2 hin_LoopRanker t_LoopRanker t_LoopRanker_ok n_LoopRanker X.1.2.2.2.1 X.2.1 hP hD hS q0 he rfl 5 (by decide) (X.1.2.2.2.2 _ (List.mem_append_right _ (List.mem_append_right _ (List.mem_append_right _ (List.mem_append_right _ (List.mem_append_right _ (List.mem_append_left _ (List.mem_of_getElem? (i := 9) rfl)))))))) (fun _ h9 => h9) rfl (by decide +kernel) hn hf (Nat.le_of_ble_eq_true hl) hdg kk
theorem fg_LoopRanker_23 (X : wk_X p s m args meth c cc "LoopRanker" nL BW D cls tys nz A) (hP : va_P D cls ws0 H) (q0 : Nat) {fs : List Value} {v : Value} (he : ws0[q0]? = some (ad, .inr (3, fs))) (hv : fs[2]? = some v) (hdg : decode cc pc = .ok (.getfield 23, 3)) (kk : W p l e R s m args below meth c H locs cells slots Q (F0 m (pc + 3) ls (v :: rest))) : W p l e R s m args below meth c H locs cells slots Q (F0 m pc ls (.ref ad :: rest)) :=
  va_get (D := D) (ci := 3) (C := R_LoopRanker) (T := F_LoopRanker) (N := 6) X.1.1 X.1.2.1 X.1.2.2.2.2 hin_LoopRanker X.1.2.2.2.1 X.2.1 hP q0 he rfl 2 (by decide) (X.1.2.2.2.2 _ (List.mem_append_right _ (List.mem_append_right _ (List.mem_append_right _ (List.mem_append_right _ (List.mem_append_right _ (List.mem_append_left _ (List.mem_of_getElem? (i := 6) rfl)))))))) (fun _ h9 => h9) hv hdg kk
theorem cw_LoopRanker_37 (hT : ∀ w ∈ BW, w.before args s = true) (hZ : wk_Z nz s) (hR : rm_Step_reset.frames + 1 ≤ R.frames ∧ 8 + (1 + 11) + rm_Step_reset.locals ≤ R.locals) : (va_CN R s args "LoopRanker" 37 y_Step_reset "LoopRanker" b_Step_reset 1 none (Cond.code y_Step_reset b_Step_reset 1 none :: BW) rm_Step_reset 0 0 0) ∧ (Cond.instanceMethod y_Step_reset).before args s = true ∧ (Cond.selects "LoopRanker$Step" y_Step_reset y_Step_reset).before args s = true :=
  ⟨va_cnB 0 hT (BW_good kw_Step_reset) rfl rfl rfl (hZ _ (List.mem_of_getElem? (i := 17) rfl)) (hT _ (List.mem_append_left _ (List.mem_of_getElem? (i := 2) rfl))) ⟨by decide, by decide, by decide +kernel⟩ hR, (hT _ (List.mem_append_right _ (List.mem_append_right _ (List.mem_append_right _ (List.mem_append_right _ (List.mem_append_right _ (List.mem_append_right _ (List.mem_append_left _ (List.mem_of_getElem? (i := 7) rfl))))))))), (hT _ (List.mem_append_right _ (List.mem_append_right _ (List.mem_append_right _ (List.mem_append_right _ (List.mem_append_right _ (List.mem_append_right _ (List.mem_append_right _ (List.mem_append_right _ (List.mem_append_right _ (List.mem_append_right _ (List.mem_append_right _ (List.mem_append_right _ (List.mem_append_right _ (List.mem_append_right _ (List.mem_append_right _ (List.mem_append_right _ (List.mem_append_right _ (List.mem_append_right _ (List.mem_append_right _ (List.mem_append_right _ (List.mem_append_right _ (List.mem_append_right _ (List.mem_append_right _ (List.mem_append_left _ (List.mem_of_getElem? (i := 17) rfl))))))))))))))))))))))))))⟩
theorem fg_LoopRanker_19 (X : wk_X p s m args meth c cc "LoopRanker" nL BW D cls tys nz A) (hP : va_P D cls ws0 H) (q0 : Nat) {fs : List Value} {v : Value} (he : ws0[q0]? = some (ad, .inr (3, fs))) (hv : fs[1]? = some v) (hdg : decode cc pc = .ok (.getfield 19, 3)) (kk : W p l e R s m args below meth c H locs cells slots Q (F0 m (pc + 3) ls (v :: rest))) : W p l e R s m args below meth c H locs cells slots Q (F0 m pc ls (.ref ad :: rest)) :=
  va_get (D := D) (ci := 3) (C := R_LoopRanker) (T := F_LoopRanker) (N := 6) X.1.1 X.1.2.1 X.1.2.2.2.2 hin_LoopRanker X.1.2.2.2.1 X.2.1 hP q0 he rfl 1 (by decide) (X.1.2.2.2.2 _ (List.mem_append_right _ (List.mem_append_right _ (List.mem_append_right _ (List.mem_append_right _ (List.mem_append_right _ (List.mem_append_left _ (List.mem_of_getElem? (i := 5) rfl)))))))) (fun _ h9 => h9) hv hdg kk
theorem fp_LoopRanker_40 (X : wk_X p s m args meth c cc "LoopRanker" nL BW D cls tys nz A) (hP : va_P D cls ws0 H) (hD : va_D A ws0) (hS : va_S A s.heap H locs) (q0 : Nat) {fs : List Value} {v : Value} (he : ws0[q0]? = some (ad, .inr (2, fs))) (hn : narrow (.boolean) v = v) (hf : fits (.boolean) v = true) (hl : Nat.ble (8 + 1) fs.length = true) (hdg : decode cc pc = .ok (.putfield 40, 3)) (kk : ∀ (H1 : Heap) (locs1 : List Loc), va_P D cls (ws0.set q0 (ad, .inr (2, fs.set 8 v))) H1 → va_D A (ws0.set q0 (ad, .inr (2, fs.set 8 v))) → va_S A s.heap H1 locs1 → W p l e R s m args below meth c H1 locs1 cells slots Q (F0 m (pc + 3) ls rest)) : W p l e R s m args below meth c H locs cells slots Q (F0 m pc ls (v :: .ref ad :: rest)) :=
  va_putN (D := D) (ci := 2) (v := v) (ty := .boolean) (C := R_Proof) (T := F_Proof) (N := 9) X.1.1 X.1.2.1 X.1.2.2.2.2 hin_Proof t_Proof t_Proof_ok n_Proof X.1.2.2.2.1 X.2.1 hP hD hS q0 he rfl 8 (by decide) (va_Nw.use rfl (X.2.2.1 _ (List.mem_of_getElem? (i := 16) rfl))) (fun _ h9 => h9) rfl (by decide +kernel) hn hf (Nat.le_of_ble_eq_true hl) hdg kk
theorem cw_LoopRanker_44 (hT : ∀ w ∈ BW, w.before args s = true) (hZ : wk_Z nz s) (hR : rm_LoopRanker_isStep.frames + 1 ≤ R.frames ∧ 8 + (2 + 11) + rm_LoopRanker_isStep.locals ≤ R.locals) : (CallB R s args "LoopRanker" 44 y_LoopRanker_isStep b_LoopRanker_isStep 2 (some .boolean) (Cond.code y_LoopRanker_isStep b_LoopRanker_isStep 2 (some .boolean) :: BW) rm_LoopRanker_isStep 0 0 1) ∧ (Cond.instanceMethod y_LoopRanker_isStep).before args s = true ∧ (Cond.selects "LoopRanker" y_LoopRanker_isStep y_LoopRanker_isStep).before args s = true :=
  ⟨callB_of 1 hT (BW_good kw_LoopRanker_isStep) rfl rfl rfl (hT _ (List.mem_append_left _ (List.mem_of_getElem? (i := 1) rfl))) (hT _ (List.mem_append_right _ (List.mem_append_right _ (List.mem_append_right _ (List.mem_append_right _ (List.mem_append_right _ (List.mem_append_right _ (List.mem_append_left _ (List.mem_of_getElem? (i := 16) rfl))))))))) ⟨by decide, by decide, by decide +kernel⟩ hR, (hT _ (List.mem_append_right _ (List.mem_append_right _ (List.mem_append_right _ (List.mem_append_right _ (List.mem_append_right _ (List.mem_append_right _ (List.mem_append_left _ (List.mem_of_getElem? (i := 17) rfl))))))))), (hT _ (List.mem_append_right _ (List.mem_append_right _ (List.mem_append_right _ (List.mem_append_right _ (List.mem_append_right _ (List.mem_append_right _ (List.mem_append_right _ (List.mem_append_right _ (List.mem_append_right _ (List.mem_append_right _ (List.mem_append_right _ (List.mem_append_right _ (List.mem_append_right _ (List.mem_append_right _ (List.mem_append_right _ (List.mem_append_right _ (List.mem_append_right _ (List.mem_append_right _ (List.mem_append_right _ (List.mem_append_right _ (List.mem_append_right _ (List.mem_append_right _ (List.mem_append_right _ (List.mem_append_left _ (List.mem_of_getElem? (i := 19) rfl))))))))))))))))))))))))))⟩
theorem kc_LoopRanker_48 : Jvm.Cond.constantLong "LoopRanker" 48 (9) ∈ BW := (List.mem_append_right _ (List.mem_append_right _ (List.mem_append_right _ (List.mem_append_right _ (List.mem_append_right _ (List.mem_append_right _ (List.mem_append_left _ (List.mem_of_getElem? (i := 19) rfl))))))))
theorem cw_LoopRanker_50 (hT : ∀ w ∈ BW, w.before args s = true) (hZ : wk_Z nz s) (hR : rm_LoopRanker_isWithin.frames + 1 ≤ R.frames ∧ 8 + (4 + 11) + rm_LoopRanker_isWithin.locals ≤ R.locals) : (CallB R s args "LoopRanker" 50 y_LoopRanker_isWithin b_LoopRanker_isWithin 4 (some .boolean) (Cond.code y_LoopRanker_isWithin b_LoopRanker_isWithin 4 (some .boolean) :: BW) rm_LoopRanker_isWithin 0 0 2) ∧ (Cond.static y_LoopRanker_isWithin).before args s = true :=
  ⟨callB_of 2 hT (BW_good kw_LoopRanker_isWithin) rfl rfl rfl (hT _ (List.mem_append_left _ (List.mem_of_getElem? (i := 1) rfl))) (hT _ (List.mem_append_right _ (List.mem_append_right _ (List.mem_append_right _ (List.mem_append_right _ (List.mem_append_right _ (List.mem_append_right _ (List.mem_append_right _ (List.mem_append_left _ (List.mem_of_getElem? (i := 0) rfl)))))))))) ⟨by decide, by decide, by decide +kernel⟩ hR, (hT _ (List.mem_append_right _ (List.mem_append_right _ (List.mem_append_right _ (List.mem_append_right _ (List.mem_append_right _ (List.mem_append_right _ (List.mem_append_right _ (List.mem_append_left _ (List.mem_of_getElem? (i := 1) rfl))))))))))⟩
theorem kc_LoopRanker_54 : Jvm.Cond.constantLong "LoopRanker" 54 (99) ∈ BW := (List.mem_append_right _ (List.mem_append_right _ (List.mem_append_right _ (List.mem_append_right _ (List.mem_append_right _ (List.mem_append_right _ (List.mem_append_right _ (List.mem_append_left _ (List.mem_of_getElem? (i := 3) rfl)))))))))
theorem fg_LoopRanker_56 (X : wk_X p s m args meth c cc "LoopRanker" nL BW D cls tys nz A) (hP : va_P D cls ws0 H) (q0 : Nat) {fs : List Value} {v : Value} (he : ws0[q0]? = some (ad, .inr (1, fs))) (hv : fs[0]? = some v) (hdg : decode cc pc = .ok (.getfield 56, 3)) (kk : W p l e R s m args below meth c H locs cells slots Q (F0 m (pc + 3) ls (v :: rest))) : W p l e R s m args below meth c H locs cells slots Q (F0 m pc ls (.ref ad :: rest)) :=
  va_getN (D := D) (ci := 1) (C := R_Step) (T := F_Step) (N := 4) X.1.1 X.1.2.1 X.1.2.2.2.2 hin_Step X.1.2.2.2.1 X.2.1 hP q0 he rfl 0 (by decide) (va_Nw.use rfl (X.2.2.1 _ (List.mem_of_getElem? (i := 6) rfl))) (fun _ h9 => h9) hv hdg kk
theorem fg_LoopRanker_60 (X : wk_X p s m args meth c cc "LoopRanker" nL BW D cls tys nz A) (hP : va_P D cls ws0 H) (q0 : Nat) {fs : List Value} {v : Value} (he : ws0[q0]? = some (ad, .inr (0, fs))) (hv : fs[3]? = some v) (hdg : decode cc pc = .ok (.getfield 60, 3)) (kk : W p l e R s m args below meth c H locs cells slots Q (F0 m (pc + 3) ls (v :: rest))) : W p l e R s m args below meth c H locs cells slots Q (F0 m pc ls (.ref ad :: rest)) :=
  va_getN (D := D) (ci := 0) (C := R_Guard) (T := F_Guard) (N := 7) X.1.1 X.1.2.1 X.1.2.2.2.2 hin_Guard X.1.2.2.2.1 X.2.1 hP q0 he rfl 3 (by decide) (va_Nw.use rfl (X.2.2.1 _ (List.mem_of_getElem? (i := 2) rfl))) (fun _ h9 => h9) hv hdg kk
theorem cw_LoopRanker_65 (hT : ∀ w ∈ BW, w.before args s = true) (hZ : wk_Z nz s) (hR : rm_Step_addRow.frames + 1 ≤ R.frames ∧ 8 + (4 + 11) + rm_Step_addRow.locals ≤ R.locals) : (va_CN R s args "LoopRanker" 65 y_Step_addRow "LoopRanker" b_Step_addRow 4 none (Cond.code y_Step_addRow b_Step_addRow 4 none :: BW) rm_Step_addRow 0 0 3) ∧ (Cond.instanceMethod y_Step_addRow).before args s = true ∧ (Cond.selects "LoopRanker$Step" y_Step_addRow y_Step_addRow).before args s = true :=
  ⟨va_cnB 3 hT (BW_good kw_Step_addRow) rfl rfl rfl (hZ _ (List.mem_of_getElem? (i := 19) rfl)) (hT _ (List.mem_append_left _ (List.mem_of_getElem? (i := 2) rfl))) ⟨by decide, by decide, by decide +kernel⟩ hR, (hT _ (List.mem_append_right _ (List.mem_append_right _ (List.mem_append_right _ (List.mem_append_right _ (List.mem_append_right _ (List.mem_append_right _ (List.mem_append_right _ (List.mem_append_left _ (List.mem_of_getElem? (i := 4) rfl)))))))))), (hT _ (List.mem_append_right _ (List.mem_append_right _ (List.mem_append_right _ (List.mem_append_right _ (List.mem_append_right _ (List.mem_append_right _ (List.mem_append_right _ (List.mem_append_right _ (List.mem_append_right _ (List.mem_append_right _ (List.mem_append_right _ (List.mem_append_right _ (List.mem_append_right _ (List.mem_append_right _ (List.mem_append_right _ (List.mem_append_right _ (List.mem_append_right _ (List.mem_append_right _ (List.mem_append_right _ (List.mem_append_right _ (List.mem_append_right _ (List.mem_append_right _ (List.mem_append_right _ (List.mem_append_right _ (List.mem_append_left _ (List.mem_of_getElem? (i := 0) rfl)))))))))))))))))))))))))))⟩
theorem cw_LoopRanker_69 (hT : ∀ w ∈ BW, w.before args s = true) (hZ : wk_Z nz s) (hR : rm_LoopRanker_isVariable.frames + 1 ≤ R.frames ∧ 8 + (1 + 11) + rm_LoopRanker_isVariable.locals ≤ R.locals) : (CallB R s args "LoopRanker" 69 y_LoopRanker_isVariable b_LoopRanker_isVariable 1 (some .boolean) (Cond.code y_LoopRanker_isVariable b_LoopRanker_isVariable 1 (some .boolean) :: BW) rm_LoopRanker_isVariable 0 0 1) ∧ (Cond.static y_LoopRanker_isVariable).before args s = true :=
  ⟨callB_of 1 hT (BW_good kw_LoopRanker_isVariable) rfl rfl rfl (hT _ (List.mem_append_left _ (List.mem_of_getElem? (i := 1) rfl))) (hT _ (List.mem_append_right _ (List.mem_append_right _ (List.mem_append_right _ (List.mem_append_right _ (List.mem_append_right _ (List.mem_append_right _ (List.mem_append_right _ (List.mem_append_right _ (List.mem_append_left _ (List.mem_of_getElem? (i := 9) rfl))))))))))) ⟨by decide, by decide, by decide +kernel⟩ hR, (hT _ (List.mem_append_right _ (List.mem_append_right _ (List.mem_append_right _ (List.mem_append_right _ (List.mem_append_right _ (List.mem_append_right _ (List.mem_append_right _ (List.mem_append_right _ (List.mem_append_left _ (List.mem_of_getElem? (i := 10) rfl)))))))))))⟩
theorem kc_LoopRanker_72 : Jvm.Cond.constantLong "LoopRanker" 72 (3) ∈ BW := (List.mem_append_right _ (List.mem_append_right _ (List.mem_append_right _ (List.mem_append_right _ (List.mem_append_right _ (List.mem_append_right _ (List.mem_append_right _ (List.mem_append_right _ (List.mem_append_left _ (List.mem_of_getElem? (i := 12) rfl))))))))))
theorem kc_LoopRanker_74 : Jvm.Cond.constantLong "LoopRanker" 74 (20) ∈ BW := (List.mem_append_right _ (List.mem_append_right _ (List.mem_append_right _ (List.mem_append_right _ (List.mem_append_right _ (List.mem_append_right _ (List.mem_append_right _ (List.mem_append_right _ (List.mem_append_left _ (List.mem_of_getElem? (i := 13) rfl))))))))))
theorem cw_LoopRanker_76 (hT : ∀ w ∈ BW, w.before args s = true) (hZ : wk_Z nz s) (hR : rm_Step_setRule.frames + 1 ≤ R.frames ∧ 8 + (6 + 11) + rm_Step_setRule.locals ≤ R.locals) : (va_CN R s args "LoopRanker" 76 y_Step_setRule "LoopRanker" b_Step_setRule 6 none (Cond.code y_Step_setRule b_Step_setRule 6 none :: BW) rm_Step_setRule 0 0 4) ∧ (Cond.instanceMethod y_Step_setRule).before args s = true ∧ (Cond.selects "LoopRanker$Step" y_Step_setRule y_Step_setRule).before args s = true :=
  ⟨va_cnB 4 hT (BW_good kw_Step_setRule) rfl rfl rfl (hZ _ (List.mem_of_getElem? (i := 21) rfl)) (hT _ (List.mem_append_left _ (List.mem_of_getElem? (i := 2) rfl))) ⟨by decide, by decide, by decide +kernel⟩ hR, (hT _ (List.mem_append_right _ (List.mem_append_right _ (List.mem_append_right _ (List.mem_append_right _ (List.mem_append_right _ (List.mem_append_right _ (List.mem_append_left _ (List.mem_of_getElem? (i := 10) rfl))))))))), (hT _ (List.mem_append_right _ (List.mem_append_right _ (List.mem_append_right _ (List.mem_append_right _ (List.mem_append_right _ (List.mem_append_right _ (List.mem_append_right _ (List.mem_append_right _ (List.mem_append_right _ (List.mem_append_right _ (List.mem_append_right _ (List.mem_append_right _ (List.mem_append_right _ (List.mem_append_right _ (List.mem_append_right _ (List.mem_append_right _ (List.mem_append_right _ (List.mem_append_right _ (List.mem_append_right _ (List.mem_append_right _ (List.mem_append_right _ (List.mem_append_right _ (List.mem_append_right _ (List.mem_append_left _ (List.mem_of_getElem? (i := 18) rfl))))))))))))))))))))))))))⟩
theorem kc_LoopRanker_80 : Jvm.Cond.constantLong "LoopRanker" 80 (60) ∈ BW := (List.mem_append_right _ (List.mem_append_right _ (List.mem_append_right _ (List.mem_append_right _ (List.mem_append_right _ (List.mem_append_right _ (List.mem_append_right _ (List.mem_append_right _ (List.mem_append_right _ (List.mem_append_left _ (List.mem_of_getElem? (i := 6) rfl)))))))))))
theorem kc_LoopRanker_82 : Jvm.Cond.constantLong "LoopRanker" 82 (4611686018427387904) ∈ BW := (List.mem_append_right _ (List.mem_append_right _ (List.mem_append_right _ (List.mem_append_right _ (List.mem_append_right _ (List.mem_append_right _ (List.mem_append_right _ (List.mem_append_right _ (List.mem_append_right _ (List.mem_append_left _ (List.mem_of_getElem? (i := 7) rfl)))))))))))
theorem fg_LoopRanker_84 (X : wk_X p s m args meth c cc "LoopRanker" nL BW D cls tys nz A) (hP : va_P D cls ws0 H) (q0 : Nat) {fs : List Value} {v : Value} (he : ws0[q0]? = some (ad, .inr (0, fs))) (hv : fs[4]? = some v) (hdg : decode cc pc = .ok (.getfield 84, 3)) (kk : W p l e R s m args below meth c H locs cells slots Q (F0 m (pc + 3) ls (v :: rest))) : W p l e R s m args below meth c H locs cells slots Q (F0 m pc ls (.ref ad :: rest)) :=
  va_getN (D := D) (ci := 0) (C := R_Guard) (T := F_Guard) (N := 7) X.1.1 X.1.2.1 X.1.2.2.2.2 hin_Guard X.1.2.2.2.1 X.2.1 hP q0 he rfl 4 (by decide) (va_Nw.use rfl (X.2.2.1 _ (List.mem_of_getElem? (i := 4) rfl))) (fun _ h9 => h9) hv hdg kk
theorem kc_LoopRanker_87 : Jvm.Cond.constantLong "LoopRanker" 87 (-4611686018427387904) ∈ BW := (List.mem_append_right _ (List.mem_append_right _ (List.mem_append_right _ (List.mem_append_right _ (List.mem_append_right _ (List.mem_append_right _ (List.mem_append_right _ (List.mem_append_right _ (List.mem_append_right _ (List.mem_append_left _ (List.mem_of_getElem? (i := 8) rfl)))))))))))
theorem cw_LoopRanker_89 (hT : ∀ w ∈ BW, w.before args s = true) (hZ : wk_Z nz s) (hR : rm_Guard_maximise.frames + 1 ≤ R.frames ∧ 8 + (5 + 11) + rm_Guard_maximise.locals ≤ R.locals) : (va_CN R s args "LoopRanker" 89 y_Guard_maximise "LoopRanker" b_Guard_maximise 5 none (Cond.code y_Guard_maximise b_Guard_maximise 5 none :: BW) rm_Guard_maximise 0 0 2) ∧ (Cond.instanceMethod y_Guard_maximise).before args s = true ∧ (Cond.selects "LoopRanker$Guard" y_Guard_maximise y_Guard_maximise).before args s = true :=
  ⟨va_cnB 2 hT (BW_good kw_Guard_maximise) rfl rfl rfl (hZ _ (List.mem_of_getElem? (i := 22) rfl)) (hT _ (List.mem_append_left _ (List.mem_of_getElem? (i := 3) rfl))) ⟨by decide, by decide, by decide +kernel⟩ hR, (hT _ (List.mem_append_right _ (List.mem_append_right _ (List.mem_append_right _ (List.mem_append_right _ (List.mem_append_right _ (List.mem_append_right _ (List.mem_append_right _ (List.mem_append_left _ (List.mem_of_getElem? (i := 9) rfl)))))))))), (hT _ (List.mem_append_right _ (List.mem_append_right _ (List.mem_append_right _ (List.mem_append_right _ (List.mem_append_right _ (List.mem_append_right _ (List.mem_append_right _ (List.mem_append_right _ (List.mem_append_right _ (List.mem_append_right _ (List.mem_append_right _ (List.mem_append_right _ (List.mem_append_right _ (List.mem_append_right _ (List.mem_append_right _ (List.mem_append_right _ (List.mem_append_right _ (List.mem_append_right _ (List.mem_append_right _ (List.mem_append_right _ (List.mem_append_right _ (List.mem_append_right _ (List.mem_append_right _ (List.mem_append_right _ (List.mem_append_left _ (List.mem_of_getElem? (i := 2) rfl)))))))))))))))))))))))))))⟩
theorem cw_LoopRanker_93 (hT : ∀ w ∈ BW, w.before args s = true) (hZ : wk_Z nz s) (hR : rm_Guard_maximumRoundedDown.frames + 1 ≤ R.frames ∧ 8 + (1 + 11) + rm_Guard_maximumRoundedDown.locals ≤ R.locals) : (va_CN R s args "LoopRanker" 93 y_Guard_maximumRoundedDown "LoopRanker" b_Guard_maximumRoundedDown 1 (some .long) (Cond.code y_Guard_maximumRoundedDown b_Guard_maximumRoundedDown 1 (some .long) :: BW) rm_Guard_maximumRoundedDown 0 0 0) ∧ (Cond.instanceMethod y_Guard_maximumRoundedDown).before args s = true ∧ (Cond.selects "LoopRanker$Guard" y_Guard_maximumRoundedDown y_Guard_maximumRoundedDown).before args s = true :=
  ⟨va_cnB 0 hT (BW_good kw_Guard_maximumRoundedDown) rfl rfl rfl (hZ _ (List.mem_of_getElem? (i := 23) rfl)) (hT _ (List.mem_append_left _ (List.mem_of_getElem? (i := 3) rfl))) ⟨by decide, by decide, by decide +kernel⟩ hR, (hT _ (List.mem_append_right _ (List.mem_append_right _ (List.mem_append_right _ (List.mem_append_right _ (List.mem_append_right _ (List.mem_append_right _ (List.mem_append_right _ (List.mem_append_right _ (List.mem_append_right _ (List.mem_append_left _ (List.mem_of_getElem? (i := 9) rfl)))))))))))), (hT _ (List.mem_append_right _ (List.mem_append_right _ (List.mem_append_right _ (List.mem_append_right _ (List.mem_append_right _ (List.mem_append_right _ (List.mem_append_right _ (List.mem_append_right _ (List.mem_append_right _ (List.mem_append_right _ (List.mem_append_right _ (List.mem_append_right _ (List.mem_append_right _ (List.mem_append_right _ (List.mem_append_right _ (List.mem_append_right _ (List.mem_append_right _ (List.mem_append_right _ (List.mem_append_right _ (List.mem_append_right _ (List.mem_append_right _ (List.mem_append_right _ (List.mem_append_right _ (List.mem_append_right _ (List.mem_append_left _ (List.mem_of_getElem? (i := 6) rfl)))))))))))))))))))))))))))⟩
theorem kc_LoopRanker_97 : Jvm.Cond.constantLong "LoopRanker" 97 (4) ∈ BW := (List.mem_append_right _ (List.mem_append_right _ (List.mem_append_right _ (List.mem_append_right _ (List.mem_append_right _ (List.mem_append_right _ (List.mem_append_right _ (List.mem_append_right _ (List.mem_append_right _ (List.mem_append_left _ (List.mem_of_getElem? (i := 19) rfl)))))))))))
theorem cw_LoopRanker_99 (hT : ∀ w ∈ BW, w.before args s = true) (hZ : wk_Z nz s) (hR : rm_Step_changesByAtMost.frames + 1 ≤ R.frames ∧ 8 + (4 + 11) + rm_Step_changesByAtMost.locals ≤ R.locals) : (va_CN R s args "LoopRanker" 99 y_Step_changesByAtMost "LoopRanker" b_Step_changesByAtMost 4 (some .boolean) (Cond.code y_Step_changesByAtMost b_Step_changesByAtMost 4 (some .boolean) :: BW) rm_Step_changesByAtMost 0 0 3) ∧ (Cond.instanceMethod y_Step_changesByAtMost).before args s = true ∧ (Cond.selects "LoopRanker$Step" y_Step_changesByAtMost y_Step_changesByAtMost).before args s = true :=
  ⟨va_cnB 3 hT (BW_good kw_Step_changesByAtMost) rfl rfl rfl (hZ _ (List.mem_of_getElem? (i := 24) rfl)) (hT _ (List.mem_append_left _ (List.mem_of_getElem? (i := 2) rfl))) ⟨by decide, by decide, by decide +kernel⟩ hR, (hT _ (List.mem_append_right _ (List.mem_append_right _ (List.mem_append_right _ (List.mem_append_right _ (List.mem_append_right _ (List.mem_append_right _ (List.mem_append_right _ (List.mem_append_right _ (List.mem_append_right _ (List.mem_append_right _ (List.mem_append_left _ (List.mem_of_getElem? (i := 0) rfl))))))))))))), (hT _ (List.mem_append_right _ (List.mem_append_right _ (List.mem_append_right _ (List.mem_append_right _ (List.mem_append_right _ (List.mem_append_right _ (List.mem_append_right _ (List.mem_append_right _ (List.mem_append_right _ (List.mem_append_right _ (List.mem_append_right _ (List.mem_append_right _ (List.mem_append_right _ (List.mem_append_right _ (List.mem_append_right _ (List.mem_append_right _ (List.mem_append_right _ (List.mem_append_right _ (List.mem_append_right _ (List.mem_append_right _ (List.mem_append_right _ (List.mem_append_right _ (List.mem_append_right _ (List.mem_append_right _ (List.mem_append_left _ (List.mem_of_getElem? (i := 7) rfl)))))))))))))))))))))))))))⟩
theorem cw_LoopRanker_103 (hT : ∀ w ∈ BW, w.before args s = true) (hZ : wk_Z nz s) (hR : rm_Step_isBounded.frames + 1 ≤ R.frames ∧ 8 + (3 + 11) + rm_Step_isBounded.locals ≤ R.locals) : (va_CN R s args "LoopRanker" 103 y_Step_isBounded "LoopRanker" b_Step_isBounded 3 (some .boolean) (Cond.code y_Step_isBounded b_Step_isBounded 3 (some .boolean) :: BW) rm_Step_isBounded 0 0 2) ∧ (Cond.instanceMethod y_Step_isBounded).before args s = true ∧ (Cond.selects "LoopRanker$Step" y_Step_isBounded y_Step_isBounded).before args s = true :=
  ⟨va_cnB 2 hT (BW_good kw_Step_isBounded) rfl rfl rfl (hZ _ (List.mem_of_getElem? (i := 27) rfl)) (hT _ (List.mem_append_left _ (List.mem_of_getElem? (i := 2) rfl))) ⟨by decide, by decide, by decide +kernel⟩ hR, (hT _ (List.mem_append_right _ (List.mem_append_right _ (List.mem_append_right _ (List.mem_append_right _ (List.mem_append_right _ (List.mem_append_right _ (List.mem_append_right _ (List.mem_append_right _ (List.mem_append_right _ (List.mem_append_right _ (List.mem_append_left _ (List.mem_of_getElem? (i := 4) rfl))))))))))))), (hT _ (List.mem_append_right _ (List.mem_append_right _ (List.mem_append_right _ (List.mem_append_right _ (List.mem_append_right _ (List.mem_append_right _ (List.mem_append_right _ (List.mem_append_right _ (List.mem_append_right _ (List.mem_append_right _ (List.mem_append_right _ (List.mem_append_right _ (List.mem_append_right _ (List.mem_append_right _ (List.mem_append_right _ (List.mem_append_right _ (List.mem_append_right _ (List.mem_append_right _ (List.mem_append_right _ (List.mem_append_right _ (List.mem_append_right _ (List.mem_append_right _ (List.mem_append_right _ (List.mem_append_right _ (List.mem_append_left _ (List.mem_of_getElem? (i := 9) rfl)))))))))))))))))))))))))))⟩
theorem cw_LoopRanker_107 (hT : ∀ w ∈ BW, w.before args s = true) (hZ : wk_Z nz s) (hR : rm_Proof_renew.frames + 1 ≤ R.frames ∧ 8 + (5 + 11) + rm_Proof_renew.locals ≤ R.locals) : (va_CN R s args "LoopRanker" 107 y_Proof_renew "LoopRanker" b_Proof_renew 5 none (Cond.code y_Proof_renew b_Proof_renew 5 none :: BW) rm_Proof_renew 0 0 2) ∧ (Cond.instanceMethod y_Proof_renew).before args s = true ∧ (Cond.selects "LoopRanker$Proof" y_Proof_renew y_Proof_renew).before args s = true :=
  ⟨va_cnB 2 hT (BW_good kw_Proof_renew) rfl rfl rfl (hZ _ (List.mem_of_getElem? (i := 29) rfl)) (hT _ (List.mem_append_left _ (List.mem_of_getElem? (i := 4) rfl))) ⟨by decide, by decide, by decide +kernel⟩ hR, (hT _ (List.mem_append_right _ (List.mem_append_right _ (List.mem_append_right _ (List.mem_append_right _ (List.mem_append_right _ (List.mem_append_right _ (List.mem_append_right _ (List.mem_append_right _ (List.mem_append_right _ (List.mem_append_right _ (List.mem_append_left _ (List.mem_of_getElem? (i := 12) rfl))))))))))))), (hT _ (List.mem_append_right _ (List.mem_append_right _ (List.mem_append_right _ (List.mem_append_right _ (List.mem_append_right _ (List.mem_append_right _ (List.mem_append_right _ (List.mem_append_right _ (List.mem_append_right _ (List.mem_append_right _ (List.mem_append_right _ (List.mem_append_right _ (List.mem_append_right _ (List.mem_append_right _ (List.mem_append_right _ (List.mem_append_right _ (List.mem_append_right _ (List.mem_append_right _ (List.mem_append_right _ (List.mem_append_right _ (List.mem_append_right _ (List.mem_append_right _ (List.mem_append_right _ (List.mem_append_right _ (List.mem_append_left _ (List.mem_of_getElem? (i := 11) rfl)))))))))))))))))))))))))))⟩
theorem fg_LoopRanker_111 (X : wk_X p s m args meth c cc "LoopRanker" nL BW D cls tys nz A) (hP : va_P D cls ws0 H) (q0 : Nat) {fs : List Value} {v : Value} (he : ws0[q0]? = some (ad, .inr (2, fs))) (hv : fs[6]? = some v) (hdg : decode cc pc = .ok (.getfield 111, 3)) (kk : W p l e R s m args below meth c H locs cells slots Q (F0 m (pc + 3) ls (v :: rest))) : W p l e R s m args below meth c H locs cells slots Q (F0 m pc ls (.ref ad :: rest)) :=
  va_getN (D := D) (ci := 2) (C := R_Proof) (T := F_Proof) (N := 9) X.1.1 X.1.2.1 X.1.2.2.2.2 hin_Proof X.1.2.2.2.1 X.2.1 hP q0 he rfl 6 (by decide) (va_Nw.use rfl (X.2.2.1 _ (List.mem_of_getElem? (i := 14) rfl))) (fun _ h9 => h9) hv hdg kk
theorem fg_LoopRanker_114 (X : wk_X p s m args meth c cc "LoopRanker" nL BW D cls tys nz A) (hP : va_P D cls ws0 H) (q0 : Nat) {fs : List Value} {v : Value} (he : ws0[q0]? = some (ad, .inr (2, fs))) (hv : fs[7]? = some v) (hdg : decode cc pc = .ok (.getfield 114, 3)) (kk : W p l e R s m args below meth c H locs cells slots Q (F0 m (pc + 3) ls (v :: rest))) : W p l e R s m args below meth c H locs cells slots Q (F0 m pc ls (.ref ad :: rest)) :=
  va_getN (D := D) (ci := 2) (C := R_Proof) (T := F_Proof) (N := 9) X.1.1 X.1.2.1 X.1.2.2.2.2 hin_Proof X.1.2.2.2.1 X.2.1 hP q0 he rfl 7 (by decide) (va_Nw.use rfl (X.2.2.1 _ (List.mem_of_getElem? (i := 15) rfl))) (fun _ h9 => h9) hv hdg kk
theorem fg_LoopRanker_117 (X : wk_X p s m args meth c cc "LoopRanker" nL BW D cls tys nz A) (hP : va_P D cls ws0 H) (q0 : Nat) {fs : List Value} {v : Value} (he : ws0[q0]? = some (ad, .inr (2, fs))) (hv : fs[5]? = some v) (hdg : decode cc pc = .ok (.getfield 117, 3)) (kk : W p l e R s m args below meth c H locs cells slots Q (F0 m (pc + 3) ls (v :: rest))) : W p l e R s m args below meth c H locs cells slots Q (F0 m pc ls (.ref ad :: rest)) :=
  va_getN (D := D) (ci := 2) (C := R_Proof) (T := F_Proof) (N := 9) X.1.1 X.1.2.1 X.1.2.2.2.2 hin_Proof X.1.2.2.2.1 X.2.1 hP q0 he rfl 5 (by decide) (va_Nw.use rfl (X.2.2.1 _ (List.mem_of_getElem? (i := 13) rfl))) (fun _ h9 => h9) hv hdg kk
theorem cw_LoopRanker_121 (hT : ∀ w ∈ BW, w.before args s = true) (hZ : wk_Z nz s) (hR : rm_Proof_hasLevel.frames + 1 ≤ R.frames ∧ 8 + (2 + 11) + rm_Proof_hasLevel.locals ≤ R.locals) : (va_CN R s args "LoopRanker" 121 y_Proof_hasLevel "LoopRanker" b_Proof_hasLevel 2 (some .boolean) (Cond.code y_Proof_hasLevel b_Proof_hasLevel 2 (some .boolean) :: BW) rm_Proof_hasLevel 0 0 1) ∧ (Cond.instanceMethod y_Proof_hasLevel).before args s = true ∧ (Cond.selects "LoopRanker$Proof" y_Proof_hasLevel y_Proof_hasLevel).before args s = true :=
  ⟨va_cnB 1 hT (BW_good kw_Proof_hasLevel) rfl rfl rfl (hZ _ (List.mem_of_getElem? (i := 33) rfl)) (hT _ (List.mem_append_left _ (List.mem_of_getElem? (i := 4) rfl))) ⟨by decide, by decide, by decide +kernel⟩ hR, (hT _ (List.mem_append_right _ (List.mem_append_right _ (List.mem_append_right _ (List.mem_append_right _ (List.mem_append_right _ (List.mem_append_right _ (List.mem_append_right _ (List.mem_append_right _ (List.mem_append_right _ (List.mem_append_right _ (List.mem_append_right _ (List.mem_append_right _ (List.mem_append_left _ (List.mem_of_getElem? (i := 3) rfl))))))))))))))), (hT _ (List.mem_append_right _ (List.mem_append_right _ (List.mem_append_right _ (List.mem_append_right _ (List.mem_append_right _ (List.mem_append_right _ (List.mem_append_right _ (List.mem_append_right _ (List.mem_append_right _ (List.mem_append_right _ (List.mem_append_right _ (List.mem_append_right _ (List.mem_append_right _ (List.mem_append_right _ (List.mem_append_right _ (List.mem_append_right _ (List.mem_append_right _ (List.mem_append_right _ (List.mem_append_right _ (List.mem_append_right _ (List.mem_append_right _ (List.mem_append_right _ (List.mem_append_right _ (List.mem_append_right _ (List.mem_append_left _ (List.mem_of_getElem? (i := 16) rfl)))))))))))))))))))))))))))⟩
theorem fg_LoopRanker_124 (X : wk_X p s m args meth c cc "LoopRanker" nL BW D cls tys nz A) (hP : va_P D cls ws0 H) (q0 : Nat) {fs : List Value} {v : Value} (he : ws0[q0]? = some (ad, .inr (2, fs))) (hv : fs[2]? = some v) (hdg : decode cc pc = .ok (.getfield 124, 3)) (kk : W p l e R s m args below meth c H locs cells slots Q (F0 m (pc + 3) ls (v :: rest))) : W p l e R s m args below meth c H locs cells slots Q (F0 m pc ls (.ref ad :: rest)) :=
  va_getN (D := D) (ci := 2) (C := R_Proof) (T := F_Proof) (N := 9) X.1.1 X.1.2.1 X.1.2.2.2.2 hin_Proof X.1.2.2.2.1 X.2.1 hP q0 he rfl 2 (by decide) (va_Nw.use rfl (X.2.2.1 _ (List.mem_of_getElem? (i := 10) rfl))) (fun _ h9 => h9) hv hdg kk
theorem fg_LoopRanker_127 (X : wk_X p s m args meth c cc "LoopRanker" nL BW D cls tys nz A) (hP : va_P D cls ws0 H) (q0 : Nat) {fs : List Value} {v : Value} (he : ws0[q0]? = some (ad, .inr (2, fs))) (hv : fs[3]? = some v) (hdg : decode cc pc = .ok (.getfield 127, 3)) (kk : W p l e R s m args below meth c H locs cells slots Q (F0 m (pc + 3) ls (v :: rest))) : W p l e R s m args below meth c H locs cells slots Q (F0 m pc ls (.ref ad :: rest)) :=
  va_getN (D := D) (ci := 2) (C := R_Proof) (T := F_Proof) (N := 9) X.1.1 X.1.2.1 X.1.2.2.2.2 hin_Proof X.1.2.2.2.1 X.2.1 hP q0 he rfl 3 (by decide) (va_Nw.use rfl (X.2.2.1 _ (List.mem_of_getElem? (i := 11) rfl))) (fun _ h9 => h9) hv hdg kk
theorem fg_LoopRanker_130 (X : wk_X p s m args meth c cc "LoopRanker" nL BW D cls tys nz A) (hP : va_P D cls ws0 H) (q0 : Nat) {fs : List Value} {v : Value} (he : ws0[q0]? = some (ad, .inr (2, fs))) (hv : fs[4]? = some v) (hdg : decode cc pc = .ok (.getfield 130, 3)) (kk : W p l e R s m args below meth c H locs cells slots Q (F0 m (pc + 3) ls (v :: rest))) : W p l e R s m args below meth c H locs cells slots Q (F0 m pc ls (.ref ad :: rest)) :=
  va_getN (D := D) (ci := 2) (C := R_Proof) (T := F_Proof) (N := 9) X.1.1 X.1.2.1 X.1.2.2.2.2 hin_Proof X.1.2.2.2.1 X.2.1 hP q0 he rfl 4 (by decide) (va_Nw.use rfl (X.2.2.1 _ (List.mem_of_getElem? (i := 12) rfl))) (fun _ h9 => h9) hv hdg kk
theorem kc_LoopRanker_134 : Jvm.Cond.constantLong "LoopRanker" 134 (1000000) ∈ BW := (List.mem_append_right _ (List.mem_append_right _ (List.mem_append_right _ (List.mem_append_right _ (List.mem_append_right _ (List.mem_append_right _ (List.mem_append_right _ (List.mem_append_right _ (List.mem_append_right _ (List.mem_append_right _ (List.mem_append_right _ (List.mem_append_right _ (List.mem_append_left _ (List.mem_of_getElem? (i := 13) rfl))))))))))))))
theorem fg_LoopRanker_27 (X : wk_X p s m args meth c cc "LoopRanker" nL BW D cls tys nz A) (hP : va_P D cls ws0 H) (q0 : Nat) {fs : List Value} {v : Value} (he : ws0[q0]? = some (ad, .inr (3, fs))) (hv : fs[3]? = some v) (hdg : decode cc pc = .ok (.getfield 27, 3)) (kk : W p l e R s m args below meth c H locs cells slots Q (F0 m (pc + 3) ls (v :: rest))) : W p l e R s m args below meth c H locs cells slots Q (F0 m pc ls (.ref ad :: rest)) :=
  va_get (D := D) (ci := 3) (C := R_LoopRanker) (T := F_LoopRanker) (N := 6) X.1.1 X.1.2.1 X.1.2.2.2.2 hin_LoopRanker X.1.2.2.2.1 X.2.1 hP q0 he rfl 3 (by decide) (X.1.2.2.2.2 _ (List.mem_append_right _ (List.mem_append_right _ (List.mem_append_right _ (List.mem_append_right _ (List.mem_append_right _ (List.mem_append_left _ (List.mem_of_getElem? (i := 7) rfl)))))))) (fun _ h9 => h9) hv hdg kk
theorem fg_LoopRanker_31 (X : wk_X p s m args meth c cc "LoopRanker" nL BW D cls tys nz A) (hP : va_P D cls ws0 H) (q0 : Nat) {fs : List Value} {v : Value} (he : ws0[q0]? = some (ad, .inr (3, fs))) (hv : fs[4]? = some v) (hdg : decode cc pc = .ok (.getfield 31, 3)) (kk : W p l e R s m args below meth c H locs cells slots Q (F0 m (pc + 3) ls (v :: rest))) : W p l e R s m args below meth c H locs cells slots Q (F0 m pc ls (.ref ad :: rest)) :=
  va_get (D := D) (ci := 3) (C := R_LoopRanker) (T := F_LoopRanker) (N := 6) X.1.1 X.1.2.1 X.1.2.2.2.2 hin_LoopRanker X.1.2.2.2.1 X.2.1 hP q0 he rfl 4 (by decide) (X.1.2.2.2.2 _ (List.mem_append_right _ (List.mem_append_right _ (List.mem_append_right _ (List.mem_append_right _ (List.mem_append_right _ (List.mem_append_left _ (List.mem_of_getElem? (i := 8) rfl)))))))) (fun _ h9 => h9) hv hdg kk
theorem cw_LoopRanker_136 (hT : ∀ w ∈ BW, w.before args s = true) (hZ : wk_Z nz s) (hR : rm_Guard_allows.frames + 1 ≤ R.frames ∧ 8 + (6 + 11) + rm_Guard_allows.locals ≤ R.locals) : (va_CN R s args "LoopRanker" 136 y_Guard_allows "LoopRanker" b_Guard_allows 6 (some .boolean) (Cond.code y_Guard_allows b_Guard_allows 6 (some .boolean) :: BW) rm_Guard_allows 0 0 2) ∧ (Cond.instanceMethod y_Guard_allows).before args s = true ∧ (Cond.selects "LoopRanker$Guard" y_Guard_allows y_Guard_allows).before args s = true :=
  ⟨va_cnB 2 hT (BW_good kw_Guard_allows) rfl rfl rfl (hZ _ (List.mem_of_getElem? (i := 34) rfl)) (hT _ (List.mem_append_left _ (List.mem_of_getElem? (i := 3) rfl))) ⟨by decide, by decide, by decide +kernel⟩ hR, (hT _ (List.mem_append_right _ (List.mem_append_right _ (List.mem_append_right _ (List.mem_append_right _ (List.mem_append_right _ (List.mem_append_right _ (List.mem_append_right _ (List.mem_append_right _ (List.mem_append_right _ (List.mem_append_right _ (List.mem_append_right _ (List.mem_append_right _ (List.mem_append_left _ (List.mem_of_getElem? (i := 18) rfl))))))))))))))), (hT _ (List.mem_append_right _ (List.mem_append_right _ (List.mem_append_right _ (List.mem_append_right _ (List.mem_append_right _ (List.mem_append_right _ (List.mem_append_right _ (List.mem_append_right _ (List.mem_append_right _ (List.mem_append_right _ (List.mem_append_right _ (List.mem_append_right _ (List.mem_append_right _ (List.mem_append_right _ (List.mem_append_right _ (List.mem_append_right _ (List.mem_append_right _ (List.mem_append_right _ (List.mem_append_right _ (List.mem_append_right _ (List.mem_append_right _ (List.mem_append_right _ (List.mem_append_right _ (List.mem_append_right _ (List.mem_append_left _ (List.mem_of_getElem? (i := 17) rfl)))))))))))))))))))))))))))⟩
theorem cw_LoopRanker_139 (hT : ∀ w ∈ BW, w.before args s = true) (hZ : wk_Z nz s) (hR : rm_Step_next.frames + 1 ≤ R.frames ∧ 8 + (7 + 11) + rm_Step_next.locals ≤ R.locals) : (va_CN R s args "LoopRanker" 139 y_Step_next "LoopRanker" b_Step_next 7 (some .long) (Cond.code y_Step_next b_Step_next 7 (some .long) :: BW) rm_Step_next 0 0 3) ∧ (Cond.instanceMethod y_Step_next).before args s = true ∧ (Cond.selects "LoopRanker$Step" y_Step_next y_Step_next).before args s = true :=
  ⟨va_cnB 3 hT (BW_good kw_Step_next) rfl rfl rfl (hZ _ (List.mem_of_getElem? (i := 35) rfl)) (hT _ (List.mem_append_left _ (List.mem_of_getElem? (i := 2) rfl))) ⟨by decide, by decide, by decide +kernel⟩ hR, (hT _ (List.mem_append_right _ (List.mem_append_right _ (List.mem_append_right _ (List.mem_append_right _ (List.mem_append_right _ (List.mem_append_right _ (List.mem_append_right _ (List.mem_append_right _ (List.mem_append_right _ (List.mem_append_right _ (List.mem_append_right _ (List.mem_append_right _ (List.mem_append_right _ (List.mem_append_left _ (List.mem_of_getElem? (i := 0) rfl)))))))))))))))), (hT _ (List.mem_append_right _ (List.mem_append_right _ (List.mem_append_right _ (List.mem_append_right _ (List.mem_append_right _ (List.mem_append_right _ (List.mem_append_right _ (List.mem_append_right _ (List.mem_append_right _ (List.mem_append_right _ (List.mem_append_right _ (List.mem_append_right _ (List.mem_append_right _ (List.mem_append_right _ (List.mem_append_right _ (List.mem_append_right _ (List.mem_append_right _ (List.mem_append_right _ (List.mem_append_right _ (List.mem_append_right _ (List.mem_append_right _ (List.mem_append_right _ (List.mem_append_right _ (List.mem_append_right _ (List.mem_append_left _ (List.mem_of_getElem? (i := 18) rfl)))))))))))))))))))))))))))⟩
theorem kc_LoopRanker_143 : Jvm.Cond.constantLong "LoopRanker" 143 (1000000000000) ∈ BW := (List.mem_append_right _ (List.mem_append_right _ (List.mem_append_right _ (List.mem_append_right _ (List.mem_append_right _ (List.mem_append_right _ (List.mem_append_right _ (List.mem_append_right _ (List.mem_append_right _ (List.mem_append_right _ (List.mem_append_right _ (List.mem_append_right _ (List.mem_append_right _ (List.mem_append_left _ (List.mem_of_getElem? (i := 2) rfl)))))))))))))))
theorem fg_LoopRanker_34 (X : wk_X p s m args meth c cc "LoopRanker" nL BW D cls tys nz A) (hP : va_P D cls ws0 H) (q0 : Nat) {fs : List Value} {v : Value} (he : ws0[q0]? = some (ad, .inr (3, fs))) (hv : fs[5]? = some v) (hdg : decode cc pc = .ok (.getfield 34, 3)) (kk : W p l e R s m args below meth c H locs cells slots Q (F0 m (pc + 3) ls (v :: rest))) : W p l e R s m args below meth c H locs cells slots Q (F0 m pc ls (.ref ad :: rest)) :=
  va_get (D := D) (ci := 3) (C := R_LoopRanker) (T := F_LoopRanker) (N := 6) X.1.1 X.1.2.1 X.1.2.2.2.2 hin_LoopRanker X.1.2.2.2.1 X.2.1 hP q0 he rfl 5 (by decide) (X.1.2.2.2.2 _ (List.mem_append_right _ (List.mem_append_right _ (List.mem_append_right _ (List.mem_append_right _ (List.mem_append_right _ (List.mem_append_left _ (List.mem_of_getElem? (i := 9) rfl)))))))) (fun _ h9 => h9) hv hdg kk
theorem cw_LoopRanker_145 (hT : ∀ w ∈ BW, w.before args s = true) (hZ : wk_Z nz s) (hR : rm_Proof_functionValue.frames + 1 ≤ R.frames ∧ 8 + (6 + 11) + rm_Proof_functionValue.locals ≤ R.locals) : (va_CN R s args "LoopRanker" 145 y_Proof_functionValue "LoopRanker" b_Proof_functionValue 6 (some .long) (Cond.code y_Proof_functionValue b_Proof_functionValue 6 (some .long) :: BW) rm_Proof_functionValue 0 0 3) ∧ (Cond.instanceMethod y_Proof_functionValue).before args s = true ∧ (Cond.selects "LoopRanker$Proof" y_Proof_functionValue y_Proof_functionValue).before args s = true :=
  ⟨va_cnB 3 hT (BW_good kw_Proof_functionValue) rfl rfl rfl (hZ _ (List.mem_of_getElem? (i := 36) rfl)) (hT _ (List.mem_append_left _ (List.mem_of_getElem? (i := 4) rfl))) ⟨by decide, by decide, by decide +kernel⟩ hR, (hT _ (List.mem_append_right _ (List.mem_append_right _ (List.mem_append_right _ (List.mem_append_right _ (List.mem_append_right _ (List.mem_append_right _ (List.mem_append_right _ (List.mem_append_right _ (List.mem_append_right _ (List.mem_append_right _ (List.mem_append_right _ (List.mem_append_right _ (List.mem_append_right _ (List.mem_append_left _ (List.mem_of_getElem? (i := 15) rfl)))))))))))))))), (hT _ (List.mem_append_right _ (List.mem_append_right _ (List.mem_append_right _ (List.mem_append_right _ (List.mem_append_right _ (List.mem_append_right _ (List.mem_append_right _ (List.mem_append_right _ (List.mem_append_right _ (List.mem_append_right _ (List.mem_append_right _ (List.mem_append_right _ (List.mem_append_right _ (List.mem_append_right _ (List.mem_append_right _ (List.mem_append_right _ (List.mem_append_right _ (List.mem_append_right _ (List.mem_append_right _ (List.mem_append_right _ (List.mem_append_right _ (List.mem_append_right _ (List.mem_append_right _ (List.mem_append_right _ (List.mem_append_left _ (List.mem_of_getElem? (i := 19) rfl)))))))))))))))))))))))))))⟩
theorem kc_LoopRanker_148 : Jvm.Cond.constantLong "LoopRanker" 148 (-1) ∈ BW := (List.mem_append_right _ (List.mem_append_right _ (List.mem_append_right _ (List.mem_append_right _ (List.mem_append_right _ (List.mem_append_right _ (List.mem_append_right _ (List.mem_append_right _ (List.mem_append_right _ (List.mem_append_right _ (List.mem_append_right _ (List.mem_append_right _ (List.mem_append_right _ (List.mem_append_right _ (List.mem_append_left _ (List.mem_of_getElem? (i := 1) rfl))))))))))))))))
theorem wm_max_LoopRanker_150 {x y : Int64} (X : wk_X p s m args meth c cc "LoopRanker" nL BW D cls tys nz A) (hz : ls.size = nL) (hfr : 1 ≤ R.frames) (hlo : (rest.map fun v => v.category).sum + 15 ≤ R.locals) (hcs : cells ≤ R.cells ∧ slots ≤ R.slots) (hdg : decode cc pc = .ok (.invokestatic 150, 3)) (kk : W p l e R s m args below meth c H locs cells slots Q (F0 m (pc + 3) ls (.long (if y < x then x else y) :: rest))) : W p l e R s m args below meth c H locs cells slots Q (F0 m pc ls (.long y :: .long x :: rest)) :=
  va_mmax_long X.1.1 X.1.2.1 (X.1.2.2.1.trans hz.symm) X.1.2.2.2.1 (X.1.2.2.2.2 _ (List.mem_append_right _ (List.mem_append_right _ (List.mem_append_right _ (List.mem_append_right _ (List.mem_append_right _ (List.mem_append_right _ (List.mem_append_right _ (List.mem_append_right _ (List.mem_append_right _ (List.mem_append_right _ (List.mem_append_right _ (List.mem_append_right _ (List.mem_append_right _ (List.mem_append_right _ (List.mem_append_left _ (List.mem_of_getElem? (i := 2) rfl))))))))))))))))) (X.1.2.2.2.2 _ (List.mem_append_right _ (List.mem_append_right _ (List.mem_append_right _ (List.mem_append_right _ (List.mem_append_right _ (List.mem_append_right _ (List.mem_append_right _ (List.mem_append_right _ (List.mem_append_right _ (List.mem_append_right _ (List.mem_append_right _ (List.mem_append_right _ (List.mem_append_right _ (List.mem_append_right _ (List.mem_append_left _ (List.mem_of_getElem? (i := 3) rfl))))))))))))))))) (X.1.2.2.2.2 _ (List.mem_append_left _ (List.mem_of_getElem? (i := 5) rfl))) (X.1.2.2.2.2 _ (List.mem_append_right _ (List.mem_append_right _ (List.mem_append_right _ (List.mem_append_right _ (List.mem_append_right _ (List.mem_append_right _ (List.mem_append_right _ (List.mem_append_right _ (List.mem_append_right _ (List.mem_append_right _ (List.mem_append_right _ (List.mem_append_right _ (List.mem_append_right _ (List.mem_append_right _ (List.mem_append_left _ (List.mem_of_getElem? (i := 4) rfl))))))))))))))))) hfr hlo hcs.1 hcs.2 hdg kk
theorem fp_LoopRankerModel_7 (X : wk_X p s m args meth c cc "LoopRankerModel" nL BW D cls tys nz A) (hin : meth.name = "<init>") (hP : va_P D cls ws0 H) (hD : va_D A ws0) (hS : va_S A s.heap H locs) (q0 : Nat) {fs : List Value} {v : Value} (he : ws0[q0]? = some (ad, .inr (4, fs))) (hn : narrow (.array .int) v = v) (hf : fits (.array .int) v = true) (hl : Nat.ble (1 + 1) fs.length = true) (hdg : decode cc pc = .ok (.putfield 7, 3)) (kk : ∀ (H1 : Heap) (locs1 : List Loc), va_P D cls (ws0.set q0 (ad, .inr (4, fs.set 1 v))) H1 → va_D A (ws0.set q0 (ad, .inr (4, fs.set 1 v))) → va_S A s.heap H1 locs1 → W p l e R s m args below meth c H1 locs1 cells slots Q (F0 m (pc + 3) ls rest)) : W p l e R s m args below meth c H locs cells slots Q (F0 m pc ls (v :: .ref ad :: rest)) :=
  va_putF (D := D) (ci := 4) (v := v) (ty := .array .int) (C := R_LoopRankerModel) (T := F_LoopRankerModel) (N := 16) X.1.1 X.1.2.1 X.1.2.2.2.2 hin_LoopRankerModel t_LoopRankerModel t_LoopRankerModel_ok n_LoopRankerModel X.1.2.2.2.1 X.2.1 hP hD hS q0 he rfl 1 (by decide) (X.1.2.2.2.2 _ (List.mem_append_right _ (List.mem_append_right _ (List.mem_append_right _ (List.mem_append_right _ (List.mem_append_right _ (List.mem_append_right _ (List.mem_append_right _ (List.mem_append_right _ (List.mem_append_right _ (List.mem_append_right _ (List.mem_append_right _ (List.mem_append_right _ (List.mem_append_right _ (List.mem_append_right _ (List.mem_append_left _ (List.mem_of_getElem? (i := 12) rfl))))))))))))))))) (fun _ h9 => h9) rfl hin rfl (by decide +kernel) hn hf (Nat.le_of_ble_eq_true hl) hdg kk
theorem fp_LoopRankerModel_13 (X : wk_X p s m args meth c cc "LoopRankerModel" nL BW D cls tys nz A) (hin : meth.name = "<init>") (hP : va_P D cls ws0 H) (hD : va_D A ws0) (hS : va_S A s.heap H locs) (q0 : Nat) {fs : List Value} {v : Value} (he : ws0[q0]? = some (ad, .inr (4, fs))) (hn : narrow (.array .int) v = v) (hf : fits (.array .int) v = true) (hl : Nat.ble (2 + 1) fs.length = true) (hdg : decode cc pc = .ok (.putfield 13, 3)) (kk : ∀ (H1 : Heap) (locs1 : List Loc), va_P D cls (ws0.set q0 (ad, .inr (4, fs.set 2 v))) H1 → va_D A (ws0.set q0 (ad, .inr (4, fs.set 2 v))) → va_S A s.heap H1 locs1 → W p l e R s m args below meth c H1 locs1 cells slots Q (F0 m (pc + 3) ls rest)) : W p l e R s m args below meth c H locs cells slots Q (F0 m pc ls (v :: .ref ad :: rest)) :=
  va_putF (D := D) (ci := 4) (v := v) (ty := .array .int) (C := R_LoopRankerModel) (T := F_LoopRankerModel) (N := 16) X.1.1 X.1.2.1 X.1.2.2.2.2 hin_LoopRankerModel t_LoopRankerModel t_LoopRankerModel_ok n_LoopRankerModel X.1.2.2.2.1 X.2.1 hP hD hS q0 he rfl 2 (by decide) (X.1.2.2.2.2 _ (List.mem_append_right _ (List.mem_append_right _ (List.mem_append_right _ (List.mem_append_right _ (List.mem_append_right _ (List.mem_append_right _ (List.mem_append_right _ (List.mem_append_right _ (List.mem_append_right _ (List.mem_append_right _ (List.mem_append_right _ (List.mem_append_right _ (List.mem_append_right _ (List.mem_append_right _ (List.mem_append_left _ (List.mem_of_getElem? (i := 13) rfl))))))))))))))))) (fun _ h9 => h9) rfl hin rfl (by decide +kernel) hn hf (Nat.le_of_ble_eq_true hl) hdg kk
theorem fp_LoopRankerModel_16 (X : wk_X p s m args meth c cc "LoopRankerModel" nL BW D cls tys nz A) (hin : meth.name = "<init>") (hP : va_P D cls ws0 H) (hD : va_D A ws0) (hS : va_S A s.heap H locs) (q0 : Nat) {fs : List Value} {v : Value} (he : ws0[q0]? = some (ad, .inr (4, fs))) (hn : narrow (.array .int) v = v) (hf : fits (.array .int) v = true) (hl : Nat.ble (3 + 1) fs.length = true) (hdg : decode cc pc = .ok (.putfield 16, 3)) (kk : ∀ (H1 : Heap) (locs1 : List Loc), va_P D cls (ws0.set q0 (ad, .inr (4, fs.set 3 v))) H1 → va_D A (ws0.set q0 (ad, .inr (4, fs.set 3 v))) → va_S A s.heap H1 locs1 → W p l e R s m args below meth c H1 locs1 cells slots Q (F0 m (pc + 3) ls rest)) : W p l e R s m args below meth c H locs cells slots Q (F0 m pc ls (v :: .ref ad :: rest)) :=
  va_putF (D := D) (ci := 4) (v := v) (ty := .array .int) (C := R_LoopRankerModel) (T := F_LoopRankerModel) (N := 16) X.1.1 X.1.2.1 X.1.2.2.2.2 hin_LoopRankerModel t_LoopRankerModel t_LoopRankerModel_ok n_LoopRankerModel X.1.2.2.2.1 X.2.1 hP hD hS q0 he rfl 3 (by decide) (X.1.2.2.2.2 _ (List.mem_append_right _ (List.mem_append_right _ (List.mem_append_right _ (List.mem_append_right _ (List.mem_append_right _ (List.mem_append_right _ (List.mem_append_right _ (List.mem_append_right _ (List.mem_append_right _ (List.mem_append_right _ (List.mem_append_right _ (List.mem_append_right _ (List.mem_append_right _ (List.mem_append_right _ (List.mem_append_left _ (List.mem_of_getElem? (i := 14) rfl))))))))))))))))) (fun _ h9 => h9) rfl hin rfl (by decide +kernel) hn hf (Nat.le_of_ble_eq_true hl) hdg kk
theorem fp_LoopRankerModel_19 (X : wk_X p s m args meth c cc "LoopRankerModel" nL BW D cls tys nz A) (hin : meth.name = "<init>") (hP : va_P D cls ws0 H) (hD : va_D A ws0) (hS : va_S A s.heap H locs) (q0 : Nat) {fs : List Value} {v : Value} (he : ws0[q0]? = some (ad, .inr (4, fs))) (hn : narrow (.array .int) v = v) (hf : fits (.array .int) v = true) (hl : Nat.ble (4 + 1) fs.length = true) (hdg : decode cc pc = .ok (.putfield 19, 3)) (kk : ∀ (H1 : Heap) (locs1 : List Loc), va_P D cls (ws0.set q0 (ad, .inr (4, fs.set 4 v))) H1 → va_D A (ws0.set q0 (ad, .inr (4, fs.set 4 v))) → va_S A s.heap H1 locs1 → W p l e R s m args below meth c H1 locs1 cells slots Q (F0 m (pc + 3) ls rest)) : W p l e R s m args below meth c H locs cells slots Q (F0 m pc ls (v :: .ref ad :: rest)) :=
  va_putF (D := D) (ci := 4) (v := v) (ty := .array .int) (C := R_LoopRankerModel) (T := F_LoopRankerModel) (N := 16) X.1.1 X.1.2.1 X.1.2.2.2.2 hin_LoopRankerModel t_LoopRankerModel t_LoopRankerModel_ok n_LoopRankerModel X.1.2.2.2.1 X.2.1 hP hD hS q0 he rfl 4 (by decide) (X.1.2.2.2.2 _ (List.mem_append_right _ (List.mem_append_right _ (List.mem_append_right _ (List.mem_append_right _ (List.mem_append_right _ (List.mem_append_right _ (List.mem_append_right _ (List.mem_append_right _ (List.mem_append_right _ (List.mem_append_right _ (List.mem_append_right _ (List.mem_append_right _ (List.mem_append_right _ (List.mem_append_right _ (List.mem_append_left _ (List.mem_of_getElem? (i := 15) rfl))))))))))))))))) (fun _ h9 => h9) rfl hin rfl (by decide +kernel) hn hf (Nat.le_of_ble_eq_true hl) hdg kk
theorem fp_LoopRankerModel_22 (X : wk_X p s m args meth c cc "LoopRankerModel" nL BW D cls tys nz A) (hin : meth.name = "<init>") (hP : va_P D cls ws0 H) (hD : va_D A ws0) (hS : va_S A s.heap H locs) (q0 : Nat) {fs : List Value} {v : Value} (he : ws0[q0]? = some (ad, .inr (4, fs))) (hn : narrow (.array .int) v = v) (hf : fits (.array .int) v = true) (hl : Nat.ble (5 + 1) fs.length = true) (hdg : decode cc pc = .ok (.putfield 22, 3)) (kk : ∀ (H1 : Heap) (locs1 : List Loc), va_P D cls (ws0.set q0 (ad, .inr (4, fs.set 5 v))) H1 → va_D A (ws0.set q0 (ad, .inr (4, fs.set 5 v))) → va_S A s.heap H1 locs1 → W p l e R s m args below meth c H1 locs1 cells slots Q (F0 m (pc + 3) ls rest)) : W p l e R s m args below meth c H locs cells slots Q (F0 m pc ls (v :: .ref ad :: rest)) :=
  va_putF (D := D) (ci := 4) (v := v) (ty := .array .int) (C := R_LoopRankerModel) (T := F_LoopRankerModel) (N := 16) X.1.1 X.1.2.1 X.1.2.2.2.2 hin_LoopRankerModel t_LoopRankerModel t_LoopRankerModel_ok n_LoopRankerModel X.1.2.2.2.1 X.2.1 hP hD hS q0 he rfl 5 (by decide) (X.1.2.2.2.2 _ (List.mem_append_right _ (List.mem_append_right _ (List.mem_append_right _ (List.mem_append_right _ (List.mem_append_right _ (List.mem_append_right _ (List.mem_append_right _ (List.mem_append_right _ (List.mem_append_right _ (List.mem_append_right _ (List.mem_append_right _ (List.mem_append_right _ (List.mem_append_right _ (List.mem_append_right _ (List.mem_append_left _ (List.mem_of_getElem? (i := 16) rfl))))))))))))))))) (fun _ h9 => h9) rfl hin rfl (by decide +kernel) hn hf (Nat.le_of_ble_eq_true hl) hdg kk
theorem fp_LoopRankerModel_25 (X : wk_X p s m args meth c cc "LoopRankerModel" nL BW D cls tys nz A) (hin : meth.name = "<init>") (hP : va_P D cls ws0 H) (hD : va_D A ws0) (hS : va_S A s.heap H locs) (q0 : Nat) {fs : List Value} {v : Value} (he : ws0[q0]? = some (ad, .inr (4, fs))) (hn : narrow (.array .int) v = v) (hf : fits (.array .int) v = true) (hl : Nat.ble (10 + 1) fs.length = true) (hdg : decode cc pc = .ok (.putfield 25, 3)) (kk : ∀ (H1 : Heap) (locs1 : List Loc), va_P D cls (ws0.set q0 (ad, .inr (4, fs.set 10 v))) H1 → va_D A (ws0.set q0 (ad, .inr (4, fs.set 10 v))) → va_S A s.heap H1 locs1 → W p l e R s m args below meth c H1 locs1 cells slots Q (F0 m (pc + 3) ls rest)) : W p l e R s m args below meth c H locs cells slots Q (F0 m pc ls (v :: .ref ad :: rest)) :=
  va_putF (D := D) (ci := 4) (v := v) (ty := .array .int) (C := R_LoopRankerModel) (T := F_LoopRankerModel) (N := 16) X.1.1 X.1.2.1 X.1.2.2.2.2 hin_LoopRankerModel t_LoopRankerModel t_LoopRankerModel_ok n_LoopRankerModel X.1.2.2.2.1 X.2.1 hP hD hS q0 he rfl 10 (by decide) (X.1.2.2.2.2 _ (List.mem_append_right _ (List.mem_append_right _ (List.mem_append_right _ (List.mem_append_right _ (List.mem_append_right _ (List.mem_append_right _ (List.mem_append_right _ (List.mem_append_right _ (List.mem_append_right _ (List.mem_append_right _ (List.mem_append_right _ (List.mem_append_right _ (List.mem_append_right _ (List.mem_append_right _ (List.mem_append_right _ (List.mem_append_left _ (List.mem_of_getElem? (i := 1) rfl)))))))))))))))))) (fun _ h9 => h9) rfl hin rfl (by decide +kernel) hn hf (Nat.le_of_ble_eq_true hl) hdg kk
theorem fp_LoopRankerModel_28 (X : wk_X p s m args meth c cc "LoopRankerModel" nL BW D cls tys nz A) (hin : meth.name = "<init>") (hP : va_P D cls ws0 H) (hD : va_D A ws0) (hS : va_S A s.heap H locs) (q0 : Nat) {fs : List Value} {v : Value} (he : ws0[q0]? = some (ad, .inr (4, fs))) (hn : narrow (.array .int) v = v) (hf : fits (.array .int) v = true) (hl : Nat.ble (11 + 1) fs.length = true) (hdg : decode cc pc = .ok (.putfield 28, 3)) (kk : ∀ (H1 : Heap) (locs1 : List Loc), va_P D cls (ws0.set q0 (ad, .inr (4, fs.set 11 v))) H1 → va_D A (ws0.set q0 (ad, .inr (4, fs.set 11 v))) → va_S A s.heap H1 locs1 → W p l e R s m args below meth c H1 locs1 cells slots Q (F0 m (pc + 3) ls rest)) : W p l e R s m args below meth c H locs cells slots Q (F0 m pc ls (v :: .ref ad :: rest)) :=
  va_putF (D := D) (ci := 4) (v := v) (ty := .array .int) (C := R_LoopRankerModel) (T := F_LoopRankerModel) (N := 16) X.1.1 X.1.2.1 X.1.2.2.2.2 hin_LoopRankerModel t_LoopRankerModel t_LoopRankerModel_ok n_LoopRankerModel X.1.2.2.2.1 X.2.1 hP hD hS q0 he rfl 11 (by decide) (X.1.2.2.2.2 _ (List.mem_append_right _ (List.mem_append_right _ (List.mem_append_right _ (List.mem_append_right _ (List.mem_append_right _ (List.mem_append_right _ (List.mem_append_right _ (List.mem_append_right _ (List.mem_append_right _ (List.mem_append_right _ (List.mem_append_right _ (List.mem_append_right _ (List.mem_append_right _ (List.mem_append_right _ (List.mem_append_right _ (List.mem_append_left _ (List.mem_of_getElem? (i := 2) rfl)))))))))))))))))) (fun _ h9 => h9) rfl hin rfl (by decide +kernel) hn hf (Nat.le_of_ble_eq_true hl) hdg kk
theorem fp_LoopRankerModel_31 (X : wk_X p s m args meth c cc "LoopRankerModel" nL BW D cls tys nz A) (hin : meth.name = "<init>") (hP : va_P D cls ws0 H) (hD : va_D A ws0) (hS : va_S A s.heap H locs) (q0 : Nat) {fs : List Value} {v : Value} (he : ws0[q0]? = some (ad, .inr (4, fs))) (hn : narrow (.array .int) v = v) (hf : fits (.array .int) v = true) (hl : Nat.ble (12 + 1) fs.length = true) (hdg : decode cc pc = .ok (.putfield 31, 3)) (kk : ∀ (H1 : Heap) (locs1 : List Loc), va_P D cls (ws0.set q0 (ad, .inr (4, fs.set 12 v))) H1 → va_D A (ws0.set q0 (ad, .inr (4, fs.set 12 v))) → va_S A s.heap H1 locs1 → W p l e R s m args below meth c H1 locs1 cells slots Q (F0 m (pc + 3) ls rest)) : W p l e R s m args below meth c H locs cells slots Q (F0 m pc ls (v :: .ref ad :: rest)) :=
  va_putF (D := D) (ci := 4) (v := v) (ty := .array .int) (C := R_LoopRankerModel) (T := F_LoopRankerModel) (N := 16) X.1.1 X.1.2.1 X.1.2.2.2.2 hin_LoopRankerModel t_LoopRankerModel t_LoopRankerModel_ok n_LoopRankerModel X.1.2.2.2.1 X.2.1 hP hD hS q0 he rfl 12 (by decide) (X.1.2.2.2.2 _ (List.mem_append_right _ (List.mem_append_right _ (List.mem_append_right _ (List.mem_append_right _ (List.mem_append_right _ (List.mem_append_right _ (List.mem_append_right _ (List.mem_append_right _ (List.mem_append_right _ (List.mem_append_right _ (List.mem_append_right _ (List.mem_append_right _ (List.mem_append_right _ (List.mem_append_right _ (List.mem_append_right _ (List.mem_append_left _ (List.mem_of_getElem? (i := 3) rfl)))))))))))))))))) (fun _ h9 => h9) rfl hin rfl (by decide +kernel) hn hf (Nat.le_of_ble_eq_true hl) hdg kk
theorem fg_LoopRankerModel_34 (X : wk_X p s m args meth c cc "LoopRankerModel" nL BW D cls tys nz A) (hP : va_P D cls ws0 H) (q0 : Nat) {fs : List Value} {v : Value} (he : ws0[q0]? = some (ad, .inr (4, fs))) (hv : fs[0]? = some v) (hdg : decode cc pc = .ok (.getfield 34, 3)) (kk : W p l e R s m args below meth c H locs cells slots Q (F0 m (pc + 3) ls (v :: rest))) : W p l e R s m args below meth c H locs cells slots Q (F0 m pc ls (.ref ad :: rest)) :=
  va_get (D := D) (ci := 4) (C := R_LoopRankerModel) (T := F_LoopRankerModel) (N := 16) X.1.1 X.1.2.1 X.1.2.2.2.2 hin_LoopRankerModel X.1.2.2.2.1 X.2.1 hP q0 he rfl 0 (by decide) (X.1.2.2.2.2 _ (List.mem_append_right _ (List.mem_append_right _ (List.mem_append_right _ (List.mem_append_right _ (List.mem_append_right _ (List.mem_append_right _ (List.mem_append_right _ (List.mem_append_right _ (List.mem_append_right _ (List.mem_append_right _ (List.mem_append_right _ (List.mem_append_right _ (List.mem_append_right _ (List.mem_append_right _ (List.mem_append_left _ (List.mem_of_getElem? (i := 11) rfl))))))))))))))))) (fun _ h9 => h9) hv hdg kk
theorem fg_LoopRankerModel_7 (X : wk_X p s m args meth c cc "LoopRankerModel" nL BW D cls tys nz A) (hP : va_P D cls ws0 H) (q0 : Nat) {fs : List Value} {v : Value} (he : ws0[q0]? = some (ad, .inr (4, fs))) (hv : fs[1]? = some v) (hdg : decode cc pc = .ok (.getfield 7, 3)) (kk : W p l e R s m args below meth c H locs cells slots Q (F0 m (pc + 3) ls (v :: rest))) : W p l e R s m args below meth c H locs cells slots Q (F0 m pc ls (.ref ad :: rest)) :=
  va_get (D := D) (ci := 4) (C := R_LoopRankerModel) (T := F_LoopRankerModel) (N := 16) X.1.1 X.1.2.1 X.1.2.2.2.2 hin_LoopRankerModel X.1.2.2.2.1 X.2.1 hP q0 he rfl 1 (by decide) (X.1.2.2.2.2 _ (List.mem_append_right _ (List.mem_append_right _ (List.mem_append_right _ (List.mem_append_right _ (List.mem_append_right _ (List.mem_append_right _ (List.mem_append_right _ (List.mem_append_right _ (List.mem_append_right _ (List.mem_append_right _ (List.mem_append_right _ (List.mem_append_right _ (List.mem_append_right _ (List.mem_append_right _ (List.mem_append_left _ (List.mem_of_getElem? (i := 12) rfl))))))))))))))))) (fun _ h9 => h9) hv hdg kk
theorem fg_LoopRankerModel_22 (X : wk_X p s m args meth c cc "LoopRankerModel" nL BW D cls tys nz A) (hP : va_P D cls ws0 H) (q0 : Nat) {fs : List Value} {v : Value} (he : ws0[q0]? = some (ad, .inr (4, fs))) (hv : fs[5]? = some v) (hdg : decode cc pc = .ok (.getfield 22, 3)) (kk : W p l e R s m args below meth c H locs cells slots Q (F0 m (pc + 3) ls (v :: rest))) : W p l e R s m args below meth c H locs cells slots Q (F0 m pc ls (.ref ad :: rest)) :=
  va_get (D := D) (ci := 4) (C := R_LoopRankerModel) (T := F_LoopRankerModel) (N := 16) X.1.1 X.1.2.1 X.1.2.2.2.2 hin_LoopRankerModel X.1.2.2.2.1 X.2.1 hP q0 he rfl 5 (by decide) (X.1.2.2.2.2 _ (List.mem_append_right _ (List.mem_append_right _ (List.mem_append_right _ (List.mem_append_right _ (List.mem_append_right _ (List.mem_append_right _ (List.mem_append_right _ (List.mem_append_right _ (List.mem_append_right _ (List.mem_append_right _ (List.mem_append_right _ (List.mem_append_right _ (List.mem_append_right _ (List.mem_append_right _ (List.mem_append_left _ (List.mem_of_getElem? (i := 16) rfl))))))))))))))))) (fun _ h9 => h9) hv hdg kk
theorem fp_LoopRankerModel_34 (X : wk_X p s m args meth c cc "LoopRankerModel" nL BW D cls tys nz A) (hP : va_P D cls ws0 H) (hD : va_D A ws0) (hS : va_S A s.heap H locs) (q0 : Nat) {fs : List Value} {v : Value} (he : ws0[q0]? = some (ad, .inr (4, fs))) (hn : narrow (.int) v = v) (hf : fits (.int) v = true) (hl : Nat.ble (0 + 1) fs.length = true) (hdg : decode cc pc = .ok (.putfield 34, 3)) (kk : ∀ (H1 : Heap) (locs1 : List Loc), va_P D cls (ws0.set q0 (ad, .inr (4, fs.set 0 v))) H1 → va_D A (ws0.set q0 (ad, .inr (4, fs.set 0 v))) → va_S A s.heap H1 locs1 → W p l e R s m args below meth c H1 locs1 cells slots Q (F0 m (pc + 3) ls rest)) : W p l e R s m args below meth c H locs cells slots Q (F0 m pc ls (v :: .ref ad :: rest)) :=
  va_put (D := D) (ci := 4) (v := v) (ty := .int) (C := R_LoopRankerModel) (T := F_LoopRankerModel) (N := 16) X.1.1 X.1.2.1 X.1.2.2.2.2 hin_LoopRankerModel t_LoopRankerModel t_LoopRankerModel_ok n_LoopRankerModel X.1.2.2.2.1 X.2.1 hP hD hS q0 he rfl 0 (by decide) (X.1.2.2.2.2 _ (List.mem_append_right _ (List.mem_append_right _ (List.mem_append_right _ (List.mem_append_right _ (List.mem_append_right _ (List.mem_append_right _ (List.mem_append_right _ (List.mem_append_right _ (List.mem_append_right _ (List.mem_append_right _ (List.mem_append_right _ (List.mem_append_right _ (List.mem_append_right _ (List.mem_append_right _ (List.mem_append_left _ (List.mem_of_getElem? (i := 11) rfl))))))))))))))))) (fun _ h9 => h9) rfl (by decide +kernel) hn hf (Nat.le_of_ble_eq_true hl) hdg kk
theorem cw_LoopRankerModel_38 (hT : ∀ w ∈ BW, w.before args s = true) (hZ : wk_Z nz s) (hR : rm_LoopRankerModel_there.frames + 1 ≤ R.frames ∧ 8 + (2 + 11) + rm_LoopRankerModel_there.locals ≤ R.locals) : (CallB R s args "LoopRankerModel" 38 y_LoopRankerModel_there b_LoopRankerModel_there 2 (some .boolean) (Cond.code y_LoopRankerModel_there b_LoopRankerModel_there 2 (some .boolean) :: BW) rm_LoopRankerModel_there 0 0 1) ∧ (Cond.instanceMethod y_LoopRankerModel_there).before args s = true ∧ (Cond.selects "LoopRankerModel" y_LoopRankerModel_there y_LoopRankerModel_there).before args s = true :=
  ⟨callB_of 1 hT (BW_good kw_LoopRankerModel_there) rfl rfl rfl (hT _ (List.mem_append_left _ (List.mem_of_getElem? (i := 6) rfl))) (hT _ (List.mem_append_right _ (List.mem_append_right _ (List.mem_append_right _ (List.mem_append_right _ (List.mem_append_right _ (List.mem_append_right _ (List.mem_append_right _ (List.mem_append_right _ (List.mem_append_right _ (List.mem_append_right _ (List.mem_append_right _ (List.mem_append_right _ (List.mem_append_right _ (List.mem_append_right _ (List.mem_append_right _ (List.mem_append_right _ (List.mem_append_right _ (List.mem_append_left _ (List.mem_of_getElem? (i := 8) rfl)))))))))))))))))))) ⟨by decide, by decide, by decide +kernel⟩ hR, (hT _ (List.mem_append_right _ (List.mem_append_right _ (List.mem_append_right _ (List.mem_append_right _ (List.mem_append_right _ (List.mem_append_right _ (List.mem_append_right _ (List.mem_append_right _ (List.mem_append_right _ (List.mem_append_right _ (List.mem_append_right _ (List.mem_append_right _ (List.mem_append_right _ (List.mem_append_right _ (List.mem_append_right _ (List.mem_append_right _ (List.mem_append_right _ (List.mem_append_left _ (List.mem_of_getElem? (i := 9) rfl)))))))))))))))))))), (hT _ (List.mem_append_right _ (List.mem_append_right _ (List.mem_append_right _ (List.mem_append_right _ (List.mem_append_right _ (List.mem_append_right _ (List.mem_append_right _ (List.mem_append_right _ (List.mem_append_right _ (List.mem_append_right _ (List.mem_append_right _ (List.mem_append_right _ (List.mem_append_right _ (List.mem_append_right _ (List.mem_append_right _ (List.mem_append_right _ (List.mem_append_right _ (List.mem_append_right _ (List.mem_append_right _ (List.mem_append_right _ (List.mem_append_right _ (List.mem_append_right _ (List.mem_append_right _ (List.mem_append_right _ (List.mem_append_right _ (List.mem_of_getElem? (i := 0) rfl)))))))))))))))))))))))))))⟩
theorem cw_LoopRankerModel_42 (hT : ∀ w ∈ BW, w.before args s = true) (hZ : wk_Z nz s) (hR : rm_LoopRankerModel_within.frames + 1 ≤ R.frames ∧ 8 + (2 + 11) + rm_LoopRankerModel_within.locals ≤ R.locals) : (CallB R s args "LoopRankerModel" 42 y_LoopRankerModel_within b_LoopRankerModel_within 2 (some .boolean) (Cond.code y_LoopRankerModel_within b_LoopRankerModel_within 2 (some .boolean) :: BW) rm_LoopRankerModel_within 0 0 2) ∧ (Cond.static y_LoopRankerModel_within).before args s = true :=
  ⟨callB_of 2 hT (BW_good kw_LoopRankerModel_within) rfl rfl rfl (hT _ (List.mem_append_left _ (List.mem_of_getElem? (i := 6) rfl))) (hT _ (List.mem_append_right _ (List.mem_append_right _ (List.mem_append_right _ (List.mem_append_right _ (List.mem_append_right _ (List.mem_append_right _ (List.mem_append_right _ (List.mem_append_right _ (List.mem_append_right _ (List.mem_append_right _ (List.mem_append_right _ (List.mem_append_right _ (List.mem_append_right _ (List.mem_append_right _ (List.mem_append_right _ (List.mem_append_right _ (List.mem_append_right _ (List.mem_append_left _ (List.mem_of_getElem? (i := 11) rfl)))))))))))))))))))) ⟨by decide, by decide, by decide +kernel⟩ hR, (hT _ (List.mem_append_right _ (List.mem_append_right _ (List.mem_append_right _ (List.mem_append_right _ (List.mem_append_right _ (List.mem_append_right _ (List.mem_append_right _ (List.mem_append_right _ (List.mem_append_right _ (List.mem_append_right _ (List.mem_append_right _ (List.mem_append_right _ (List.mem_append_right _ (List.mem_append_right _ (List.mem_append_right _ (List.mem_append_right _ (List.mem_append_right _ (List.mem_append_left _ (List.mem_of_getElem? (i := 12) rfl))))))))))))))))))))⟩
theorem fg_LoopRankerModel_13 (X : wk_X p s m args meth c cc "LoopRankerModel" nL BW D cls tys nz A) (hP : va_P D cls ws0 H) (q0 : Nat) {fs : List Value} {v : Value} (he : ws0[q0]? = some (ad, .inr (4, fs))) (hv : fs[2]? = some v) (hdg : decode cc pc = .ok (.getfield 13, 3)) (kk : W p l e R s m args below meth c H locs cells slots Q (F0 m (pc + 3) ls (v :: rest))) : W p l e R s m args below meth c H locs cells slots Q (F0 m pc ls (.ref ad :: rest)) :=
  va_get (D := D) (ci := 4) (C := R_LoopRankerModel) (T := F_LoopRankerModel) (N := 16) X.1.1 X.1.2.1 X.1.2.2.2.2 hin_LoopRankerModel X.1.2.2.2.1 X.2.1 hP q0 he rfl 2 (by decide) (X.1.2.2.2.2 _ (List.mem_append_right _ (List.mem_append_right _ (List.mem_append_right _ (List.mem_append_right _ (List.mem_append_right _ (List.mem_append_right _ (List.mem_append_right _ (List.mem_append_right _ (List.mem_append_right _ (List.mem_append_right _ (List.mem_append_right _ (List.mem_append_right _ (List.mem_append_right _ (List.mem_append_right _ (List.mem_append_left _ (List.mem_of_getElem? (i := 13) rfl))))))))))))))))) (fun _ h9 => h9) hv hdg kk
theorem fg_LoopRankerModel_16 (X : wk_X p s m args meth c cc "LoopRankerModel" nL BW D cls tys nz A) (hP : va_P D cls ws0 H) (q0 : Nat) {fs : List Value} {v : Value} (he : ws0[q0]? = some (ad, .inr (4, fs))) (hv : fs[3]? = some v) (hdg : decode cc pc = .ok (.getfield 16, 3)) (kk : W p l e R s m args below meth c H locs cells slots Q (F0 m (pc + 3) ls (v :: rest))) : W p l e R s m args below meth c H locs cells slots Q (F0 m pc ls (.ref ad :: rest)) :=
  va_get (D := D) (ci := 4) (C := R_LoopRankerModel) (T := F_LoopRankerModel) (N := 16) X.1.1 X.1.2.1 X.1.2.2.2.2 hin_LoopRankerModel X.1.2.2.2.1 X.2.1 hP q0 he rfl 3 (by decide) (X.1.2.2.2.2 _ (List.mem_append_right _ (List.mem_append_right _ (List.mem_append_right _ (List.mem_append_right _ (List.mem_append_right _ (List.mem_append_right _ (List.mem_append_right _ (List.mem_append_right _ (List.mem_append_right _ (List.mem_append_right _ (List.mem_append_right _ (List.mem_append_right _ (List.mem_append_right _ (List.mem_append_right _ (List.mem_append_left _ (List.mem_of_getElem? (i := 14) rfl))))))))))))))))) (fun _ h9 => h9) hv hdg kk
theorem fg_LoopRankerModel_19 (X : wk_X p s m args meth c cc "LoopRankerModel" nL BW D cls tys nz A) (hP : va_P D cls ws0 H) (q0 : Nat) {fs : List Value} {v : Value} (he : ws0[q0]? = some (ad, .inr (4, fs))) (hv : fs[4]? = some v) (hdg : decode cc pc = .ok (.getfield 19, 3)) (kk : W p l e R s m args below meth c H locs cells slots Q (F0 m (pc + 3) ls (v :: rest))) : W p l e R s m args below meth c H locs cells slots Q (F0 m pc ls (.ref ad :: rest)) :=
  va_get (D := D) (ci := 4) (C := R_LoopRankerModel) (T := F_LoopRankerModel) (N := 16) X.1.1 X.1.2.1 X.1.2.2.2.2 hin_LoopRankerModel X.1.2.2.2.1 X.2.1 hP q0 he rfl 4 (by decide) (X.1.2.2.2.2 _ (List.mem_append_right _ (List.mem_append_right _ (List.mem_append_right _ (List.mem_append_right _ (List.mem_append_right _ (List.mem_append_right _ (List.mem_append_right _ (List.mem_append_right _ (List.mem_append_right _ (List.mem_append_right _ (List.mem_append_right _ (List.mem_append_right _ (List.mem_append_right _ (List.mem_append_right _ (List.mem_append_left _ (List.mem_of_getElem? (i := 15) rfl))))))))))))))))) (fun _ h9 => h9) hv hdg kk
theorem fg_LoopRankerModel_46 (X : wk_X p s m args meth c cc "LoopRankerModel" nL BW D cls tys nz A) (hP : va_P D cls ws0 H) (q0 : Nat) {fs : List Value} {v : Value} (he : ws0[q0]? = some (ad, .inr (4, fs))) (hv : fs[6]? = some v) (hdg : decode cc pc = .ok (.getfield 46, 3)) (kk : W p l e R s m args below meth c H locs cells slots Q (F0 m (pc + 3) ls (v :: rest))) : W p l e R s m args below meth c H locs cells slots Q (F0 m pc ls (.ref ad :: rest)) :=
  va_get (D := D) (ci := 4) (C := R_LoopRankerModel) (T := F_LoopRankerModel) (N := 16) X.1.1 X.1.2.1 X.1.2.2.2.2 hin_LoopRankerModel X.1.2.2.2.1 X.2.1 hP q0 he rfl 6 (by decide) (X.1.2.2.2.2 _ (List.mem_append_right _ (List.mem_append_right _ (List.mem_append_right _ (List.mem_append_right _ (List.mem_append_right _ (List.mem_append_right _ (List.mem_append_right _ (List.mem_append_right _ (List.mem_append_right _ (List.mem_append_right _ (List.mem_append_right _ (List.mem_append_right _ (List.mem_append_right _ (List.mem_append_right _ (List.mem_append_left _ (List.mem_of_getElem? (i := 17) rfl))))))))))))))))) (fun _ h9 => h9) hv hdg kk
theorem fg_LoopRankerModel_50 (X : wk_X p s m args meth c cc "LoopRankerModel" nL BW D cls tys nz A) (hP : va_P D cls ws0 H) (q0 : Nat) {fs : List Value} {v : Value} (he : ws0[q0]? = some (ad, .inr (4, fs))) (hv : fs[8]? = some v) (hdg : decode cc pc = .ok (.getfield 50, 3)) (kk : W p l e R s m args below meth c H locs cells slots Q (F0 m (pc + 3) ls (v :: rest))) : W p l e R s m args below meth c H locs cells slots Q (F0 m pc ls (.ref ad :: rest)) :=
  va_get (D := D) (ci := 4) (C := R_LoopRankerModel) (T := F_LoopRankerModel) (N := 16) X.1.1 X.1.2.1 X.1.2.2.2.2 hin_LoopRankerModel X.1.2.2.2.1 X.2.1 hP q0 he rfl 8 (by decide) (X.1.2.2.2.2 _ (List.mem_append_right _ (List.mem_append_right _ (List.mem_append_right _ (List.mem_append_right _ (List.mem_append_right _ (List.mem_append_right _ (List.mem_append_right _ (List.mem_append_right _ (List.mem_append_right _ (List.mem_append_right _ (List.mem_append_right _ (List.mem_append_right _ (List.mem_append_right _ (List.mem_append_right _ (List.mem_append_left _ (List.mem_of_getElem? (i := 19) rfl))))))))))))))))) (fun _ h9 => h9) hv hdg kk
theorem fg_LoopRankerModel_54 (X : wk_X p s m args meth c cc "LoopRankerModel" nL BW D cls tys nz A) (hP : va_P D cls ws0 H) (q0 : Nat) {fs : List Value} {v : Value} (he : ws0[q0]? = some (ad, .inr (4, fs))) (hv : fs[7]? = some v) (hdg : decode cc pc = .ok (.getfield 54, 3)) (kk : W p l e R s m args below meth c H locs cells slots Q (F0 m (pc + 3) ls (v :: rest))) : W p l e R s m args below meth c H locs cells slots Q (F0 m pc ls (.ref ad :: rest)) :=
  va_get (D := D) (ci := 4) (C := R_LoopRankerModel) (T := F_LoopRankerModel) (N := 16) X.1.1 X.1.2.1 X.1.2.2.2.2 hin_LoopRankerModel X.1.2.2.2.1 X.2.1 hP q0 he rfl 7 (by decide) (X.1.2.2.2.2 _ (List.mem_append_right _ (List.mem_append_right _ (List.mem_append_right _ (List.mem_append_right _ (List.mem_append_right _ (List.mem_append_right _ (List.mem_append_right _ (List.mem_append_right _ (List.mem_append_right _ (List.mem_append_right _ (List.mem_append_right _ (List.mem_append_right _ (List.mem_append_right _ (List.mem_append_right _ (List.mem_append_left _ (List.mem_of_getElem? (i := 18) rfl))))))))))))))))) (fun _ h9 => h9) hv hdg kk
theorem fp_LoopRankerModel_46 (X : wk_X p s m args meth c cc "LoopRankerModel" nL BW D cls tys nz A) (hP : va_P D cls ws0 H) (hD : va_D A ws0) (hS : va_S A s.heap H locs) (q0 : Nat) {fs : List Value} {v : Value} (he : ws0[q0]? = some (ad, .inr (4, fs))) (hn : narrow (.boolean) v = v) (hf : fits (.boolean) v = true) (hl : Nat.ble (6 + 1) fs.length = true) (hdg : decode cc pc = .ok (.putfield 46, 3)) (kk : ∀ (H1 : Heap) (locs1 : List Loc), va_P D cls (ws0.set q0 (ad, .inr (4, fs.set 6 v))) H1 → va_D A (ws0.set q0 (ad, .inr (4, fs.set 6 v))) → va_S A s.heap H1 locs1 → W p l e R s m args below meth c H1 locs1 cells slots Q (F0 m (pc + 3) ls rest)) : W p l e R s m args below meth c H locs cells slots Q (F0 m pc ls (v :: .ref ad :: rest)) :=
  va_put (D := D) (ci := 4) (v := v) (ty := .boolean) (C := R_LoopRankerModel) (T := F_LoopRankerModel) (N := 16) X.1.1 X.1.2.1 X.1.2.2.2.2 hin_LoopRankerModel t_LoopRankerModel t_LoopRankerModel_ok n_LoopRankerModel X.1.2.2.2.1 X.2.1 hP hD hS q0 he rfl 6 (by decide) (X.1.2.2.2.2 _ (List.mem_append_right _ (List.mem_append_right _ (List.mem_append_right _ (List.mem_append_right _ (List.mem_append_right _ (List.mem_append_right _ (List.mem_append_right _ (List.mem_append_right _ (List.mem_append_right _ (List.mem_append_right _ (List.mem_append_right _ (List.mem_append_right _ (List.mem_append_right _ (List.mem_append_right _ (List.mem_append_left _ (List.mem_of_getElem? (i := 17) rfl))))))))))))))))) (fun _ h9 => h9) rfl (by decide +kernel) hn hf (Nat.le_of_ble_eq_true hl) hdg kk
theorem fp_LoopRankerModel_54 (X : wk_X p s m args meth c cc "LoopRankerModel" nL BW D cls tys nz A) (hP : va_P D cls ws0 H) (hD : va_D A ws0) (hS : va_S A s.heap H locs) (q0 : Nat) {fs : List Value} {v : Value} (he : ws0[q0]? = some (ad, .inr (4, fs))) (hn : narrow (.long) v = v) (hf : fits (.long) v = true) (hl : Nat.ble (7 + 1) fs.length = true) (hdg : decode cc pc = .ok (.putfield 54, 3)) (kk : ∀ (H1 : Heap) (locs1 : List Loc), va_P D cls (ws0.set q0 (ad, .inr (4, fs.set 7 v))) H1 → va_D A (ws0.set q0 (ad, .inr (4, fs.set 7 v))) → va_S A s.heap H1 locs1 → W p l e R s m args below meth c H1 locs1 cells slots Q (F0 m (pc + 3) ls rest)) : W p l e R s m args below meth c H locs cells slots Q (F0 m pc ls (v :: .ref ad :: rest)) :=
  va_put (D := D) (ci := 4) (v := v) (ty := .long) (C := R_LoopRankerModel) (T := F_LoopRankerModel) (N := 16) X.1.1 X.1.2.1 X.1.2.2.2.2 hin_LoopRankerModel t_LoopRankerModel t_LoopRankerModel_ok n_LoopRankerModel X.1.2.2.2.1 X.2.1 hP hD hS q0 he rfl 7 (by decide) (X.1.2.2.2.2 _ (List.mem_append_right _ (List.mem_append_right _ (List.mem_append_right _ (List.mem_append_right _ (List.mem_append_right _ (List.mem_append_right _ (List.mem_append_right _ (List.mem_append_right _ (List.mem_append_right _ (List.mem_append_right _ (List.mem_append_right _ (List.mem_append_right _ (List.mem_append_right _ (List.mem_append_right _ (List.mem_append_left _ (List.mem_of_getElem? (i := 18) rfl))))))))))))))))) (fun _ h9 => h9) rfl (by decide +kernel) hn hf (Nat.le_of_ble_eq_true hl) hdg kk
theorem fp_LoopRankerModel_50 (X : wk_X p s m args meth c cc "LoopRankerModel" nL BW D cls tys nz A) (hP : va_P D cls ws0 H) (hD : va_D A ws0) (hS : va_S A s.heap H locs) (q0 : Nat) {fs : List Value} {v : Value} (he : ws0[q0]? = some (ad, .inr (4, fs))) (hn : narrow (.long) v = v) (hf : fits (.long) v = true) (hl : Nat.ble (8 + 1) fs.length = true) (hdg : decode cc pc = .ok (.putfield 50, 3)) (kk : ∀ (H1 : Heap) (locs1 : List Loc), va_P D cls (ws0.set q0 (ad, .inr (4, fs.set 8 v))) H1 → va_D A (ws0.set q0 (ad, .inr (4, fs.set 8 v))) → va_S A s.heap H1 locs1 → W p l e R s m args below meth c H1 locs1 cells slots Q (F0 m (pc + 3) ls rest)) : W p l e R s m args below meth c H locs cells slots Q (F0 m pc ls (v :: .ref ad :: rest)) :=
  va_put (D := D) (ci := 4) (v := v) (ty := .long) (C := R_LoopRankerModel) (T := F_LoopRankerModel) (N := 16) X.1.1 X.1.2.1 X.1.2.2.2.2 hin_LoopRankerModel t_LoopRankerModel t_LoopRankerModel_ok n_LoopRankerModel X.1.2.2.2.1 X.2.1 hP hD hS q0 he rfl 8 (by decide) (X.1.2.2.2.2 _ (List.mem_append_right _ (List.mem_append_right _ (List.mem_append_right _ (List.mem_append_right _ (List.mem_append_right _ (List.mem_append_right _ (List.mem_append_right _ (List.mem_append_right _ (List.mem_append_right _ (List.mem_append_right _ (List.mem_append_right _ (List.mem_append_right _ (List.mem_append_right _ (List.mem_append_right _ (List.mem_append_left _ (List.mem_of_getElem? (i := 19) rfl))))))))))))))))) (fun _ h9 => h9) rfl (by decide +kernel) hn hf (Nat.le_of_ble_eq_true hl) hdg kk
theorem cw_LoopRankerModel_57 (hT : ∀ w ∈ BW, w.before args s = true) (hZ : wk_Z nz s) (hR : rm_LoopRankerModel_meet.frames + 1 ≤ R.frames ∧ 8 + (18 + 11) + rm_LoopRankerModel_meet.locals ≤ R.locals) : (CallB R s args "LoopRankerModel" 57 y_LoopRankerModel_meet b_LoopRankerModel_meet 18 none (Cond.code y_LoopRankerModel_meet b_LoopRankerModel_meet 18 none :: BW) rm_LoopRankerModel_meet 0 0 6) ∧ (Cond.instanceMethod y_LoopRankerModel_meet).before args s = true ∧ (Cond.selects "LoopRankerModel" y_LoopRankerModel_meet y_LoopRankerModel_meet).before args s = true :=
  ⟨callB_of 6 hT (BW_good kw_LoopRankerModel_meet) rfl rfl rfl (hT _ (List.mem_append_left _ (List.mem_of_getElem? (i := 6) rfl))) (hT _ (List.mem_append_right _ (List.mem_append_right _ (List.mem_append_right _ (List.mem_append_right _ (List.mem_append_right _ (List.mem_append_right _ (List.mem_append_right _ (List.mem_append_right _ (List.mem_append_right _ (List.mem_append_right _ (List.mem_append_right _ (List.mem_append_right _ (List.mem_append_right _ (List.mem_append_right _ (List.mem_append_right _ (List.mem_append_right _ (List.mem_append_right _ (List.mem_append_right _ (List.mem_append_left _ (List.mem_of_getElem? (i := 17) rfl))))))))))))))))))))) ⟨by decide, by decide, by decide +kernel⟩ hR, (hT _ (List.mem_append_right _ (List.mem_append_right _ (List.mem_append_right _ (List.mem_append_right _ (List.mem_append_right _ (List.mem_append_right _ (List.mem_append_right _ (List.mem_append_right _ (List.mem_append_right _ (List.mem_append_right _ (List.mem_append_right _ (List.mem_append_right _ (List.mem_append_right _ (List.mem_append_right _ (List.mem_append_right _ (List.mem_append_right _ (List.mem_append_right _ (List.mem_append_right _ (List.mem_append_left _ (List.mem_of_getElem? (i := 18) rfl))))))))))))))))))))), (hT _ (List.mem_append_right _ (List.mem_append_right _ (List.mem_append_right _ (List.mem_append_right _ (List.mem_append_right _ (List.mem_append_right _ (List.mem_append_right _ (List.mem_append_right _ (List.mem_append_right _ (List.mem_append_right _ (List.mem_append_right _ (List.mem_append_right _ (List.mem_append_right _ (List.mem_append_right _ (List.mem_append_right _ (List.mem_append_right _ (List.mem_append_right _ (List.mem_append_right _ (List.mem_append_right _ (List.mem_append_right _ (List.mem_append_right _ (List.mem_append_right _ (List.mem_append_right _ (List.mem_append_right _ (List.mem_append_right _ (List.mem_of_getElem? (i := 3) rfl)))))))))))))))))))))))))))⟩
theorem cw_LoopRankerModel_61 (hT : ∀ w ∈ BW, w.before args s = true) (hZ : wk_Z nz s) (hR : rm_LoopRankerModel_way.frames + 1 ≤ R.frames ∧ 8 + (8 + 11) + rm_LoopRankerModel_way.locals ≤ R.locals) : (CallB R s args "LoopRankerModel" 61 y_LoopRankerModel_way b_LoopRankerModel_way 8 (some .boolean) (Cond.code y_LoopRankerModel_way b_LoopRankerModel_way 8 (some .boolean) :: BW) rm_LoopRankerModel_way 0 0 5) ∧ (Cond.instanceMethod y_LoopRankerModel_way).before args s = true ∧ (Cond.selects "LoopRankerModel" y_LoopRankerModel_way y_LoopRankerModel_way).before args s = true :=
  ⟨callB_of 5 hT (BW_good kw_LoopRankerModel_way) rfl rfl rfl (hT _ (List.mem_append_left _ (List.mem_of_getElem? (i := 6) rfl))) (hT _ (List.mem_append_right _ (List.mem_append_right _ (List.mem_append_right _ (List.mem_append_right _ (List.mem_append_right _ (List.mem_append_right _ (List.mem_append_right _ (List.mem_append_right _ (List.mem_append_right _ (List.mem_append_right _ (List.mem_append_right _ (List.mem_append_right _ (List.mem_append_right _ (List.mem_append_right _ (List.mem_append_right _ (List.mem_append_right _ (List.mem_append_right _ (List.mem_append_right _ (List.mem_append_right _ (List.mem_append_left _ (List.mem_of_getElem? (i := 7) rfl)))))))))))))))))))))) ⟨by decide, by decide, by decide +kernel⟩ hR, (hT _ (List.mem_append_right _ (List.mem_append_right _ (List.mem_append_right _ (List.mem_append_right _ (List.mem_append_right _ (List.mem_append_right _ (List.mem_append_right _ (List.mem_append_right _ (List.mem_append_right _ (List.mem_append_right _ (List.mem_append_right _ (List.mem_append_right _ (List.mem_append_right _ (List.mem_append_right _ (List.mem_append_right _ (List.mem_append_right _ (List.mem_append_right _ (List.mem_append_right _ (List.mem_append_right _ (List.mem_append_left _ (List.mem_of_getElem? (i := 8) rfl)))))))))))))))))))))), (hT _ (List.mem_append_right _ (List.mem_append_right _ (List.mem_append_right _ (List.mem_append_right _ (List.mem_append_right _ (List.mem_append_right _ (List.mem_append_right _ (List.mem_append_right _ (List.mem_append_right _ (List.mem_append_right _ (List.mem_append_right _ (List.mem_append_right _ (List.mem_append_right _ (List.mem_append_right _ (List.mem_append_right _ (List.mem_append_right _ (List.mem_append_right _ (List.mem_append_right _ (List.mem_append_right _ (List.mem_append_right _ (List.mem_append_right _ (List.mem_append_right _ (List.mem_append_right _ (List.mem_append_right _ (List.mem_append_right _ (List.mem_of_getElem? (i := 6) rfl)))))))))))))))))))))))))))⟩
theorem cw_LoopRankerModel_65 (hT : ∀ w ∈ BW, w.before args s = true) (hZ : wk_Z nz s) (hR : rm_LoopRankerModel_look.frames + 1 ≤ R.frames ∧ 8 + (8 + 11) + rm_LoopRankerModel_look.locals ≤ R.locals) : (CallB R s args "LoopRankerModel" 65 y_LoopRankerModel_look b_LoopRankerModel_look 8 none (Cond.code y_LoopRankerModel_look b_LoopRankerModel_look 8 none :: BW) rm_LoopRankerModel_look 0 0 3) ∧ (Cond.instanceMethod y_LoopRankerModel_look).before args s = true ∧ (Cond.selects "LoopRankerModel" y_LoopRankerModel_look y_LoopRankerModel_look).before args s = true :=
  ⟨callB_of 3 hT (BW_good kw_LoopRankerModel_look) rfl rfl rfl (hT _ (List.mem_append_left _ (List.mem_of_getElem? (i := 6) rfl))) (hT _ (List.mem_append_right _ (List.mem_append_right _ (List.mem_append_right _ (List.mem_append_right _ (List.mem_append_right _ (List.mem_append_right _ (List.mem_append_right _ (List.mem_append_right _ (List.mem_append_right _ (List.mem_append_right _ (List.mem_append_right _ (List.mem_append_right _ (List.mem_append_right _ (List.mem_append_right _ (List.mem_append_right _ (List.mem_append_right _ (List.mem_append_right _ (List.mem_append_right _ (List.mem_append_left _ (List.mem_of_getElem? (i := 14) rfl))))))))))))))))))))) ⟨by decide, by decide, by decide +kernel⟩ hR, (hT _ (List.mem_append_right _ (List.mem_append_right _ (List.mem_append_right _ (List.mem_append_right _ (List.mem_append_right _ (List.mem_append_right _ (List.mem_append_right _ (List.mem_append_right _ (List.mem_append_right _ (List.mem_append_right _ (List.mem_append_right _ (List.mem_append_right _ (List.mem_append_right _ (List.mem_append_right _ (List.mem_append_right _ (List.mem_append_right _ (List.mem_append_right _ (List.mem_append_right _ (List.mem_append_left _ (List.mem_of_getElem? (i := 15) rfl))))))))))))))))))))), (hT _ (List.mem_append_right _ (List.mem_append_right _ (List.mem_append_right _ (List.mem_append_right _ (List.mem_append_right _ (List.mem_append_right _ (List.mem_append_right _ (List.mem_append_right _ (List.mem_append_right _ (List.mem_append_right _ (List.mem_append_right _ (List.mem_append_right _ (List.mem_append_right _ (List.mem_append_right _ (List.mem_append_right _ (List.mem_append_right _ (List.mem_append_right _ (List.mem_append_right _ (List.mem_append_right _ (List.mem_append_right _ (List.mem_append_right _ (List.mem_append_right _ (List.mem_append_right _ (List.mem_append_right _ (List.mem_append_right _ (List.mem_of_getElem? (i := 2) rfl)))))))))))))))))))))))))))⟩
theorem cw_LoopRankerModel_69 (hT : ∀ w ∈ BW, w.before args s = true) (hZ : wk_Z nz s) (hR : rm_LoopRankerModel_endless.frames + 1 ≤ R.frames ∧ 8 + (6 + 11) + rm_LoopRankerModel_endless.locals ≤ R.locals) : (CallB R s args "LoopRankerModel" 69 y_LoopRankerModel_endless b_LoopRankerModel_endless 6 (some .boolean) (Cond.code y_LoopRankerModel_endless b_LoopRankerModel_endless 6 (some .boolean) :: BW) rm_LoopRankerModel_endless 0 0 3) ∧ (Cond.instanceMethod y_LoopRankerModel_endless).before args s = true ∧ (Cond.selects "LoopRankerModel" y_LoopRankerModel_endless y_LoopRankerModel_endless).before args s = true :=
  ⟨callB_of 3 hT (BW_good kw_LoopRankerModel_endless) rfl rfl rfl (hT _ (List.mem_append_left _ (List.mem_of_getElem? (i := 6) rfl))) (hT _ (List.mem_append_right _ (List.mem_append_right _ (List.mem_append_right _ (List.mem_append_right _ (List.mem_append_right _ (List.mem_append_right _ (List.mem_append_right _ (List.mem_append_right _ (List.mem_append_right _ (List.mem_append_right _ (List.mem_append_right _ (List.mem_append_right _ (List.mem_append_right _ (List.mem_append_right _ (List.mem_append_right _ (List.mem_append_right _ (List.mem_append_right _ (List.mem_append_right _ (List.mem_append_right _ (List.mem_append_left _ (List.mem_of_getElem? (i := 4) rfl)))))))))))))))))))))) ⟨by decide, by decide, by decide +kernel⟩ hR, (hT _ (List.mem_append_right _ (List.mem_append_right _ (List.mem_append_right _ (List.mem_append_right _ (List.mem_append_right _ (List.mem_append_right _ (List.mem_append_right _ (List.mem_append_right _ (List.mem_append_right _ (List.mem_append_right _ (List.mem_append_right _ (List.mem_append_right _ (List.mem_append_right _ (List.mem_append_right _ (List.mem_append_right _ (List.mem_append_right _ (List.mem_append_right _ (List.mem_append_right _ (List.mem_append_right _ (List.mem_append_left _ (List.mem_of_getElem? (i := 5) rfl)))))))))))))))))))))), (hT _ (List.mem_append_right _ (List.mem_append_right _ (List.mem_append_right _ (List.mem_append_right _ (List.mem_append_right _ (List.mem_append_right _ (List.mem_append_right _ (List.mem_append_right _ (List.mem_append_right _ (List.mem_append_right _ (List.mem_append_right _ (List.mem_append_right _ (List.mem_append_right _ (List.mem_append_right _ (List.mem_append_right _ (List.mem_append_right _ (List.mem_append_right _ (List.mem_append_right _ (List.mem_append_right _ (List.mem_append_right _ (List.mem_append_right _ (List.mem_append_right _ (List.mem_append_right _ (List.mem_append_right _ (List.mem_append_right _ (List.mem_of_getElem? (i := 5) rfl)))))))))))))))))))))))))))⟩
theorem kc_LoopRankerModel_73 : Jvm.Cond.constantLong "LoopRankerModel" 73 (4611686018427387904) ∈ BW := (List.mem_append_right _ (List.mem_append_right _ (List.mem_append_right _ (List.mem_append_right _ (List.mem_append_right _ (List.mem_append_right _ (List.mem_append_right _ (List.mem_append_right _ (List.mem_append_right _ (List.mem_append_right _ (List.mem_append_right _ (List.mem_append_right _ (List.mem_append_right _ (List.mem_append_right _ (List.mem_append_right _ (List.mem_append_right _ (List.mem_append_right _ (List.mem_append_right _ (List.mem_append_left _ (List.mem_of_getElem? (i := 10) rfl))))))))))))))))))))
theorem cw_LoopRankerModel_75 (hT : ∀ w ∈ BW, w.before args s = true) (hZ : wk_Z nz s) (hR : rm_LoopRankerModel_empty.frames + 1 ≤ R.frames ∧ 8 + (2 + 11) + rm_LoopRankerModel_empty.locals ≤ R.locals) : (CallB R s args "LoopRankerModel" 75 y_LoopRankerModel_empty b_LoopRankerModel_empty 2 (some .boolean) (Cond.code y_LoopRankerModel_empty b_LoopRankerModel_empty 2 (some .boolean) :: BW) rm_LoopRankerModel_empty 0 0 1) ∧ (Cond.instanceMethod y_LoopRankerModel_empty).before args s = true ∧ (Cond.selects "LoopRankerModel" y_LoopRankerModel_empty y_LoopRankerModel_empty).before args s = true :=
  ⟨callB_of 1 hT (BW_good kw_LoopRankerModel_empty) rfl rfl rfl (hT _ (List.mem_append_left _ (List.mem_of_getElem? (i := 6) rfl))) (hT _ (List.mem_append_right _ (List.mem_append_right _ (List.mem_append_right _ (List.mem_append_right _ (List.mem_append_right _ (List.mem_append_right _ (List.mem_append_right _ (List.mem_append_right _ (List.mem_append_right _ (List.mem_append_right _ (List.mem_append_right _ (List.mem_append_right _ (List.mem_append_right _ (List.mem_append_right _ (List.mem_append_right _ (List.mem_append_right _ (List.mem_append_right _ (List.mem_append_right _ (List.mem_append_left _ (List.mem_of_getElem? (i := 11) rfl))))))))))))))))))))) ⟨by decide, by decide, by decide +kernel⟩ hR, (hT _ (List.mem_append_right _ (List.mem_append_right _ (List.mem_append_right _ (List.mem_append_right _ (List.mem_append_right _ (List.mem_append_right _ (List.mem_append_right _ (List.mem_append_right _ (List.mem_append_right _ (List.mem_append_right _ (List.mem_append_right _ (List.mem_append_right _ (List.mem_append_right _ (List.mem_append_right _ (List.mem_append_right _ (List.mem_append_right _ (List.mem_append_right _ (List.mem_append_right _ (List.mem_append_left _ (List.mem_of_getElem? (i := 12) rfl))))))))))))))))))))), (hT _ (List.mem_append_right _ (List.mem_append_right _ (List.mem_append_right _ (List.mem_append_right _ (List.mem_append_right _ (List.mem_append_right _ (List.mem_append_right _ (List.mem_append_right _ (List.mem_append_right _ (List.mem_append_right _ (List.mem_append_right _ (List.mem_append_right _ (List.mem_append_right _ (List.mem_append_right _ (List.mem_append_right _ (List.mem_append_right _ (List.mem_append_right _ (List.mem_append_right _ (List.mem_append_right _ (List.mem_append_right _ (List.mem_append_right _ (List.mem_append_right _ (List.mem_append_right _ (List.mem_append_right _ (List.mem_append_right _ (List.mem_of_getElem? (i := 1) rfl)))))))))))))))))))))))))))⟩
theorem kc_LoopRankerModel_78 : Jvm.Cond.constantLong "LoopRankerModel" 78 (-4611686018427387904) ∈ BW := (List.mem_append_right _ (List.mem_append_right _ (List.mem_append_right _ (List.mem_append_right _ (List.mem_append_right _ (List.mem_append_right _ (List.mem_append_right _ (List.mem_append_right _ (List.mem_append_right _ (List.mem_append_right _ (List.mem_append_right _ (List.mem_append_right _ (List.mem_append_right _ (List.mem_append_right _ (List.mem_append_right _ (List.mem_append_right _ (List.mem_append_right _ (List.mem_append_right _ (List.mem_append_right _ (List.mem_append_left _ (List.mem_of_getElem? (i := 0) rfl)))))))))))))))))))))
theorem cw_LoopRankerModel_80 (hT : ∀ w ∈ BW, w.before args s = true) (hZ : wk_Z nz s) (hR : rm_LoopRankerModel_said.frames + 1 ≤ R.frames ∧ 8 + (4 + 11) + rm_LoopRankerModel_said.locals ≤ R.locals) : (CallB R s args "LoopRankerModel" 80 y_LoopRankerModel_said b_LoopRankerModel_said 4 (some .boolean) (Cond.code y_LoopRankerModel_said b_LoopRankerModel_said 4 (some .boolean) :: BW) rm_LoopRankerModel_said 0 0 3) ∧ (Cond.instanceMethod y_LoopRankerModel_said).before args s = true ∧ (Cond.selects "LoopRankerModel" y_LoopRankerModel_said y_LoopRankerModel_said).before args s = true :=
  ⟨callB_of 3 hT (BW_good kw_LoopRankerModel_said) rfl rfl rfl (hT _ (List.mem_append_left _ (List.mem_of_getElem? (i := 6) rfl))) (hT _ (List.mem_append_right _ (List.mem_append_right _ (List.mem_append_right _ (List.mem_append_right _ (List.mem_append_right _ (List.mem_append_right _ (List.mem_append_right _ (List.mem_append_right _ (List.mem_append_right _ (List.mem_append_right _ (List.mem_append_right _ (List.mem_append_right _ (List.mem_append_right _ (List.mem_append_right _ (List.mem_append_right _ (List.mem_append_right _ (List.mem_append_right _ (List.mem_append_right _ (List.mem_append_right _ (List.mem_append_left _ (List.mem_of_getElem? (i := 1) rfl)))))))))))))))))))))) ⟨by decide, by decide, by decide +kernel⟩ hR, (hT _ (List.mem_append_right _ (List.mem_append_right _ (List.mem_append_right _ (List.mem_append_right _ (List.mem_append_right _ (List.mem_append_right _ (List.mem_append_right _ (List.mem_append_right _ (List.mem_append_right _ (List.mem_append_right _ (List.mem_append_right _ (List.mem_append_right _ (List.mem_append_right _ (List.mem_append_right _ (List.mem_append_right _ (List.mem_append_right _ (List.mem_append_right _ (List.mem_append_right _ (List.mem_append_right _ (List.mem_append_left _ (List.mem_of_getElem? (i := 2) rfl)))))))))))))))))))))), (hT _ (List.mem_append_right _ (List.mem_append_right _ (List.mem_append_right _ (List.mem_append_right _ (List.mem_append_right _ (List.mem_append_right _ (List.mem_append_right _ (List.mem_append_right _ (List.mem_append_right _ (List.mem_append_right _ (List.mem_append_right _ (List.mem_append_right _ (List.mem_append_right _ (List.mem_append_right _ (List.mem_append_right _ (List.mem_append_right _ (List.mem_append_right _ (List.mem_append_right _ (List.mem_append_right _ (List.mem_append_right _ (List.mem_append_right _ (List.mem_append_right _ (List.mem_append_right _ (List.mem_append_right _ (List.mem_append_right _ (List.mem_of_getElem? (i := 4) rfl)))))))))))))))))))))))))))⟩
theorem cw_LoopRankerModel_83 (hT : ∀ w ∈ BW, w.before args s = true) (hZ : wk_Z nz s) (hR : rm_LoopRankerModel_down.frames + 1 ≤ R.frames ∧ 8 + (6 + 11) + rm_LoopRankerModel_down.locals ≤ R.locals) : (CallB R s args "LoopRankerModel" 83 y_LoopRankerModel_down b_LoopRankerModel_down 6 (some .long) (Cond.code y_LoopRankerModel_down b_LoopRankerModel_down 6 (some .long) :: BW) rm_LoopRankerModel_down 0 0 2) ∧ (Cond.static y_LoopRankerModel_down).before args s = true :=
  ⟨callB_of 2 hT (BW_good kw_LoopRankerModel_down) rfl rfl rfl (hT _ (List.mem_append_left _ (List.mem_of_getElem? (i := 6) rfl))) (hT _ (List.mem_append_right _ (List.mem_append_right _ (List.mem_append_right _ (List.mem_append_right _ (List.mem_append_right _ (List.mem_append_right _ (List.mem_append_right _ (List.mem_append_right _ (List.mem_append_right _ (List.mem_append_right _ (List.mem_append_right _ (List.mem_append_right _ (List.mem_append_right _ (List.mem_append_right _ (List.mem_append_right _ (List.mem_append_right _ (List.mem_append_right _ (List.mem_append_right _ (List.mem_append_right _ (List.mem_append_left _ (List.mem_of_getElem? (i := 10) rfl)))))))))))))))))))))) ⟨by decide, by decide, by decide +kernel⟩ hR, (hT _ (List.mem_append_right _ (List.mem_append_right _ (List.mem_append_right _ (List.mem_append_right _ (List.mem_append_right _ (List.mem_append_right _ (List.mem_append_right _ (List.mem_append_right _ (List.mem_append_right _ (List.mem_append_right _ (List.mem_append_right _ (List.mem_append_right _ (List.mem_append_right _ (List.mem_append_right _ (List.mem_append_right _ (List.mem_append_right _ (List.mem_append_right _ (List.mem_append_right _ (List.mem_append_right _ (List.mem_append_left _ (List.mem_of_getElem? (i := 11) rfl))))))))))))))))))))))⟩
theorem cw_LoopRankerModel_87 (hT : ∀ w ∈ BW, w.before args s = true) (hZ : wk_Z nz s) (hR : rm_LoopRankerModel_never.frames + 1 ≤ R.frames ∧ 8 + (5 + 11) + rm_LoopRankerModel_never.locals ≤ R.locals) : (CallB R s args "LoopRankerModel" 87 y_LoopRankerModel_never b_LoopRankerModel_never 5 (some .boolean) (Cond.code y_LoopRankerModel_never b_LoopRankerModel_never 5 (some .boolean) :: BW) rm_LoopRankerModel_never 0 0 4) ∧ (Cond.instanceMethod y_LoopRankerModel_never).before args s = true ∧ (Cond.selects "LoopRankerModel" y_LoopRankerModel_never y_LoopRankerModel_never).before args s = true :=
  ⟨callB_of 4 hT (BW_good kw_LoopRankerModel_never) rfl rfl rfl (hT _ (List.mem_append_left _ (List.mem_of_getElem? (i := 6) rfl))) (hT _ (List.mem_append_right _ (List.mem_append_right _ (List.mem_append_right _ (List.mem_append_right _ (List.mem_append_right _ (List.mem_append_right _ (List.mem_append_right _ (List.mem_append_right _ (List.mem_append_right _ (List.mem_append_right _ (List.mem_append_right _ (List.mem_append_right _ (List.mem_append_right _ (List.mem_append_right _ (List.mem_append_right _ (List.mem_append_right _ (List.mem_append_right _ (List.mem_append_right _ (List.mem_append_right _ (List.mem_append_right _ (List.mem_append_left _ (List.mem_of_getElem? (i := 0) rfl))))))))))))))))))))))) ⟨by decide, by decide, by decide +kernel⟩ hR, (hT _ (List.mem_append_right _ (List.mem_append_right _ (List.mem_append_right _ (List.mem_append_right _ (List.mem_append_right _ (List.mem_append_right _ (List.mem_append_right _ (List.mem_append_right _ (List.mem_append_right _ (List.mem_append_right _ (List.mem_append_right _ (List.mem_append_right _ (List.mem_append_right _ (List.mem_append_right _ (List.mem_append_right _ (List.mem_append_right _ (List.mem_append_right _ (List.mem_append_right _ (List.mem_append_right _ (List.mem_append_right _ (List.mem_append_left _ (List.mem_of_getElem? (i := 1) rfl))))))))))))))))))))))), (hT _ (List.mem_append_right _ (List.mem_append_right _ (List.mem_append_right _ (List.mem_append_right _ (List.mem_append_right _ (List.mem_append_right _ (List.mem_append_right _ (List.mem_append_right _ (List.mem_append_right _ (List.mem_append_right _ (List.mem_append_right _ (List.mem_append_right _ (List.mem_append_right _ (List.mem_append_right _ (List.mem_append_right _ (List.mem_append_right _ (List.mem_append_right _ (List.mem_append_right _ (List.mem_append_right _ (List.mem_append_right _ (List.mem_append_right _ (List.mem_append_right _ (List.mem_append_right _ (List.mem_append_right _ (List.mem_append_right _ (List.mem_of_getElem? (i := 8) rfl)))))))))))))))))))))))))))⟩
theorem cw_LoopRankerModel_91 (hT : ∀ w ∈ BW, w.before args s = true) (hZ : wk_Z nz s) (hR : rm_LoopRankerModel_has.frames + 1 ≤ R.frames ∧ 8 + (9 + 11) + rm_LoopRankerModel_has.locals ≤ R.locals) : (CallB R s args "LoopRankerModel" 91 y_LoopRankerModel_has b_LoopRankerModel_has 9 (some .boolean) (Cond.code y_LoopRankerModel_has b_LoopRankerModel_has 9 (some .boolean) :: BW) rm_LoopRankerModel_has 0 0 4) ∧ (Cond.instanceMethod y_LoopRankerModel_has).before args s = true ∧ (Cond.selects "LoopRankerModel" y_LoopRankerModel_has y_LoopRankerModel_has).before args s = true :=
  ⟨callB_of 4 hT (BW_good kw_LoopRankerModel_has) rfl rfl rfl (hT _ (List.mem_append_left _ (List.mem_of_getElem? (i := 6) rfl))) (hT _ (List.mem_append_right _ (List.mem_append_right _ (List.mem_append_right _ (List.mem_append_right _ (List.mem_append_right _ (List.mem_append_right _ (List.mem_append_right _ (List.mem_append_right _ (List.mem_append_right _ (List.mem_append_right _ (List.mem_append_right _ (List.mem_append_right _ (List.mem_append_right _ (List.mem_append_right _ (List.mem_append_right _ (List.mem_append_right _ (List.mem_append_right _ (List.mem_append_right _ (List.mem_append_right _ (List.mem_append_left _ (List.mem_of_getElem? (i := 17) rfl)))))))))))))))))))))) ⟨by decide, by decide, by decide +kernel⟩ hR, (hT _ (List.mem_append_right _ (List.mem_append_right _ (List.mem_append_right _ (List.mem_append_right _ (List.mem_append_right _ (List.mem_append_right _ (List.mem_append_right _ (List.mem_append_right _ (List.mem_append_right _ (List.mem_append_right _ (List.mem_append_right _ (List.mem_append_right _ (List.mem_append_right _ (List.mem_append_right _ (List.mem_append_right _ (List.mem_append_right _ (List.mem_append_right _ (List.mem_append_right _ (List.mem_append_right _ (List.mem_append_left _ (List.mem_of_getElem? (i := 18) rfl)))))))))))))))))))))), (hT _ (List.mem_append_right _ (List.mem_append_right _ (List.mem_append_right _ (List.mem_append_right _ (List.mem_append_right _ (List.mem_append_right _ (List.mem_append_right _ (List.mem_append_right _ (List.mem_append_right _ (List.mem_append_right _ (List.mem_append_right _ (List.mem_append_right _ (List.mem_append_right _ (List.mem_append_right _ (List.mem_append_right _ (List.mem_append_right _ (List.mem_append_right _ (List.mem_append_right _ (List.mem_append_right _ (List.mem_append_right _ (List.mem_append_right _ (List.mem_append_right _ (List.mem_append_right _ (List.mem_append_right _ (List.mem_append_right _ (List.mem_of_getElem? (i := 7) rfl)))))))))))))))))))))))))))⟩
theorem fg_LoopRankerModel_25 (X : wk_X p s m args meth c cc "LoopRankerModel" nL BW D cls tys nz A) (hP : va_P D cls ws0 H) (q0 : Nat) {fs : List Value} {v : Value} (he : ws0[q0]? = some (ad, .inr (4, fs))) (hv : fs[10]? = some v) (hdg : decode cc pc = .ok (.getfield 25, 3)) (kk : W p l e R s m args below meth c H locs cells slots Q (F0 m (pc + 3) ls (v :: rest))) : W p l e R s m args below meth c H locs cells slots Q (F0 m pc ls (.ref ad :: rest)) :=
  va_get (D := D) (ci := 4) (C := R_LoopRankerModel) (T := F_LoopRankerModel) (N := 16) X.1.1 X.1.2.1 X.1.2.2.2.2 hin_LoopRankerModel X.1.2.2.2.1 X.2.1 hP q0 he rfl 10 (by decide) (X.1.2.2.2.2 _ (List.mem_append_right _ (List.mem_append_right _ (List.mem_append_right _ (List.mem_append_right _ (List.mem_append_right _ (List.mem_append_right _ (List.mem_append_right _ (List.mem_append_right _ (List.mem_append_right _ (List.mem_append_right _ (List.mem_append_right _ (List.mem_append_right _ (List.mem_append_right _ (List.mem_append_right _ (List.mem_append_right _ (List.mem_append_left _ (List.mem_of_getElem? (i := 1) rfl)))))))))))))))))) (fun _ h9 => h9) hv hdg kk
theorem cw_LoopRankerModel_94 (hT : ∀ w ∈ BW, w.before args s = true) (hZ : wk_Z nz s) (hR : rm_LoopRankerModel_size.frames + 1 ≤ R.frames ∧ 8 + (1 + 11) + rm_LoopRankerModel_size.locals ≤ R.locals) : (CallB R s args "LoopRankerModel" 94 y_LoopRankerModel_size b_LoopRankerModel_size 1 (some .int) (Cond.code y_LoopRankerModel_size b_LoopRankerModel_size 1 (some .int) :: BW) rm_LoopRankerModel_size 0 0 1) ∧ (Cond.static y_LoopRankerModel_size).before args s = true :=
  ⟨callB_of 1 hT (BW_good kw_LoopRankerModel_size) rfl rfl rfl (hT _ (List.mem_append_left _ (List.mem_of_getElem? (i := 6) rfl))) (hT _ (List.mem_append_right _ (List.mem_append_right _ (List.mem_append_right _ (List.mem_append_right _ (List.mem_append_right _ (List.mem_append_right _ (List.mem_append_right _ (List.mem_append_right _ (List.mem_append_right _ (List.mem_append_right _ (List.mem_append_right _ (List.mem_append_right _ (List.mem_append_right _ (List.mem_append_right _ (List.mem_append_right _ (List.mem_append_right _ (List.mem_append_right _ (List.mem_append_right _ (List.mem_append_right _ (List.mem_append_right _ (List.mem_append_right _ (List.mem_append_left _ (List.mem_of_getElem? (i := 2) rfl)))))))))))))))))))))))) ⟨by decide, by decide, by decide +kernel⟩ hR, (hT _ (List.mem_append_right _ (List.mem_append_right _ (List.mem_append_right _ (List.mem_append_right _ (List.mem_append_right _ (List.mem_append_right _ (List.mem_append_right _ (List.mem_append_right _ (List.mem_append_right _ (List.mem_append_right _ (List.mem_append_right _ (List.mem_append_right _ (List.mem_append_right _ (List.mem_append_right _ (List.mem_append_right _ (List.mem_append_right _ (List.mem_append_right _ (List.mem_append_right _ (List.mem_append_right _ (List.mem_append_right _ (List.mem_append_right _ (List.mem_append_left _ (List.mem_of_getElem? (i := 3) rfl))))))))))))))))))))))))⟩
theorem cw_LoopRankerModel_98 (hT : ∀ w ∈ BW, w.before args s = true) (hZ : wk_Z nz s) (hR : rm_LoopRankerModel_removes.frames + 1 ≤ R.frames ∧ 8 + (5 + 11) + rm_LoopRankerModel_removes.locals ≤ R.locals) : (CallB R s args "LoopRankerModel" 98 y_LoopRankerModel_removes b_LoopRankerModel_removes 5 (some .int) (Cond.code y_LoopRankerModel_removes b_LoopRankerModel_removes 5 (some .int) :: BW) rm_LoopRankerModel_removes 0 0 2) ∧ (Cond.instanceMethod y_LoopRankerModel_removes).before args s = true ∧ (Cond.selects "LoopRankerModel" y_LoopRankerModel_removes y_LoopRankerModel_removes).before args s = true :=
  ⟨callB_of 2 hT (BW_good kw_LoopRankerModel_removes) rfl rfl rfl (hT _ (List.mem_append_left _ (List.mem_of_getElem? (i := 6) rfl))) (hT _ (List.mem_append_right _ (List.mem_append_right _ (List.mem_append_right _ (List.mem_append_right _ (List.mem_append_right _ (List.mem_append_right _ (List.mem_append_right _ (List.mem_append_right _ (List.mem_append_right _ (List.mem_append_right _ (List.mem_append_right _ (List.mem_append_right _ (List.mem_append_right _ (List.mem_append_right _ (List.mem_append_right _ (List.mem_append_right _ (List.mem_append_right _ (List.mem_append_right _ (List.mem_append_right _ (List.mem_append_right _ (List.mem_append_left _ (List.mem_of_getElem? (i := 16) rfl))))))))))))))))))))))) ⟨by decide, by decide, by decide +kernel⟩ hR, (hT _ (List.mem_append_right _ (List.mem_append_right _ (List.mem_append_right _ (List.mem_append_right _ (List.mem_append_right _ (List.mem_append_right _ (List.mem_append_right _ (List.mem_append_right _ (List.mem_append_right _ (List.mem_append_right _ (List.mem_append_right _ (List.mem_append_right _ (List.mem_append_right _ (List.mem_append_right _ (List.mem_append_right _ (List.mem_append_right _ (List.mem_append_right _ (List.mem_append_right _ (List.mem_append_right _ (List.mem_append_right _ (List.mem_append_left _ (List.mem_of_getElem? (i := 17) rfl))))))))))))))))))))))), (hT _ (List.mem_append_right _ (List.mem_append_right _ (List.mem_append_right _ (List.mem_append_right _ (List.mem_append_right _ (List.mem_append_right _ (List.mem_append_right _ (List.mem_append_right _ (List.mem_append_right _ (List.mem_append_right _ (List.mem_append_right _ (List.mem_append_right _ (List.mem_append_right _ (List.mem_append_right _ (List.mem_append_right _ (List.mem_append_right _ (List.mem_append_right _ (List.mem_append_right _ (List.mem_append_right _ (List.mem_append_right _ (List.mem_append_right _ (List.mem_append_right _ (List.mem_append_right _ (List.mem_append_right _ (List.mem_append_right _ (List.mem_of_getElem? (i := 12) rfl)))))))))))))))))))))))))))⟩
theorem fg_LoopRankerModel_28 (X : wk_X p s m args meth c cc "LoopRankerModel" nL BW D cls tys nz A) (hP : va_P D cls ws0 H) (q0 : Nat) {fs : List Value} {v : Value} (he : ws0[q0]? = some (ad, .inr (4, fs))) (hv : fs[11]? = some v) (hdg : decode cc pc = .ok (.getfield 28, 3)) (kk : W p l e R s m args below meth c H locs cells slots Q (F0 m (pc + 3) ls (v :: rest))) : W p l e R s m args below meth c H locs cells slots Q (F0 m pc ls (.ref ad :: rest)) :=
  va_get (D := D) (ci := 4) (C := R_LoopRankerModel) (T := F_LoopRankerModel) (N := 16) X.1.1 X.1.2.1 X.1.2.2.2.2 hin_LoopRankerModel X.1.2.2.2.1 X.2.1 hP q0 he rfl 11 (by decide) (X.1.2.2.2.2 _ (List.mem_append_right _ (List.mem_append_right _ (List.mem_append_right _ (List.mem_append_right _ (List.mem_append_right _ (List.mem_append_right _ (List.mem_append_right _ (List.mem_append_right _ (List.mem_append_right _ (List.mem_append_right _ (List.mem_append_right _ (List.mem_append_right _ (List.mem_append_right _ (List.mem_append_right _ (List.mem_append_right _ (List.mem_append_left _ (List.mem_of_getElem? (i := 2) rfl)))))))))))))))))) (fun _ h9 => h9) hv hdg kk
theorem fg_LoopRankerModel_102 (X : wk_X p s m args meth c cc "LoopRankerModel" nL BW D cls tys nz A) (hP : va_P D cls ws0 H) (q0 : Nat) {fs : List Value} {v : Value} (he : ws0[q0]? = some (ad, .inr (4, fs))) (hv : fs[9]? = some v) (hdg : decode cc pc = .ok (.getfield 102, 3)) (kk : W p l e R s m args below meth c H locs cells slots Q (F0 m (pc + 3) ls (v :: rest))) : W p l e R s m args below meth c H locs cells slots Q (F0 m pc ls (.ref ad :: rest)) :=
  va_get (D := D) (ci := 4) (C := R_LoopRankerModel) (T := F_LoopRankerModel) (N := 16) X.1.1 X.1.2.1 X.1.2.2.2.2 hin_LoopRankerModel X.1.2.2.2.1 X.2.1 hP q0 he rfl 9 (by decide) (X.1.2.2.2.2 _ (List.mem_append_right _ (List.mem_append_right _ (List.mem_append_right _ (List.mem_append_right _ (List.mem_append_right _ (List.mem_append_right _ (List.mem_append_right _ (List.mem_append_right _ (List.mem_append_right _ (List.mem_append_right _ (List.mem_append_right _ (List.mem_append_right _ (List.mem_append_right _ (List.mem_append_right _ (List.mem_append_right _ (List.mem_append_left _ (List.mem_of_getElem? (i := 0) rfl)))))))))))))))))) (fun _ h9 => h9) hv hdg kk
theorem fg_LoopRankerModel_31 (X : wk_X p s m args meth c cc "LoopRankerModel" nL BW D cls tys nz A) (hP : va_P D cls ws0 H) (q0 : Nat) {fs : List Value} {v : Value} (he : ws0[q0]? = some (ad, .inr (4, fs))) (hv : fs[12]? = some v) (hdg : decode cc pc = .ok (.getfield 31, 3)) (kk : W p l e R s m args below meth c H locs cells slots Q (F0 m (pc + 3) ls (v :: rest))) : W p l e R s m args below meth c H locs cells slots Q (F0 m pc ls (.ref ad :: rest)) :=
  va_get (D := D) (ci := 4) (C := R_LoopRankerModel) (T := F_LoopRankerModel) (N := 16) X.1.1 X.1.2.1 X.1.2.2.2.2 hin_LoopRankerModel X.1.2.2.2.1 X.2.1 hP q0 he rfl 12 (by decide) (X.1.2.2.2.2 _ (List.mem_append_right _ (List.mem_append_right _ (List.mem_append_right _ (List.mem_append_right _ (List.mem_append_right _ (List.mem_append_right _ (List.mem_append_right _ (List.mem_append_right _ (List.mem_append_right _ (List.mem_append_right _ (List.mem_append_right _ (List.mem_append_right _ (List.mem_append_right _ (List.mem_append_right _ (List.mem_append_right _ (List.mem_append_left _ (List.mem_of_getElem? (i := 3) rfl)))))))))))))))))) (fun _ h9 => h9) hv hdg kk
theorem cw_LoopRankerModel_105 (hT : ∀ w ∈ BW, w.before args s = true) (hZ : wk_Z nz s) (hR : rm_LoopRankerModel_before.frames + 1 ≤ R.frames ∧ 8 + (6 + 11) + rm_LoopRankerModel_before.locals ≤ R.locals) : (CallB R s args "LoopRankerModel" 105 y_LoopRankerModel_before b_LoopRankerModel_before 6 (some .boolean) (Cond.code y_LoopRankerModel_before b_LoopRankerModel_before 6 (some .boolean) :: BW) rm_LoopRankerModel_before 0 0 4) ∧ (Cond.static y_LoopRankerModel_before).before args s = true :=
  ⟨callB_of 4 hT (BW_good kw_LoopRankerModel_before) rfl rfl rfl (hT _ (List.mem_append_left _ (List.mem_of_getElem? (i := 6) rfl))) (hT _ (List.mem_append_right _ (List.mem_append_right _ (List.mem_append_right _ (List.mem_append_right _ (List.mem_append_right _ (List.mem_append_right _ (List.mem_append_right _ (List.mem_append_right _ (List.mem_append_right _ (List.mem_append_right _ (List.mem_append_right _ (List.mem_append_right _ (List.mem_append_right _ (List.mem_append_right _ (List.mem_append_right _ (List.mem_append_right _ (List.mem_append_right _ (List.mem_append_right _ (List.mem_append_right _ (List.mem_append_right _ (List.mem_append_left _ (List.mem_of_getElem? (i := 19) rfl))))))))))))))))))))))) ⟨by decide, by decide, by decide +kernel⟩ hR, (hT _ (List.mem_append_right _ (List.mem_append_right _ (List.mem_append_right _ (List.mem_append_right _ (List.mem_append_right _ (List.mem_append_right _ (List.mem_append_right _ (List.mem_append_right _ (List.mem_append_right _ (List.mem_append_right _ (List.mem_append_right _ (List.mem_append_right _ (List.mem_append_right _ (List.mem_append_right _ (List.mem_append_right _ (List.mem_append_right _ (List.mem_append_right _ (List.mem_append_right _ (List.mem_append_right _ (List.mem_append_right _ (List.mem_append_right _ (List.mem_append_left _ (List.mem_of_getElem? (i := 0) rfl))))))))))))))))))))))))⟩
theorem fp_LoopRankerModel_102 (X : wk_X p s m args meth c cc "LoopRankerModel" nL BW D cls tys nz A) (hP : va_P D cls ws0 H) (hD : va_D A ws0) (hS : va_S A s.heap H locs) (q0 : Nat) {fs : List Value} {v : Value} (he : ws0[q0]? = some (ad, .inr (4, fs))) (hn : narrow (.int) v = v) (hf : fits (.int) v = true) (hl : Nat.ble (9 + 1) fs.length = true) (hdg : decode cc pc = .ok (.putfield 102, 3)) (kk : ∀ (H1 : Heap) (locs1 : List Loc), va_P D cls (ws0.set q0 (ad, .inr (4, fs.set 9 v))) H1 → va_D A (ws0.set q0 (ad, .inr (4, fs.set 9 v))) → va_S A s.heap H1 locs1 → W p l e R s m args below meth c H1 locs1 cells slots Q (F0 m (pc + 3) ls rest)) : W p l e R s m args below meth c H locs cells slots Q (F0 m pc ls (v :: .ref ad :: rest)) :=
  va_put (D := D) (ci := 4) (v := v) (ty := .int) (C := R_LoopRankerModel) (T := F_LoopRankerModel) (N := 16) X.1.1 X.1.2.1 X.1.2.2.2.2 hin_LoopRankerModel t_LoopRankerModel t_LoopRankerModel_ok n_LoopRankerModel X.1.2.2.2.1 X.2.1 hP hD hS q0 he rfl 9 (by decide) (X.1.2.2.2.2 _ (List.mem_append_right _ (List.mem_append_right _ (List.mem_append_right _ (List.mem_append_right _ (List.mem_append_right _ (List.mem_append_right _ (List.mem_append_right _ (List.mem_append_right _ (List.mem_append_right _ (List.mem_append_right _ (List.mem_append_right _ (List.mem_append_right _ (List.mem_append_right _ (List.mem_append_right _ (List.mem_append_right _ (List.mem_append_left _ (List.mem_of_getElem? (i := 0) rfl)))))))))))))))))) (fun _ h9 => h9) rfl (by decide +kernel) hn hf (Nat.le_of_ble_eq_true hl) hdg kk
theorem cw_LoopRankerModel_108 (hT : ∀ w ∈ BW, w.before args s = true) (hZ : wk_Z nz s) (hR : rm_LoopRankerModel_left.frames + 1 ≤ R.frames ∧ 8 + (3 + 11) + rm_LoopRankerModel_left.locals ≤ R.locals) : (CallB R s args "LoopRankerModel" 108 y_LoopRankerModel_left b_LoopRankerModel_left 3 (some .int) (Cond.code y_LoopRankerModel_left b_LoopRankerModel_left 3 (some .int) :: BW) rm_LoopRankerModel_left 0 0 0) ∧ (Cond.instanceMethod y_LoopRankerModel_left).before args s = true ∧ (Cond.selects "LoopRankerModel" y_LoopRankerModel_left y_LoopRankerModel_left).before args s = true :=
  ⟨callB_of 0 hT (BW_good kw_LoopRankerModel_left) rfl rfl rfl (hT _ (List.mem_append_left _ (List.mem_of_getElem? (i := 6) rfl))) (hT _ (List.mem_append_right _ (List.mem_append_right _ (List.mem_append_right _ (List.mem_append_right _ (List.mem_append_right _ (List.mem_append_right _ (List.mem_append_right _ (List.mem_append_right _ (List.mem_append_right _ (List.mem_append_right _ (List.mem_append_right _ (List.mem_append_right _ (List.mem_append_right _ (List.mem_append_right _ (List.mem_append_right _ (List.mem_append_right _ (List.mem_append_right _ (List.mem_append_right _ (List.mem_append_right _ (List.mem_append_right _ (List.mem_append_left _ (List.mem_of_getElem? (i := 10) rfl))))))))))))))))))))))) ⟨by decide, by decide, by decide +kernel⟩ hR, (hT _ (List.mem_append_right _ (List.mem_append_right _ (List.mem_append_right _ (List.mem_append_right _ (List.mem_append_right _ (List.mem_append_right _ (List.mem_append_right _ (List.mem_append_right _ (List.mem_append_right _ (List.mem_append_right _ (List.mem_append_right _ (List.mem_append_right _ (List.mem_append_right _ (List.mem_append_right _ (List.mem_append_right _ (List.mem_append_right _ (List.mem_append_right _ (List.mem_append_right _ (List.mem_append_right _ (List.mem_append_right _ (List.mem_append_left _ (List.mem_of_getElem? (i := 11) rfl))))))))))))))))))))))), (hT _ (List.mem_append_right _ (List.mem_append_right _ (List.mem_append_right _ (List.mem_append_right _ (List.mem_append_right _ (List.mem_append_right _ (List.mem_append_right _ (List.mem_append_right _ (List.mem_append_right _ (List.mem_append_right _ (List.mem_append_right _ (List.mem_append_right _ (List.mem_append_right _ (List.mem_append_right _ (List.mem_append_right _ (List.mem_append_right _ (List.mem_append_right _ (List.mem_append_right _ (List.mem_append_right _ (List.mem_append_right _ (List.mem_append_right _ (List.mem_append_right _ (List.mem_append_right _ (List.mem_append_right _ (List.mem_append_right _ (List.mem_of_getElem? (i := 10) rfl)))))))))))))))))))))))))))⟩
theorem cw_LoopRankerModel_112 (hT : ∀ w ∈ BW, w.before args s = true) (hZ : wk_Z nz s) (hR : rm_LoopRankerModel_level.frames + 1 ≤ R.frames ∧ 8 + (5 + 11) + rm_LoopRankerModel_level.locals ≤ R.locals) : (CallB R s args "LoopRankerModel" 112 y_LoopRankerModel_level b_LoopRankerModel_level 5 (some .boolean) (Cond.code y_LoopRankerModel_level b_LoopRankerModel_level 5 (some .boolean) :: BW) rm_LoopRankerModel_level 0 0 0) ∧ (Cond.instanceMethod y_LoopRankerModel_level).before args s = true ∧ (Cond.selects "LoopRankerModel" y_LoopRankerModel_level y_LoopRankerModel_level).before args s = true :=
  ⟨callB_of 0 hT (BW_good kw_LoopRankerModel_level) rfl rfl rfl (hT _ (List.mem_append_left _ (List.mem_of_getElem? (i := 6) rfl))) (hT _ (List.mem_append_right _ (List.mem_append_right _ (List.mem_append_right _ (List.mem_append_right _ (List.mem_append_right _ (List.mem_append_right _ (List.mem_append_right _ (List.mem_append_right _ (List.mem_append_right _ (List.mem_append_right _ (List.mem_append_right _ (List.mem_append_right _ (List.mem_append_right _ (List.mem_append_right _ (List.mem_append_right _ (List.mem_append_right _ (List.mem_append_right _ (List.mem_append_right _ (List.mem_append_right _ (List.mem_append_right _ (List.mem_append_left _ (List.mem_of_getElem? (i := 13) rfl))))))))))))))))))))))) ⟨by decide, by decide, by decide +kernel⟩ hR, (hT _ (List.mem_append_right _ (List.mem_append_right _ (List.mem_append_right _ (List.mem_append_right _ (List.mem_append_right _ (List.mem_append_right _ (List.mem_append_right _ (List.mem_append_right _ (List.mem_append_right _ (List.mem_append_right _ (List.mem_append_right _ (List.mem_append_right _ (List.mem_append_right _ (List.mem_append_right _ (List.mem_append_right _ (List.mem_append_right _ (List.mem_append_right _ (List.mem_append_right _ (List.mem_append_right _ (List.mem_append_right _ (List.mem_append_left _ (List.mem_of_getElem? (i := 14) rfl))))))))))))))))))))))), (hT _ (List.mem_append_right _ (List.mem_append_right _ (List.mem_append_right _ (List.mem_append_right _ (List.mem_append_right _ (List.mem_append_right _ (List.mem_append_right _ (List.mem_append_right _ (List.mem_append_right _ (List.mem_append_right _ (List.mem_append_right _ (List.mem_append_right _ (List.mem_append_right _ (List.mem_append_right _ (List.mem_append_right _ (List.mem_append_right _ (List.mem_append_right _ (List.mem_append_right _ (List.mem_append_right _ (List.mem_append_right _ (List.mem_append_right _ (List.mem_append_right _ (List.mem_append_right _ (List.mem_append_right _ (List.mem_append_right _ (List.mem_of_getElem? (i := 11) rfl)))))))))))))))))))))))))))⟩
theorem cw_LoopRankerModel_116 (hT : ∀ w ∈ BW, w.before args s = true) (hZ : wk_Z nz s) (hR : rm_LoopRankerModel_prove.frames + 1 ≤ R.frames ∧ 8 + (2 + 11) + rm_LoopRankerModel_prove.locals ≤ R.locals) : (CallB R s args "LoopRankerModel" 116 y_LoopRankerModel_prove b_LoopRankerModel_prove 2 none (Cond.code y_LoopRankerModel_prove b_LoopRankerModel_prove 2 none :: BW) rm_LoopRankerModel_prove 0 0 0) ∧ (Cond.instanceMethod y_LoopRankerModel_prove).before args s = true ∧ (Cond.selects "LoopRankerModel" y_LoopRankerModel_prove y_LoopRankerModel_prove).before args s = true :=
  ⟨callB_of 0 hT (BW_good kw_LoopRankerModel_prove) rfl rfl rfl (hT _ (List.mem_append_left _ (List.mem_of_getElem? (i := 6) rfl))) (hT _ (List.mem_append_right _ (List.mem_append_right _ (List.mem_append_right _ (List.mem_append_right _ (List.mem_append_right _ (List.mem_append_right _ (List.mem_append_right _ (List.mem_append_right _ (List.mem_append_right _ (List.mem_append_right _ (List.mem_append_right _ (List.mem_append_right _ (List.mem_append_right _ (List.mem_append_right _ (List.mem_append_right _ (List.mem_append_right _ (List.mem_append_right _ (List.mem_append_right _ (List.mem_append_right _ (List.mem_append_right _ (List.mem_append_left _ (List.mem_of_getElem? (i := 7) rfl))))))))))))))))))))))) ⟨by decide, by decide, by decide +kernel⟩ hR, (hT _ (List.mem_append_right _ (List.mem_append_right _ (List.mem_append_right _ (List.mem_append_right _ (List.mem_append_right _ (List.mem_append_right _ (List.mem_append_right _ (List.mem_append_right _ (List.mem_append_right _ (List.mem_append_right _ (List.mem_append_right _ (List.mem_append_right _ (List.mem_append_right _ (List.mem_append_right _ (List.mem_append_right _ (List.mem_append_right _ (List.mem_append_right _ (List.mem_append_right _ (List.mem_append_right _ (List.mem_append_right _ (List.mem_append_left _ (List.mem_of_getElem? (i := 8) rfl))))))))))))))))))))))), (hT _ (List.mem_append_right _ (List.mem_append_right _ (List.mem_append_right _ (List.mem_append_right _ (List.mem_append_right _ (List.mem_append_right _ (List.mem_append_right _ (List.mem_append_right _ (List.mem_append_right _ (List.mem_append_right _ (List.mem_append_right _ (List.mem_append_right _ (List.mem_append_right _ (List.mem_append_right _ (List.mem_append_right _ (List.mem_append_right _ (List.mem_append_right _ (List.mem_append_right _ (List.mem_append_right _ (List.mem_append_right _ (List.mem_append_right _ (List.mem_append_right _ (List.mem_append_right _ (List.mem_append_right _ (List.mem_append_right _ (List.mem_of_getElem? (i := 9) rfl)))))))))))))))))))))))))))⟩
theorem cw_LoopRankerModel_119 (hT : ∀ w ∈ BW, w.before args s = true) (hZ : wk_Z nz s) (hR : rm_LoopRankerModel_floorOf.frames + 1 ≤ R.frames ∧ 8 + (9 + 11) + rm_LoopRankerModel_floorOf.locals ≤ R.locals) : (CallB R s args "LoopRankerModel" 119 y_LoopRankerModel_floorOf b_LoopRankerModel_floorOf 9 (some .long) (Cond.code y_LoopRankerModel_floorOf b_LoopRankerModel_floorOf 9 (some .long) :: BW) rm_LoopRankerModel_floorOf 0 0 1) ∧ (Cond.instanceMethod y_LoopRankerModel_floorOf).before args s = true ∧ (Cond.selects "LoopRankerModel" y_LoopRankerModel_floorOf y_LoopRankerModel_floorOf).before args s = true :=
  ⟨callB_of 1 hT (BW_good kw_LoopRankerModel_floorOf) rfl rfl rfl (hT _ (List.mem_append_left _ (List.mem_of_getElem? (i := 6) rfl))) (hT _ (List.mem_append_right _ (List.mem_append_right _ (List.mem_append_right _ (List.mem_append_right _ (List.mem_append_right _ (List.mem_append_right _ (List.mem_append_right _ (List.mem_append_right _ (List.mem_append_right _ (List.mem_append_right _ (List.mem_append_right _ (List.mem_append_right _ (List.mem_append_right _ (List.mem_append_right _ (List.mem_append_right _ (List.mem_append_right _ (List.mem_append_right _ (List.mem_append_right _ (List.mem_append_right _ (List.mem_append_right _ (List.mem_append_right _ (List.mem_append_right _ (List.mem_append_left _ (List.mem_of_getElem? (i := 1) rfl))))))))))))))))))))))))) ⟨by decide, by decide, by decide +kernel⟩ hR, (hT _ (List.mem_append_right _ (List.mem_append_right _ (List.mem_append_right _ (List.mem_append_right _ (List.mem_append_right _ (List.mem_append_right _ (List.mem_append_right _ (List.mem_append_right _ (List.mem_append_right _ (List.mem_append_right _ (List.mem_append_right _ (List.mem_append_right _ (List.mem_append_right _ (List.mem_append_right _ (List.mem_append_right _ (List.mem_append_right _ (List.mem_append_right _ (List.mem_append_right _ (List.mem_append_right _ (List.mem_append_right _ (List.mem_append_right _ (List.mem_append_right _ (List.mem_append_left _ (List.mem_of_getElem? (i := 2) rfl))))))))))))))))))))))))), (hT _ (List.mem_append_right _ (List.mem_append_right _ (List.mem_append_right _ (List.mem_append_right _ (List.mem_append_right _ (List.mem_append_right _ (List.mem_append_right _ (List.mem_append_right _ (List.mem_append_right _ (List.mem_append_right _ (List.mem_append_right _ (List.mem_append_right _ (List.mem_append_right _ (List.mem_append_right _ (List.mem_append_right _ (List.mem_append_right _ (List.mem_append_right _ (List.mem_append_right _ (List.mem_append_right _ (List.mem_append_right _ (List.mem_append_right _ (List.mem_append_right _ (List.mem_append_right _ (List.mem_append_right _ (List.mem_append_right _ (List.mem_of_getElem? (i := 13) rfl)))))))))))))))))))))))))))⟩
theorem kc_LoopRankerModel_123 : Jvm.Cond.constant "LoopRankerModel" 123 (1000000) ∈ BW := (List.mem_append_right _ (List.mem_append_right _ (List.mem_append_right _ (List.mem_append_right _ (List.mem_append_right _ (List.mem_append_right _ (List.mem_append_right _ (List.mem_append_right _ (List.mem_append_right _ (List.mem_append_right _ (List.mem_append_right _ (List.mem_append_right _ (List.mem_append_right _ (List.mem_append_right _ (List.mem_append_right _ (List.mem_append_right _ (List.mem_append_right _ (List.mem_append_right _ (List.mem_append_right _ (List.mem_append_right _ (List.mem_append_right _ (List.mem_append_right _ (List.mem_append_left _ (List.mem_of_getElem? (i := 8) rfl))))))))))))))))))))))))
theorem fp_LoopRankerModel_124 (X : wk_X p s m args meth c cc "LoopRankerModel" nL BW D cls tys nz A) (hP : va_P D cls ws0 H) (hD : va_D A ws0) (hS : va_S A s.heap H locs) (q0 : Nat) {fs : List Value} {v : Value} (he : ws0[q0]? = some (ad, .inr (4, fs))) (hn : narrow (.long) v = v) (hf : fits (.long) v = true) (hl : Nat.ble (13 + 1) fs.length = true) (hdg : decode cc pc = .ok (.putfield 124, 3)) (kk : ∀ (H1 : Heap) (locs1 : List Loc), va_P D cls (ws0.set q0 (ad, .inr (4, fs.set 13 v))) H1 → va_D A (ws0.set q0 (ad, .inr (4, fs.set 13 v))) → va_S A s.heap H1 locs1 → W p l e R s m args below meth c H1 locs1 cells slots Q (F0 m (pc + 3) ls rest)) : W p l e R s m args below meth c H locs cells slots Q (F0 m pc ls (v :: .ref ad :: rest)) :=
  va_put (D := D) (ci := 4) (v := v) (ty := .long) (C := R_LoopRankerModel) (T := F_LoopRankerModel) (N := 16) X.1.1 X.1.2.1 X.1.2.2.2.2 hin_LoopRankerModel t_LoopRankerModel t_LoopRankerModel_ok n_LoopRankerModel X.1.2.2.2.1 X.2.1 hP hD hS q0 he rfl 13 (by decide) (X.1.2.2.2.2 _ (List.mem_append_right _ (List.mem_append_right _ (List.mem_append_right _ (List.mem_append_right _ (List.mem_append_right _ (List.mem_append_right _ (List.mem_append_right _ (List.mem_append_right _ (List.mem_append_right _ (List.mem_append_right _ (List.mem_append_right _ (List.mem_append_right _ (List.mem_append_right _ (List.mem_append_right _ (List.mem_append_right _ (List.mem_append_left _ (List.mem_of_getElem? (i := 4) rfl)))))))))))))))))) (fun _ h9 => h9) rfl (by decide +kernel) hn hf (Nat.le_of_ble_eq_true hl) hdg kk
theorem fp_LoopRankerModel_127 (X : wk_X p s m args meth c cc "LoopRankerModel" nL BW D cls tys nz A) (hP : va_P D cls ws0 H) (hD : va_D A ws0) (hS : va_S A s.heap H locs) (q0 : Nat) {fs : List Value} {v : Value} (he : ws0[q0]? = some (ad, .inr (4, fs))) (hn : narrow (.long) v = v) (hf : fits (.long) v = true) (hl : Nat.ble (14 + 1) fs.length = true) (hdg : decode cc pc = .ok (.putfield 127, 3)) (kk : ∀ (H1 : Heap) (locs1 : List Loc), va_P D cls (ws0.set q0 (ad, .inr (4, fs.set 14 v))) H1 → va_D A (ws0.set q0 (ad, .inr (4, fs.set 14 v))) → va_S A s.heap H1 locs1 → W p l e R s m args below meth c H1 locs1 cells slots Q (F0 m (pc + 3) ls rest)) : W p l e R s m args below meth c H locs cells slots Q (F0 m pc ls (v :: .ref ad :: rest)) :=
  va_put (D := D) (ci := 4) (v := v) (ty := .long) (C := R_LoopRankerModel) (T := F_LoopRankerModel) (N := 16) X.1.1 X.1.2.1 X.1.2.2.2.2 hin_LoopRankerModel t_LoopRankerModel t_LoopRankerModel_ok n_LoopRankerModel X.1.2.2.2.1 X.2.1 hP hD hS q0 he rfl 14 (by decide) (X.1.2.2.2.2 _ (List.mem_append_right _ (List.mem_append_right _ (List.mem_append_right _ (List.mem_append_right _ (List.mem_append_right _ (List.mem_append_right _ (List.mem_append_right _ (List.mem_append_right _ (List.mem_append_right _ (List.mem_append_right _ (List.mem_append_right _ (List.mem_append_right _ (List.mem_append_right _ (List.mem_append_right _ (List.mem_append_right _ (List.mem_append_left _ (List.mem_of_getElem? (i := 5) rfl)))))))))))))))))) (fun _ h9 => h9) rfl (by decide +kernel) hn hf (Nat.le_of_ble_eq_true hl) hdg kk
theorem fp_LoopRankerModel_130 (X : wk_X p s m args meth c cc "LoopRankerModel" nL BW D cls tys nz A) (hP : va_P D cls ws0 H) (hD : va_D A ws0) (hS : va_S A s.heap H locs) (q0 : Nat) {fs : List Value} {v : Value} (he : ws0[q0]? = some (ad, .inr (4, fs))) (hn : narrow (.int) v = v) (hf : fits (.int) v = true) (hl : Nat.ble (15 + 1) fs.length = true) (hdg : decode cc pc = .ok (.putfield 130, 3)) (kk : ∀ (H1 : Heap) (locs1 : List Loc), va_P D cls (ws0.set q0 (ad, .inr (4, fs.set 15 v))) H1 → va_D A (ws0.set q0 (ad, .inr (4, fs.set 15 v))) → va_S A s.heap H1 locs1 → W p l e R s m args below meth c H1 locs1 cells slots Q (F0 m (pc + 3) ls rest)) : W p l e R s m args below meth c H locs cells slots Q (F0 m pc ls (v :: .ref ad :: rest)) :=
  va_put (D := D) (ci := 4) (v := v) (ty := .int) (C := R_LoopRankerModel) (T := F_LoopRankerModel) (N := 16) X.1.1 X.1.2.1 X.1.2.2.2.2 hin_LoopRankerModel t_LoopRankerModel t_LoopRankerModel_ok n_LoopRankerModel X.1.2.2.2.1 X.2.1 hP hD hS q0 he rfl 15 (by decide) (X.1.2.2.2.2 _ (List.mem_append_right _ (List.mem_append_right _ (List.mem_append_right _ (List.mem_append_right _ (List.mem_append_right _ (List.mem_append_right _ (List.mem_append_right _ (List.mem_append_right _ (List.mem_append_right _ (List.mem_append_right _ (List.mem_append_right _ (List.mem_append_right _ (List.mem_append_right _ (List.mem_append_right _ (List.mem_append_right _ (List.mem_append_left _ (List.mem_of_getElem? (i := 6) rfl)))))))))))))))))) (fun _ h9 => h9) rfl (by decide +kernel) hn hf (Nat.le_of_ble_eq_true hl) hdg kk
theorem kc_LoopRankerModel_133 : Jvm.Cond.constantLong "LoopRankerModel" 133 (-1000000000000) ∈ BW := (List.mem_append_right _ (List.mem_append_right _ (List.mem_append_right _ (List.mem_append_right _ (List.mem_append_right _ (List.mem_append_right _ (List.mem_append_right _ (List.mem_append_right _ (List.mem_append_right _ (List.mem_append_right _ (List.mem_append_right _ (List.mem_append_right _ (List.mem_append_right _ (List.mem_append_right _ (List.mem_append_right _ (List.mem_append_right _ (List.mem_append_right _ (List.mem_append_right _ (List.mem_append_right _ (List.mem_append_right _ (List.mem_append_right _ (List.mem_append_right _ (List.mem_append_left _ (List.mem_of_getElem? (i := 16) rfl))))))))))))))))))))))))
theorem kc_LoopRankerModel_135 : Jvm.Cond.constantLong "LoopRankerModel" 135 (1000000000000) ∈ BW := (List.mem_append_right _ (List.mem_append_right _ (List.mem_append_right _ (List.mem_append_right _ (List.mem_append_right _ (List.mem_append_right _ (List.mem_append_right _ (List.mem_append_right _ (List.mem_append_right _ (List.mem_append_right _ (List.mem_append_right _ (List.mem_append_right _ (List.mem_append_right _ (List.mem_append_right _ (List.mem_append_right _ (List.mem_append_right _ (List.mem_append_right _ (List.mem_append_right _ (List.mem_append_right _ (List.mem_append_right _ (List.mem_append_right _ (List.mem_append_right _ (List.mem_append_left _ (List.mem_of_getElem? (i := 17) rfl))))))))))))))))))))))))
theorem fg_LoopRankerModel_124 (X : wk_X p s m args meth c cc "LoopRankerModel" nL BW D cls tys nz A) (hP : va_P D cls ws0 H) (q0 : Nat) {fs : List Value} {v : Value} (he : ws0[q0]? = some (ad, .inr (4, fs))) (hv : fs[13]? = some v) (hdg : decode cc pc = .ok (.getfield 124, 3)) (kk : W p l e R s m args below meth c H locs cells slots Q (F0 m (pc + 3) ls (v :: rest))) : W p l e R s m args below meth c H locs cells slots Q (F0 m pc ls (.ref ad :: rest)) :=
  va_get (D := D) (ci := 4) (C := R_LoopRankerModel) (T := F_LoopRankerModel) (N := 16) X.1.1 X.1.2.1 X.1.2.2.2.2 hin_LoopRankerModel X.1.2.2.2.1 X.2.1 hP q0 he rfl 13 (by decide) (X.1.2.2.2.2 _ (List.mem_append_right _ (List.mem_append_right _ (List.mem_append_right _ (List.mem_append_right _ (List.mem_append_right _ (List.mem_append_right _ (List.mem_append_right _ (List.mem_append_right _ (List.mem_append_right _ (List.mem_append_right _ (List.mem_append_right _ (List.mem_append_right _ (List.mem_append_right _ (List.mem_append_right _ (List.mem_append_right _ (List.mem_append_left _ (List.mem_of_getElem? (i := 4) rfl)))))))))))))))))) (fun _ h9 => h9) hv hdg kk
theorem fg_LoopRankerModel_127 (X : wk_X p s m args meth c cc "LoopRankerModel" nL BW D cls tys nz A) (hP : va_P D cls ws0 H) (q0 : Nat) {fs : List Value} {v : Value} (he : ws0[q0]? = some (ad, .inr (4, fs))) (hv : fs[14]? = some v) (hdg : decode cc pc = .ok (.getfield 127, 3)) (kk : W p l e R s m args below meth c H locs cells slots Q (F0 m (pc + 3) ls (v :: rest))) : W p l e R s m args below meth c H locs cells slots Q (F0 m pc ls (.ref ad :: rest)) :=
  va_get (D := D) (ci := 4) (C := R_LoopRankerModel) (T := F_LoopRankerModel) (N := 16) X.1.1 X.1.2.1 X.1.2.2.2.2 hin_LoopRankerModel X.1.2.2.2.1 X.2.1 hP q0 he rfl 14 (by decide) (X.1.2.2.2.2 _ (List.mem_append_right _ (List.mem_append_right _ (List.mem_append_right _ (List.mem_append_right _ (List.mem_append_right _ (List.mem_append_right _ (List.mem_append_right _ (List.mem_append_right _ (List.mem_append_right _ (List.mem_append_right _ (List.mem_append_right _ (List.mem_append_right _ (List.mem_append_right _ (List.mem_append_right _ (List.mem_append_right _ (List.mem_append_left _ (List.mem_of_getElem? (i := 5) rfl)))))))))))))))))) (fun _ h9 => h9) hv hdg kk
theorem cw_LoopRankerModel_137 (hT : ∀ w ∈ BW, w.before args s = true) (hZ : wk_Z nz s) (hR : rm_LoopRankerModel_far.frames + 1 ≤ R.frames ∧ 8 + (2 + 11) + rm_LoopRankerModel_far.locals ≤ R.locals) : (CallB R s args "LoopRankerModel" 137 y_LoopRankerModel_far b_LoopRankerModel_far 2 (some .boolean) (Cond.code y_LoopRankerModel_far b_LoopRankerModel_far 2 (some .boolean) :: BW) rm_LoopRankerModel_far 0 0 1) ∧ (Cond.static y_LoopRankerModel_far).before args s = true :=
  ⟨callB_of 1 hT (BW_good kw_LoopRankerModel_far) rfl rfl rfl (hT _ (List.mem_append_left _ (List.mem_of_getElem? (i := 6) rfl))) (hT _ (List.mem_append_right _ (List.mem_append_right _ (List.mem_append_right _ (List.mem_append_right _ (List.mem_append_right _ (List.mem_append_right _ (List.mem_append_right _ (List.mem_append_right _ (List.mem_append_right _ (List.mem_append_right _ (List.mem_append_right _ (List.mem_append_right _ (List.mem_append_right _ (List.mem_append_right _ (List.mem_append_right _ (List.mem_append_right _ (List.mem_append_right _ (List.mem_append_right _ (List.mem_append_right _ (List.mem_append_right _ (List.mem_append_right _ (List.mem_append_right _ (List.mem_append_left _ (List.mem_of_getElem? (i := 13) rfl))))))))))))))))))))))))) ⟨by decide, by decide, by decide +kernel⟩ hR, (hT _ (List.mem_append_right _ (List.mem_append_right _ (List.mem_append_right _ (List.mem_append_right _ (List.mem_append_right _ (List.mem_append_right _ (List.mem_append_right _ (List.mem_append_right _ (List.mem_append_right _ (List.mem_append_right _ (List.mem_append_right _ (List.mem_append_right _ (List.mem_append_right _ (List.mem_append_right _ (List.mem_append_right _ (List.mem_append_right _ (List.mem_append_right _ (List.mem_append_right _ (List.mem_append_right _ (List.mem_append_right _ (List.mem_append_right _ (List.mem_append_right _ (List.mem_append_left _ (List.mem_of_getElem? (i := 14) rfl)))))))))))))))))))))))))⟩
theorem fg_LoopRankerModel_130 (X : wk_X p s m args meth c cc "LoopRankerModel" nL BW D cls tys nz A) (hP : va_P D cls ws0 H) (q0 : Nat) {fs : List Value} {v : Value} (he : ws0[q0]? = some (ad, .inr (4, fs))) (hv : fs[15]? = some v) (hdg : decode cc pc = .ok (.getfield 130, 3)) (kk : W p l e R s m args below meth c H locs cells slots Q (F0 m (pc + 3) ls (v :: rest))) : W p l e R s m args below meth c H locs cells slots Q (F0 m pc ls (.ref ad :: rest)) :=
  va_get (D := D) (ci := 4) (C := R_LoopRankerModel) (T := F_LoopRankerModel) (N := 16) X.1.1 X.1.2.1 X.1.2.2.2.2 hin_LoopRankerModel X.1.2.2.2.1 X.2.1 hP q0 he rfl 15 (by decide) (X.1.2.2.2.2 _ (List.mem_append_right _ (List.mem_append_right _ (List.mem_append_right _ (List.mem_append_right _ (List.mem_append_right _ (List.mem_append_right _ (List.mem_append_right _ (List.mem_append_right _ (List.mem_append_right _ (List.mem_append_right _ (List.mem_append_right _ (List.mem_append_right _ (List.mem_append_right _ (List.mem_append_right _ (List.mem_append_right _ (List.mem_append_left _ (List.mem_of_getElem? (i := 6) rfl)))))))))))))))))) (fun _ h9 => h9) hv hdg kk
theorem kc_LoopRankerModel_141 : Jvm.Cond.constantLong "LoopRankerModel" 141 (-1) ∈ BW := (List.mem_append_right _ (List.mem_append_right _ (List.mem_append_right _ (List.mem_append_right _ (List.mem_append_right _ (List.mem_append_right _ (List.mem_append_right _ (List.mem_append_right _ (List.mem_append_right _ (List.mem_append_right _ (List.mem_append_right _ (List.mem_append_right _ (List.mem_append_right _ (List.mem_append_right _ (List.mem_append_right _ (List.mem_append_right _ (List.mem_append_right _ (List.mem_append_right _ (List.mem_append_right _ (List.mem_append_right _ (List.mem_append_right _ (List.mem_append_right _ (List.mem_append_right _ (List.mem_append_left _ (List.mem_of_getElem? (i := 14) rfl)))))))))))))))))))))))))
end LK
end
section
theorem d_Guard_init_0 : decode b_Guard_init 0 = .ok (.aload_n 0, 1) := by decide +kernel
theorem d_Guard_init_1 : decode b_Guard_init 1 = .ok (.invokespecial 3, 3) := by decide +kernel
theorem d_Guard_init_4 : decode b_Guard_init 4 = .ok (.aload_n 0, 1) := by decide +kernel
theorem d_Guard_init_5 : decode b_Guard_init 5 = .ok (.iconst 4, 1) := by decide +kernel
theorem d_Guard_init_6 : decode b_Guard_init 6 = .ok (.newarray .int, 2) := by decide +kernel
theorem d_Guard_init_8 : decode b_Guard_init 8 = .ok (.putfield 9, 3) := by decide +kernel
theorem d_Guard_init_11 : decode b_Guard_init 11 = .ok (.aload_n 0, 1) := by decide +kernel
theorem d_Guard_init_12 : decode b_Guard_init 12 = .ok (.iconst 4, 1) := by decide +kernel
theorem d_Guard_init_13 : decode b_Guard_init 13 = .ok (.newarray .int, 2) := by decide +kernel
theorem d_Guard_init_15 : decode b_Guard_init 15 = .ok (.putfield 15, 3) := by decide +kernel
theorem d_Guard_init_18 : decode b_Guard_init 18 = .ok (.aload_n 0, 1) := by decide +kernel
theorem d_Guard_init_19 : decode b_Guard_init 19 = .ok (.iconst 4, 1) := by decide +kernel
theorem d_Guard_init_20 : decode b_Guard_init 20 = .ok (.newarray .int, 2) := by decide +kernel
theorem d_Guard_init_22 : decode b_Guard_init 22 = .ok (.putfield 18, 3) := by decide +kernel
theorem d_Guard_init_25 : decode b_Guard_init 25 = .ok (.aload_n 0, 1) := by decide +kernel
theorem d_Guard_init_26 : decode b_Guard_init 26 = .ok (.invokevirtual 21, 3) := by decide +kernel
theorem d_Guard_init_29 : decode b_Guard_init 29 = .ok (.return_, 1) := by decide +kernel
theorem d_Guard_clear_0 : decode b_Guard_clear 0 = .ok (.aload_n 0, 1) := by decide +kernel
theorem d_Guard_clear_1 : decode b_Guard_clear 1 = .ok (.iconst 0, 1) := by decide +kernel
theorem d_Guard_clear_2 : decode b_Guard_clear 2 = .ok (.putfield 24, 3) := by decide +kernel
theorem d_Guard_clear_5 : decode b_Guard_clear 5 = .ok (.aload_n 0, 1) := by decide +kernel
theorem d_Guard_clear_6 : decode b_Guard_clear 6 = .ok (.iconst 0, 1) := by decide +kernel
theorem d_Guard_clear_7 : decode b_Guard_clear 7 = .ok (.putfield 28, 3) := by decide +kernel
theorem d_Guard_clear_10 : decode b_Guard_clear 10 = .ok (.aload_n 0, 1) := by decide +kernel
theorem d_Guard_clear_11 : decode b_Guard_clear 11 = .ok (.lconst 0, 1) := by decide +kernel
theorem d_Guard_clear_12 : decode b_Guard_clear 12 = .ok (.putfield 32, 3) := by decide +kernel
theorem d_Guard_clear_15 : decode b_Guard_clear 15 = .ok (.aload_n 0, 1) := by decide +kernel
theorem d_Guard_clear_16 : decode b_Guard_clear 16 = .ok (.lconst 0, 1) := by decide +kernel
theorem d_Guard_clear_17 : decode b_Guard_clear 17 = .ok (.putfield 36, 3) := by decide +kernel
theorem d_Guard_clear_20 : decode b_Guard_clear 20 = .ok (.return_, 1) := by decide +kernel
theorem d_Guard_add_0 : decode b_Guard_add 0 = .ok (.aload_n 0, 1) := by decide +kernel
theorem d_Guard_add_1 : decode b_Guard_add 1 = .ok (.getfield 24, 3) := by decide +kernel
theorem d_Guard_add_4 : decode b_Guard_add 4 = .ok (.iconst 4, 1) := by decide +kernel
theorem d_Guard_add_5 : decode b_Guard_add 5 = .ok (.if_icmp .lt 4, 3) := by decide +kernel
theorem d_Guard_add_8 : decode b_Guard_add 8 = .ok (.return_, 1) := by decide +kernel
theorem d_Guard_add_9 : decode b_Guard_add 9 = .ok (.aload_n 0, 1) := by decide +kernel
theorem d_Guard_add_10 : decode b_Guard_add 10 = .ok (.getfield 28, 3) := by decide +kernel
theorem d_Guard_add_13 : decode b_Guard_add 13 = .ok (.ifCond .ne 45, 3) := by decide +kernel
theorem d_Guard_add_16 : decode b_Guard_add 16 = .ok (.aload_n 0, 1) := by decide +kernel
theorem d_Guard_add_17 : decode b_Guard_add 17 = .ok (.iload_n 1, 1) := by decide +kernel
theorem d_Guard_add_18 : decode b_Guard_add 18 = .ok (.ineg, 1) := by decide +kernel
theorem d_Guard_add_19 : decode b_Guard_add 19 = .ok (.iload_n 2, 1) := by decide +kernel
theorem d_Guard_add_20 : decode b_Guard_add 20 = .ok (.ineg, 1) := by decide +kernel
theorem d_Guard_add_21 : decode b_Guard_add 21 = .ok (.invokevirtual 39, 3) := by decide +kernel
theorem d_Guard_add_24 : decode b_Guard_add 24 = .ok (.aload_n 0, 1) := by decide +kernel
theorem d_Guard_add_25 : decode b_Guard_add 25 = .ok (.aload_n 0, 1) := by decide +kernel
theorem d_Guard_add_26 : decode b_Guard_add 26 = .ok (.getfield 36, 3) := by decide +kernel
theorem d_Guard_add_29 : decode b_Guard_add 29 = .ok (.lconst 0, 1) := by decide +kernel
theorem d_Guard_add_30 : decode b_Guard_add 30 = .ok (.lcmp, 1) := by decide +kernel
theorem d_Guard_add_31 : decode b_Guard_add 31 = .ok (.ifCond .eq 23, 3) := by decide +kernel
theorem d_Guard_add_34 : decode b_Guard_add 34 = .ok (.aload_n 0, 1) := by decide +kernel
theorem d_Guard_add_35 : decode b_Guard_add 35 = .ok (.getfield 32, 3) := by decide +kernel
theorem d_Guard_add_38 : decode b_Guard_add 38 = .ok (.iload_n 3, 1) := by decide +kernel
theorem d_Guard_add_39 : decode b_Guard_add 39 = .ok (.ineg, 1) := by decide +kernel
theorem d_Guard_add_40 : decode b_Guard_add 40 = .ok (.i2l, 1) := by decide +kernel
theorem d_Guard_add_41 : decode b_Guard_add 41 = .ok (.aload_n 0, 1) := by decide +kernel
theorem d_Guard_add_42 : decode b_Guard_add 42 = .ok (.getfield 36, 3) := by decide +kernel
theorem d_Guard_add_45 : decode b_Guard_add 45 = .ok (.lmul, 1) := by decide +kernel
theorem d_Guard_add_46 : decode b_Guard_add 46 = .ok (.lcmp, 1) := by decide +kernel
theorem d_Guard_add_47 : decode b_Guard_add 47 = .ok (.ifCond .ge 7, 3) := by decide +kernel
theorem d_Guard_add_50 : decode b_Guard_add 50 = .ok (.iconst 1, 1) := by decide +kernel
theorem d_Guard_add_51 : decode b_Guard_add 51 = .ok (.goto 4, 3) := by decide +kernel
theorem d_Guard_add_54 : decode b_Guard_add 54 = .ok (.iconst 0, 1) := by decide +kernel
theorem d_Guard_add_55 : decode b_Guard_add 55 = .ok (.putfield 28, 3) := by decide +kernel
theorem d_Guard_add_58 : decode b_Guard_add 58 = .ok (.aload_n 0, 1) := by decide +kernel
theorem d_Guard_add_59 : decode b_Guard_add 59 = .ok (.getfield 9, 3) := by decide +kernel
theorem d_Guard_add_62 : decode b_Guard_add 62 = .ok (.aload_n 0, 1) := by decide +kernel
theorem d_Guard_add_63 : decode b_Guard_add 63 = .ok (.getfield 24, 3) := by decide +kernel
theorem d_Guard_add_66 : decode b_Guard_add 66 = .ok (.iload_n 1, 1) := by decide +kernel
theorem d_Guard_add_67 : decode b_Guard_add 67 = .ok (.iastore, 1) := by decide +kernel
theorem d_Guard_add_68 : decode b_Guard_add 68 = .ok (.aload_n 0, 1) := by decide +kernel
theorem d_Guard_add_69 : decode b_Guard_add 69 = .ok (.getfield 15, 3) := by decide +kernel
theorem d_Guard_add_72 : decode b_Guard_add 72 = .ok (.aload_n 0, 1) := by decide +kernel
theorem d_Guard_add_73 : decode b_Guard_add 73 = .ok (.getfield 24, 3) := by decide +kernel
theorem d_Guard_add_76 : decode b_Guard_add 76 = .ok (.iload_n 2, 1) := by decide +kernel
theorem d_Guard_add_77 : decode b_Guard_add 77 = .ok (.iastore, 1) := by decide +kernel
theorem d_Guard_add_78 : decode b_Guard_add 78 = .ok (.aload_n 0, 1) := by decide +kernel
theorem d_Guard_add_79 : decode b_Guard_add 79 = .ok (.getfield 18, 3) := by decide +kernel
theorem d_Guard_add_82 : decode b_Guard_add 82 = .ok (.aload_n 0, 1) := by decide +kernel
theorem d_Guard_add_83 : decode b_Guard_add 83 = .ok (.getfield 24, 3) := by decide +kernel
theorem d_Guard_add_86 : decode b_Guard_add 86 = .ok (.iload_n 3, 1) := by decide +kernel
theorem d_Guard_add_87 : decode b_Guard_add 87 = .ok (.iastore, 1) := by decide +kernel
theorem d_Guard_add_88 : decode b_Guard_add 88 = .ok (.aload_n 0, 1) := by decide +kernel
theorem d_Guard_add_89 : decode b_Guard_add 89 = .ok (.dup, 1) := by decide +kernel
theorem d_Guard_add_90 : decode b_Guard_add 90 = .ok (.getfield 24, 3) := by decide +kernel
theorem d_Guard_add_93 : decode b_Guard_add 93 = .ok (.iconst 1, 1) := by decide +kernel
theorem d_Guard_add_94 : decode b_Guard_add 94 = .ok (.iadd, 1) := by decide +kernel
theorem d_Guard_add_95 : decode b_Guard_add 95 = .ok (.putfield 24, 3) := by decide +kernel
theorem d_Guard_add_98 : decode b_Guard_add 98 = .ok (.return_, 1) := by decide +kernel
theorem d_Guard_allows_0 : decode b_Guard_allows 0 = .ok (.iconst 0, 1) := by decide +kernel
theorem d_Guard_allows_1 : decode b_Guard_allows 1 = .ok (.istore 5, 2) := by decide +kernel
theorem d_Guard_allows_3 : decode b_Guard_allows 3 = .ok (.iload 5, 2) := by decide +kernel
theorem d_Guard_allows_5 : decode b_Guard_allows 5 = .ok (.aload_n 0, 1) := by decide +kernel
theorem d_Guard_allows_6 : decode b_Guard_allows 6 = .ok (.getfield 24, 3) := by decide +kernel
theorem d_Guard_allows_9 : decode b_Guard_allows 9 = .ok (.if_icmp .ge 44, 3) := by decide +kernel
theorem d_Guard_allows_12 : decode b_Guard_allows 12 = .ok (.aload_n 0, 1) := by decide +kernel
theorem d_Guard_allows_13 : decode b_Guard_allows 13 = .ok (.getfield 9, 3) := by decide +kernel
theorem d_Guard_allows_16 : decode b_Guard_allows 16 = .ok (.iload 5, 2) := by decide +kernel
theorem d_Guard_allows_18 : decode b_Guard_allows 18 = .ok (.iaload, 1) := by decide +kernel
theorem d_Guard_allows_19 : decode b_Guard_allows 19 = .ok (.i2l, 1) := by decide +kernel
theorem d_Guard_allows_20 : decode b_Guard_allows 20 = .ok (.lload_n 1, 1) := by decide +kernel
theorem d_Guard_allows_21 : decode b_Guard_allows 21 = .ok (.lmul, 1) := by decide +kernel
theorem d_Guard_allows_22 : decode b_Guard_allows 22 = .ok (.aload_n 0, 1) := by decide +kernel
theorem d_Guard_allows_23 : decode b_Guard_allows 23 = .ok (.getfield 15, 3) := by decide +kernel
theorem d_Guard_allows_26 : decode b_Guard_allows 26 = .ok (.iload 5, 2) := by decide +kernel
theorem d_Guard_allows_28 : decode b_Guard_allows 28 = .ok (.iaload, 1) := by decide +kernel
theorem d_Guard_allows_29 : decode b_Guard_allows 29 = .ok (.i2l, 1) := by decide +kernel
theorem d_Guard_allows_30 : decode b_Guard_allows 30 = .ok (.lload_n 3, 1) := by decide +kernel
theorem d_Guard_allows_31 : decode b_Guard_allows 31 = .ok (.lmul, 1) := by decide +kernel
theorem d_Guard_allows_32 : decode b_Guard_allows 32 = .ok (.ladd, 1) := by decide +kernel
theorem d_Guard_allows_33 : decode b_Guard_allows 33 = .ok (.aload_n 0, 1) := by decide +kernel
theorem d_Guard_allows_34 : decode b_Guard_allows 34 = .ok (.getfield 18, 3) := by decide +kernel
theorem d_Guard_allows_37 : decode b_Guard_allows 37 = .ok (.iload 5, 2) := by decide +kernel
theorem d_Guard_allows_39 : decode b_Guard_allows 39 = .ok (.iaload, 1) := by decide +kernel
theorem d_Guard_allows_40 : decode b_Guard_allows 40 = .ok (.i2l, 1) := by decide +kernel
theorem d_Guard_allows_41 : decode b_Guard_allows 41 = .ok (.lcmp, 1) := by decide +kernel
theorem d_Guard_allows_42 : decode b_Guard_allows 42 = .ok (.ifCond .le 5, 3) := by decide +kernel
theorem d_Guard_allows_45 : decode b_Guard_allows 45 = .ok (.iconst 0, 1) := by decide +kernel
theorem d_Guard_allows_46 : decode b_Guard_allows 46 = .ok (.ireturn, 1) := by decide +kernel
theorem d_Guard_allows_47 : decode b_Guard_allows 47 = .ok (.iinc 5 1, 3) := by decide +kernel
theorem d_Guard_allows_50 : decode b_Guard_allows 50 = .ok (.goto (-47), 3) := by decide +kernel
theorem d_Guard_allows_53 : decode b_Guard_allows 53 = .ok (.iconst 1, 1) := by decide +kernel
theorem d_Guard_allows_54 : decode b_Guard_allows 54 = .ok (.ireturn, 1) := by decide +kernel
theorem d_Guard_maximise_0 : decode b_Guard_maximise 0 = .ok (.aload_n 0, 1) := by decide +kernel
theorem d_Guard_maximise_1 : decode b_Guard_maximise 1 = .ok (.lconst 0, 1) := by decide +kernel
theorem d_Guard_maximise_2 : decode b_Guard_maximise 2 = .ok (.putfield 32, 3) := by decide +kernel
theorem d_Guard_maximise_5 : decode b_Guard_maximise 5 = .ok (.aload_n 0, 1) := by decide +kernel
theorem d_Guard_maximise_6 : decode b_Guard_maximise 6 = .ok (.lconst 0, 1) := by decide +kernel
theorem d_Guard_maximise_7 : decode b_Guard_maximise 7 = .ok (.putfield 36, 3) := by decide +kernel
theorem d_Guard_maximise_10 : decode b_Guard_maximise 10 = .ok (.iload_n 1, 1) := by decide +kernel
theorem d_Guard_maximise_11 : decode b_Guard_maximise 11 = .ok (.ifCond .ne 13, 3) := by decide +kernel
theorem d_Guard_maximise_14 : decode b_Guard_maximise 14 = .ok (.iload_n 2, 1) := by decide +kernel
theorem d_Guard_maximise_15 : decode b_Guard_maximise 15 = .ok (.ifCond .ne 9, 3) := by decide +kernel
theorem d_Guard_maximise_18 : decode b_Guard_maximise 18 = .ok (.aload_n 0, 1) := by decide +kernel
theorem d_Guard_maximise_19 : decode b_Guard_maximise 19 = .ok (.lconst 1, 1) := by decide +kernel
theorem d_Guard_maximise_20 : decode b_Guard_maximise 20 = .ok (.putfield 36, 3) := by decide +kernel
theorem d_Guard_maximise_23 : decode b_Guard_maximise 23 = .ok (.return_, 1) := by decide +kernel
theorem d_Guard_maximise_24 : decode b_Guard_maximise 24 = .ok (.iconst 0, 1) := by decide +kernel
theorem d_Guard_maximise_25 : decode b_Guard_maximise 25 = .ok (.istore_n 3, 1) := by decide +kernel
theorem d_Guard_maximise_26 : decode b_Guard_maximise 26 = .ok (.iload_n 3, 1) := by decide +kernel
theorem d_Guard_maximise_27 : decode b_Guard_maximise 27 = .ok (.aload_n 0, 1) := by decide +kernel
theorem d_Guard_maximise_28 : decode b_Guard_maximise 28 = .ok (.getfield 24, 3) := by decide +kernel
theorem d_Guard_maximise_31 : decode b_Guard_maximise 31 = .ok (.if_icmp .ge 45, 3) := by decide +kernel
theorem d_Guard_maximise_34 : decode b_Guard_maximise 34 = .ok (.aload_n 0, 1) := by decide +kernel
theorem d_Guard_maximise_35 : decode b_Guard_maximise 35 = .ok (.iload_n 3, 1) := by decide +kernel
theorem d_Guard_maximise_36 : decode b_Guard_maximise 36 = .ok (.iload_n 1, 1) := by decide +kernel
theorem d_Guard_maximise_37 : decode b_Guard_maximise 37 = .ok (.iload_n 2, 1) := by decide +kernel
theorem d_Guard_maximise_38 : decode b_Guard_maximise 38 = .ok (.invokevirtual 43, 3) := by decide +kernel
theorem d_Guard_maximise_41 : decode b_Guard_maximise 41 = .ok (.iload_n 3, 1) := by decide +kernel
theorem d_Guard_maximise_42 : decode b_Guard_maximise 42 = .ok (.iconst 1, 1) := by decide +kernel
theorem d_Guard_maximise_43 : decode b_Guard_maximise 43 = .ok (.iadd, 1) := by decide +kernel
theorem d_Guard_maximise_44 : decode b_Guard_maximise 44 = .ok (.istore 4, 2) := by decide +kernel
theorem d_Guard_maximise_46 : decode b_Guard_maximise 46 = .ok (.iload 4, 2) := by decide +kernel
theorem d_Guard_maximise_48 : decode b_Guard_maximise 48 = .ok (.aload_n 0, 1) := by decide +kernel
theorem d_Guard_maximise_49 : decode b_Guard_maximise 49 = .ok (.getfield 24, 3) := by decide +kernel
theorem d_Guard_maximise_52 : decode b_Guard_maximise 52 = .ok (.if_icmp .ge 18, 3) := by decide +kernel
theorem d_Guard_maximise_55 : decode b_Guard_maximise 55 = .ok (.aload_n 0, 1) := by decide +kernel
theorem d_Guard_maximise_56 : decode b_Guard_maximise 56 = .ok (.iload_n 3, 1) := by decide +kernel
theorem d_Guard_maximise_57 : decode b_Guard_maximise 57 = .ok (.iload 4, 2) := by decide +kernel
theorem d_Guard_maximise_59 : decode b_Guard_maximise 59 = .ok (.iload_n 1, 1) := by decide +kernel
theorem d_Guard_maximise_60 : decode b_Guard_maximise 60 = .ok (.iload_n 2, 1) := by decide +kernel
theorem d_Guard_maximise_61 : decode b_Guard_maximise 61 = .ok (.invokevirtual 47, 3) := by decide +kernel
theorem d_Guard_maximise_64 : decode b_Guard_maximise 64 = .ok (.iinc 4 1, 3) := by decide +kernel
theorem d_Guard_maximise_67 : decode b_Guard_maximise 67 = .ok (.goto (-21), 3) := by decide +kernel
theorem d_Guard_maximise_70 : decode b_Guard_maximise 70 = .ok (.iinc 3 1, 3) := by decide +kernel
theorem d_Guard_maximise_73 : decode b_Guard_maximise 73 = .ok (.goto (-47), 3) := by decide +kernel
theorem d_Guard_maximise_76 : decode b_Guard_maximise 76 = .ok (.return_, 1) := by decide +kernel
theorem d_Guard_boundByRow_0 : decode b_Guard_boundByRow 0 = .ok (.aload_n 0, 1) := by decide +kernel
theorem d_Guard_boundByRow_1 : decode b_Guard_boundByRow 1 = .ok (.getfield 9, 3) := by decide +kernel
theorem d_Guard_boundByRow_4 : decode b_Guard_boundByRow 4 = .ok (.iload_n 1, 1) := by decide +kernel
theorem d_Guard_boundByRow_5 : decode b_Guard_boundByRow 5 = .ok (.iaload, 1) := by decide +kernel
theorem d_Guard_boundByRow_6 : decode b_Guard_boundByRow 6 = .ok (.i2l, 1) := by decide +kernel
theorem d_Guard_boundByRow_7 : decode b_Guard_boundByRow 7 = .ok (.aload_n 0, 1) := by decide +kernel
theorem d_Guard_boundByRow_8 : decode b_Guard_boundByRow 8 = .ok (.getfield 15, 3) := by decide +kernel
theorem d_Guard_boundByRow_11 : decode b_Guard_boundByRow 11 = .ok (.iload_n 1, 1) := by decide +kernel
theorem d_Guard_boundByRow_12 : decode b_Guard_boundByRow 12 = .ok (.iaload, 1) := by decide +kernel
theorem d_Guard_boundByRow_13 : decode b_Guard_boundByRow 13 = .ok (.i2l, 1) := by decide +kernel
theorem d_Guard_boundByRow_14 : decode b_Guard_boundByRow 14 = .ok (.iload_n 2, 1) := by decide +kernel
theorem d_Guard_boundByRow_15 : decode b_Guard_boundByRow 15 = .ok (.i2l, 1) := by decide +kernel
theorem d_Guard_boundByRow_16 : decode b_Guard_boundByRow 16 = .ok (.iload_n 3, 1) := by decide +kernel
theorem d_Guard_boundByRow_17 : decode b_Guard_boundByRow 17 = .ok (.i2l, 1) := by decide +kernel
theorem d_Guard_boundByRow_18 : decode b_Guard_boundByRow 18 = .ok (.invokestatic 51, 3) := by decide +kernel
theorem d_Guard_boundByRow_21 : decode b_Guard_boundByRow 21 = .ok (.lconst 0, 1) := by decide +kernel
theorem d_Guard_boundByRow_22 : decode b_Guard_boundByRow 22 = .ok (.lcmp, 1) := by decide +kernel
theorem d_Guard_boundByRow_23 : decode b_Guard_boundByRow 23 = .ok (.ifCond .ne 27, 3) := by decide +kernel
theorem d_Guard_boundByRow_26 : decode b_Guard_boundByRow 26 = .ok (.aload_n 0, 1) := by decide +kernel
theorem d_Guard_boundByRow_27 : decode b_Guard_boundByRow 27 = .ok (.getfield 9, 3) := by decide +kernel
theorem d_Guard_boundByRow_30 : decode b_Guard_boundByRow 30 = .ok (.iload_n 1, 1) := by decide +kernel
theorem d_Guard_boundByRow_31 : decode b_Guard_boundByRow 31 = .ok (.iaload, 1) := by decide +kernel
theorem d_Guard_boundByRow_32 : decode b_Guard_boundByRow 32 = .ok (.iload_n 2, 1) := by decide +kernel
theorem d_Guard_boundByRow_33 : decode b_Guard_boundByRow 33 = .ok (.imul, 1) := by decide +kernel
theorem d_Guard_boundByRow_34 : decode b_Guard_boundByRow 34 = .ok (.aload_n 0, 1) := by decide +kernel
theorem d_Guard_boundByRow_35 : decode b_Guard_boundByRow 35 = .ok (.getfield 15, 3) := by decide +kernel
theorem d_Guard_boundByRow_38 : decode b_Guard_boundByRow 38 = .ok (.iload_n 1, 1) := by decide +kernel
theorem d_Guard_boundByRow_39 : decode b_Guard_boundByRow 39 = .ok (.iaload, 1) := by decide +kernel
theorem d_Guard_boundByRow_40 : decode b_Guard_boundByRow 40 = .ok (.iload_n 3, 1) := by decide +kernel
theorem d_Guard_boundByRow_41 : decode b_Guard_boundByRow 41 = .ok (.imul, 1) := by decide +kernel
theorem d_Guard_boundByRow_42 : decode b_Guard_boundByRow 42 = .ok (.iadd, 1) := by decide +kernel
theorem d_Guard_boundByRow_43 : decode b_Guard_boundByRow 43 = .ok (.ifCond .le 7, 3) := by decide +kernel
theorem d_Guard_boundByRow_46 : decode b_Guard_boundByRow 46 = .ok (.iconst 1, 1) := by decide +kernel
theorem d_Guard_boundByRow_47 : decode b_Guard_boundByRow 47 = .ok (.goto 4, 3) := by decide +kernel
theorem d_Guard_boundByRow_50 : decode b_Guard_boundByRow 50 = .ok (.iconst 0, 1) := by decide +kernel
theorem d_Guard_boundByRow_51 : decode b_Guard_boundByRow 51 = .ok (.istore 4, 2) := by decide +kernel
theorem d_Guard_boundByRow_53 : decode b_Guard_boundByRow 53 = .ok (.iload 4, 2) := by decide +kernel
theorem d_Guard_boundByRow_55 : decode b_Guard_boundByRow 55 = .ok (.ifCond .eq 45, 3) := by decide +kernel
theorem d_Guard_boundByRow_58 : decode b_Guard_boundByRow 58 = .ok (.aload_n 0, 1) := by decide +kernel
theorem d_Guard_boundByRow_59 : decode b_Guard_boundByRow 59 = .ok (.aload_n 0, 1) := by decide +kernel
theorem d_Guard_boundByRow_60 : decode b_Guard_boundByRow 60 = .ok (.getfield 18, 3) := by decide +kernel
theorem d_Guard_boundByRow_63 : decode b_Guard_boundByRow 63 = .ok (.iload_n 1, 1) := by decide +kernel
theorem d_Guard_boundByRow_64 : decode b_Guard_boundByRow 64 = .ok (.iaload, 1) := by decide +kernel
theorem d_Guard_boundByRow_65 : decode b_Guard_boundByRow 65 = .ok (.i2l, 1) := by decide +kernel
theorem d_Guard_boundByRow_66 : decode b_Guard_boundByRow 66 = .ok (.iload_n 2, 1) := by decide +kernel
theorem d_Guard_boundByRow_67 : decode b_Guard_boundByRow 67 = .ok (.invokestatic 55, 3) := by decide +kernel
theorem d_Guard_boundByRow_70 : decode b_Guard_boundByRow 70 = .ok (.iload_n 3, 1) := by decide +kernel
theorem d_Guard_boundByRow_71 : decode b_Guard_boundByRow 71 = .ok (.invokestatic 55, 3) := by decide +kernel
theorem d_Guard_boundByRow_74 : decode b_Guard_boundByRow 74 = .ok (.iadd, 1) := by decide +kernel
theorem d_Guard_boundByRow_75 : decode b_Guard_boundByRow 75 = .ok (.i2l, 1) := by decide +kernel
theorem d_Guard_boundByRow_76 : decode b_Guard_boundByRow 76 = .ok (.lmul, 1) := by decide +kernel
theorem d_Guard_boundByRow_77 : decode b_Guard_boundByRow 77 = .ok (.aload_n 0, 1) := by decide +kernel
theorem d_Guard_boundByRow_78 : decode b_Guard_boundByRow 78 = .ok (.getfield 9, 3) := by decide +kernel
theorem d_Guard_boundByRow_81 : decode b_Guard_boundByRow 81 = .ok (.iload_n 1, 1) := by decide +kernel
theorem d_Guard_boundByRow_82 : decode b_Guard_boundByRow 82 = .ok (.iaload, 1) := by decide +kernel
theorem d_Guard_boundByRow_83 : decode b_Guard_boundByRow 83 = .ok (.invokestatic 55, 3) := by decide +kernel
theorem d_Guard_boundByRow_86 : decode b_Guard_boundByRow 86 = .ok (.aload_n 0, 1) := by decide +kernel
theorem d_Guard_boundByRow_87 : decode b_Guard_boundByRow 87 = .ok (.getfield 15, 3) := by decide +kernel
theorem d_Guard_boundByRow_90 : decode b_Guard_boundByRow 90 = .ok (.iload_n 1, 1) := by decide +kernel
theorem d_Guard_boundByRow_91 : decode b_Guard_boundByRow 91 = .ok (.iaload, 1) := by decide +kernel
theorem d_Guard_boundByRow_92 : decode b_Guard_boundByRow 92 = .ok (.invokestatic 55, 3) := by decide +kernel
theorem d_Guard_boundByRow_95 : decode b_Guard_boundByRow 95 = .ok (.iadd, 1) := by decide +kernel
theorem d_Guard_boundByRow_96 : decode b_Guard_boundByRow 96 = .ok (.i2l, 1) := by decide +kernel
theorem d_Guard_boundByRow_97 : decode b_Guard_boundByRow 97 = .ok (.invokevirtual 61, 3) := by decide +kernel
theorem d_Guard_boundByRow_100 : decode b_Guard_boundByRow 100 = .ok (.return_, 1) := by decide +kernel
theorem d_Guard_boundByPair_0 : decode b_Guard_boundByPair 0 = .ok (.aload_n 0, 1) := by decide +kernel
theorem d_Guard_boundByPair_1 : decode b_Guard_boundByPair 1 = .ok (.getfield 9, 3) := by decide +kernel
theorem d_Guard_boundByPair_4 : decode b_Guard_boundByPair 4 = .ok (.iload_n 1, 1) := by decide +kernel
theorem d_Guard_boundByPair_5 : decode b_Guard_boundByPair 5 = .ok (.iaload, 1) := by decide +kernel
theorem d_Guard_boundByPair_6 : decode b_Guard_boundByPair 6 = .ok (.i2l, 1) := by decide +kernel
theorem d_Guard_boundByPair_7 : decode b_Guard_boundByPair 7 = .ok (.aload_n 0, 1) := by decide +kernel
theorem d_Guard_boundByPair_8 : decode b_Guard_boundByPair 8 = .ok (.getfield 15, 3) := by decide +kernel
theorem d_Guard_boundByPair_11 : decode b_Guard_boundByPair 11 = .ok (.iload_n 1, 1) := by decide +kernel
theorem d_Guard_boundByPair_12 : decode b_Guard_boundByPair 12 = .ok (.iaload, 1) := by decide +kernel
theorem d_Guard_boundByPair_13 : decode b_Guard_boundByPair 13 = .ok (.i2l, 1) := by decide +kernel
theorem d_Guard_boundByPair_14 : decode b_Guard_boundByPair 14 = .ok (.aload_n 0, 1) := by decide +kernel
theorem d_Guard_boundByPair_15 : decode b_Guard_boundByPair 15 = .ok (.getfield 9, 3) := by decide +kernel
theorem d_Guard_boundByPair_18 : decode b_Guard_boundByPair 18 = .ok (.iload_n 2, 1) := by decide +kernel
theorem d_Guard_boundByPair_19 : decode b_Guard_boundByPair 19 = .ok (.iaload, 1) := by decide +kernel
theorem d_Guard_boundByPair_20 : decode b_Guard_boundByPair 20 = .ok (.i2l, 1) := by decide +kernel
theorem d_Guard_boundByPair_21 : decode b_Guard_boundByPair 21 = .ok (.aload_n 0, 1) := by decide +kernel
theorem d_Guard_boundByPair_22 : decode b_Guard_boundByPair 22 = .ok (.getfield 15, 3) := by decide +kernel
theorem d_Guard_boundByPair_25 : decode b_Guard_boundByPair 25 = .ok (.iload_n 2, 1) := by decide +kernel
theorem d_Guard_boundByPair_26 : decode b_Guard_boundByPair 26 = .ok (.iaload, 1) := by decide +kernel
theorem d_Guard_boundByPair_27 : decode b_Guard_boundByPair 27 = .ok (.i2l, 1) := by decide +kernel
theorem d_Guard_boundByPair_28 : decode b_Guard_boundByPair 28 = .ok (.invokestatic 51, 3) := by decide +kernel
theorem d_Guard_boundByPair_31 : decode b_Guard_boundByPair 31 = .ok (.lstore 5, 2) := by decide +kernel
theorem d_Guard_boundByPair_33 : decode b_Guard_boundByPair 33 = .ok (.lload 5, 2) := by decide +kernel
theorem d_Guard_boundByPair_35 : decode b_Guard_boundByPair 35 = .ok (.lconst 0, 1) := by decide +kernel
theorem d_Guard_boundByPair_36 : decode b_Guard_boundByPair 36 = .ok (.lcmp, 1) := by decide +kernel
theorem d_Guard_boundByPair_37 : decode b_Guard_boundByPair 37 = .ok (.ifCond .ge 9, 3) := by decide +kernel
theorem d_Guard_boundByPair_40 : decode b_Guard_boundByPair 40 = .ok (.ldc2_w 65, 3) := by decide +kernel
theorem d_Guard_boundByPair_43 : decode b_Guard_boundByPair 43 = .ok (.goto 4, 3) := by decide +kernel
theorem d_Guard_boundByPair_46 : decode b_Guard_boundByPair 46 = .ok (.lconst 1, 1) := by decide +kernel
theorem d_Guard_boundByPair_47 : decode b_Guard_boundByPair 47 = .ok (.lstore 7, 2) := by decide +kernel
theorem d_Guard_boundByPair_49 : decode b_Guard_boundByPair 49 = .ok (.lload 7, 2) := by decide +kernel
theorem d_Guard_boundByPair_51 : decode b_Guard_boundByPair 51 = .ok (.iload_n 3, 1) := by decide +kernel
theorem d_Guard_boundByPair_52 : decode b_Guard_boundByPair 52 = .ok (.i2l, 1) := by decide +kernel
theorem d_Guard_boundByPair_53 : decode b_Guard_boundByPair 53 = .ok (.iload 4, 2) := by decide +kernel
theorem d_Guard_boundByPair_55 : decode b_Guard_boundByPair 55 = .ok (.i2l, 1) := by decide +kernel
theorem d_Guard_boundByPair_56 : decode b_Guard_boundByPair 56 = .ok (.aload_n 0, 1) := by decide +kernel
theorem d_Guard_boundByPair_57 : decode b_Guard_boundByPair 57 = .ok (.getfield 9, 3) := by decide +kernel
theorem d_Guard_boundByPair_60 : decode b_Guard_boundByPair 60 = .ok (.iload_n 2, 1) := by decide +kernel
theorem d_Guard_boundByPair_61 : decode b_Guard_boundByPair 61 = .ok (.iaload, 1) := by decide +kernel
theorem d_Guard_boundByPair_62 : decode b_Guard_boundByPair 62 = .ok (.i2l, 1) := by decide +kernel
theorem d_Guard_boundByPair_63 : decode b_Guard_boundByPair 63 = .ok (.aload_n 0, 1) := by decide +kernel
theorem d_Guard_boundByPair_64 : decode b_Guard_boundByPair 64 = .ok (.getfield 15, 3) := by decide +kernel
theorem d_Guard_boundByPair_67 : decode b_Guard_boundByPair 67 = .ok (.iload_n 2, 1) := by decide +kernel
theorem d_Guard_boundByPair_68 : decode b_Guard_boundByPair 68 = .ok (.iaload, 1) := by decide +kernel
theorem d_Guard_boundByPair_69 : decode b_Guard_boundByPair 69 = .ok (.i2l, 1) := by decide +kernel
theorem d_Guard_boundByPair_70 : decode b_Guard_boundByPair 70 = .ok (.invokestatic 51, 3) := by decide +kernel
theorem d_Guard_boundByPair_73 : decode b_Guard_boundByPair 73 = .ok (.lmul, 1) := by decide +kernel
theorem d_Guard_boundByPair_74 : decode b_Guard_boundByPair 74 = .ok (.lstore 9, 2) := by decide +kernel
theorem d_Guard_boundByPair_76 : decode b_Guard_boundByPair 76 = .ok (.lload 7, 2) := by decide +kernel
theorem d_Guard_boundByPair_78 : decode b_Guard_boundByPair 78 = .ok (.aload_n 0, 1) := by decide +kernel
theorem d_Guard_boundByPair_79 : decode b_Guard_boundByPair 79 = .ok (.getfield 9, 3) := by decide +kernel
theorem d_Guard_boundByPair_82 : decode b_Guard_boundByPair 82 = .ok (.iload_n 1, 1) := by decide +kernel
theorem d_Guard_boundByPair_83 : decode b_Guard_boundByPair 83 = .ok (.iaload, 1) := by decide +kernel
theorem d_Guard_boundByPair_84 : decode b_Guard_boundByPair 84 = .ok (.i2l, 1) := by decide +kernel
theorem d_Guard_boundByPair_85 : decode b_Guard_boundByPair 85 = .ok (.aload_n 0, 1) := by decide +kernel
theorem d_Guard_boundByPair_86 : decode b_Guard_boundByPair 86 = .ok (.getfield 15, 3) := by decide +kernel
theorem d_Guard_boundByPair_89 : decode b_Guard_boundByPair 89 = .ok (.iload_n 1, 1) := by decide +kernel
theorem d_Guard_boundByPair_90 : decode b_Guard_boundByPair 90 = .ok (.iaload, 1) := by decide +kernel
theorem d_Guard_boundByPair_91 : decode b_Guard_boundByPair 91 = .ok (.i2l, 1) := by decide +kernel
theorem d_Guard_boundByPair_92 : decode b_Guard_boundByPair 92 = .ok (.iload_n 3, 1) := by decide +kernel
theorem d_Guard_boundByPair_93 : decode b_Guard_boundByPair 93 = .ok (.i2l, 1) := by decide +kernel
theorem d_Guard_boundByPair_94 : decode b_Guard_boundByPair 94 = .ok (.iload 4, 2) := by decide +kernel
theorem d_Guard_boundByPair_96 : decode b_Guard_boundByPair 96 = .ok (.i2l, 1) := by decide +kernel
theorem d_Guard_boundByPair_97 : decode b_Guard_boundByPair 97 = .ok (.invokestatic 51, 3) := by decide +kernel
theorem d_Guard_boundByPair_100 : decode b_Guard_boundByPair 100 = .ok (.lmul, 1) := by decide +kernel
theorem d_Guard_boundByPair_101 : decode b_Guard_boundByPair 101 = .ok (.lstore 11, 2) := by decide +kernel
theorem d_Guard_boundByPair_103 : decode b_Guard_boundByPair 103 = .ok (.lload 5, 2) := by decide +kernel
theorem d_Guard_boundByPair_105 : decode b_Guard_boundByPair 105 = .ok (.lconst 0, 1) := by decide +kernel
theorem d_Guard_boundByPair_106 : decode b_Guard_boundByPair 106 = .ok (.lcmp, 1) := by decide +kernel
theorem d_Guard_boundByPair_107 : decode b_Guard_boundByPair 107 = .ok (.ifCond .eq 47, 3) := by decide +kernel
theorem d_Guard_boundByPair_110 : decode b_Guard_boundByPair 110 = .ok (.lload 9, 2) := by decide +kernel
theorem d_Guard_boundByPair_112 : decode b_Guard_boundByPair 112 = .ok (.lconst 0, 1) := by decide +kernel
theorem d_Guard_boundByPair_113 : decode b_Guard_boundByPair 113 = .ok (.lcmp, 1) := by decide +kernel
theorem d_Guard_boundByPair_114 : decode b_Guard_boundByPair 114 = .ok (.ifCond .lt 40, 3) := by decide +kernel
theorem d_Guard_boundByPair_117 : decode b_Guard_boundByPair 117 = .ok (.lload 11, 2) := by decide +kernel
theorem d_Guard_boundByPair_119 : decode b_Guard_boundByPair 119 = .ok (.lconst 0, 1) := by decide +kernel
theorem d_Guard_boundByPair_120 : decode b_Guard_boundByPair 120 = .ok (.lcmp, 1) := by decide +kernel
theorem d_Guard_boundByPair_121 : decode b_Guard_boundByPair 121 = .ok (.ifCond .lt 33, 3) := by decide +kernel
theorem d_Guard_boundByPair_124 : decode b_Guard_boundByPair 124 = .ok (.aload_n 0, 1) := by decide +kernel
theorem d_Guard_boundByPair_125 : decode b_Guard_boundByPair 125 = .ok (.aload_n 0, 1) := by decide +kernel
theorem d_Guard_boundByPair_126 : decode b_Guard_boundByPair 126 = .ok (.getfield 18, 3) := by decide +kernel
theorem d_Guard_boundByPair_129 : decode b_Guard_boundByPair 129 = .ok (.iload_n 1, 1) := by decide +kernel
theorem d_Guard_boundByPair_130 : decode b_Guard_boundByPair 130 = .ok (.iaload, 1) := by decide +kernel
theorem d_Guard_boundByPair_131 : decode b_Guard_boundByPair 131 = .ok (.i2l, 1) := by decide +kernel
theorem d_Guard_boundByPair_132 : decode b_Guard_boundByPair 132 = .ok (.lload 9, 2) := by decide +kernel
theorem d_Guard_boundByPair_134 : decode b_Guard_boundByPair 134 = .ok (.lmul, 1) := by decide +kernel
theorem d_Guard_boundByPair_135 : decode b_Guard_boundByPair 135 = .ok (.aload_n 0, 1) := by decide +kernel
theorem d_Guard_boundByPair_136 : decode b_Guard_boundByPair 136 = .ok (.getfield 18, 3) := by decide +kernel
theorem d_Guard_boundByPair_139 : decode b_Guard_boundByPair 139 = .ok (.iload_n 2, 1) := by decide +kernel
theorem d_Guard_boundByPair_140 : decode b_Guard_boundByPair 140 = .ok (.iaload, 1) := by decide +kernel
theorem d_Guard_boundByPair_141 : decode b_Guard_boundByPair 141 = .ok (.i2l, 1) := by decide +kernel
theorem d_Guard_boundByPair_142 : decode b_Guard_boundByPair 142 = .ok (.lload 11, 2) := by decide +kernel
theorem d_Guard_boundByPair_144 : decode b_Guard_boundByPair 144 = .ok (.lmul, 1) := by decide +kernel
theorem d_Guard_boundByPair_145 : decode b_Guard_boundByPair 145 = .ok (.ladd, 1) := by decide +kernel
theorem d_Guard_boundByPair_146 : decode b_Guard_boundByPair 146 = .ok (.lload 7, 2) := by decide +kernel
theorem d_Guard_boundByPair_148 : decode b_Guard_boundByPair 148 = .ok (.lload 5, 2) := by decide +kernel
theorem d_Guard_boundByPair_150 : decode b_Guard_boundByPair 150 = .ok (.lmul, 1) := by decide +kernel
theorem d_Guard_boundByPair_151 : decode b_Guard_boundByPair 151 = .ok (.invokevirtual 61, 3) := by decide +kernel
theorem d_Guard_boundByPair_154 : decode b_Guard_boundByPair 154 = .ok (.return_, 1) := by decide +kernel
theorem d_Guard_lowerTo_0 : decode b_Guard_lowerTo 0 = .ok (.aload_n 0, 1) := by decide +kernel
theorem d_Guard_lowerTo_1 : decode b_Guard_lowerTo 1 = .ok (.getfield 36, 3) := by decide +kernel
theorem d_Guard_lowerTo_4 : decode b_Guard_lowerTo 4 = .ok (.lconst 0, 1) := by decide +kernel
theorem d_Guard_lowerTo_5 : decode b_Guard_lowerTo 5 = .ok (.lcmp, 1) := by decide +kernel
theorem d_Guard_lowerTo_6 : decode b_Guard_lowerTo 6 = .ok (.ifCond .eq 19, 3) := by decide +kernel
theorem d_Guard_lowerTo_9 : decode b_Guard_lowerTo 9 = .ok (.lload_n 1, 1) := by decide +kernel
theorem d_Guard_lowerTo_10 : decode b_Guard_lowerTo 10 = .ok (.aload_n 0, 1) := by decide +kernel
theorem d_Guard_lowerTo_11 : decode b_Guard_lowerTo 11 = .ok (.getfield 36, 3) := by decide +kernel
theorem d_Guard_lowerTo_14 : decode b_Guard_lowerTo 14 = .ok (.lmul, 1) := by decide +kernel
theorem d_Guard_lowerTo_15 : decode b_Guard_lowerTo 15 = .ok (.aload_n 0, 1) := by decide +kernel
theorem d_Guard_lowerTo_16 : decode b_Guard_lowerTo 16 = .ok (.getfield 32, 3) := by decide +kernel
theorem d_Guard_lowerTo_19 : decode b_Guard_lowerTo 19 = .ok (.lload_n 3, 1) := by decide +kernel
theorem d_Guard_lowerTo_20 : decode b_Guard_lowerTo 20 = .ok (.lmul, 1) := by decide +kernel
theorem d_Guard_lowerTo_21 : decode b_Guard_lowerTo 21 = .ok (.lcmp, 1) := by decide +kernel
theorem d_Guard_lowerTo_22 : decode b_Guard_lowerTo 22 = .ok (.ifCond .ge 13, 3) := by decide +kernel
theorem d_Guard_lowerTo_25 : decode b_Guard_lowerTo 25 = .ok (.aload_n 0, 1) := by decide +kernel
theorem d_Guard_lowerTo_26 : decode b_Guard_lowerTo 26 = .ok (.lload_n 1, 1) := by decide +kernel
theorem d_Guard_lowerTo_27 : decode b_Guard_lowerTo 27 = .ok (.putfield 32, 3) := by decide +kernel
theorem d_Guard_lowerTo_30 : decode b_Guard_lowerTo 30 = .ok (.aload_n 0, 1) := by decide +kernel
theorem d_Guard_lowerTo_31 : decode b_Guard_lowerTo 31 = .ok (.lload_n 3, 1) := by decide +kernel
theorem d_Guard_lowerTo_32 : decode b_Guard_lowerTo 32 = .ok (.putfield 36, 3) := by decide +kernel
theorem d_Guard_lowerTo_35 : decode b_Guard_lowerTo 35 = .ok (.return_, 1) := by decide +kernel
theorem d_Guard_hasMaximum_0 : decode b_Guard_hasMaximum 0 = .ok (.aload_n 0, 1) := by decide +kernel
theorem d_Guard_hasMaximum_1 : decode b_Guard_hasMaximum 1 = .ok (.getfield 36, 3) := by decide +kernel
theorem d_Guard_hasMaximum_4 : decode b_Guard_hasMaximum 4 = .ok (.lconst 0, 1) := by decide +kernel
theorem d_Guard_hasMaximum_5 : decode b_Guard_hasMaximum 5 = .ok (.lcmp, 1) := by decide +kernel
theorem d_Guard_hasMaximum_6 : decode b_Guard_hasMaximum 6 = .ok (.ifCond .eq 7, 3) := by decide +kernel
theorem d_Guard_hasMaximum_9 : decode b_Guard_hasMaximum 9 = .ok (.iconst 1, 1) := by decide +kernel
theorem d_Guard_hasMaximum_10 : decode b_Guard_hasMaximum 10 = .ok (.goto 4, 3) := by decide +kernel
theorem d_Guard_hasMaximum_13 : decode b_Guard_hasMaximum 13 = .ok (.iconst 0, 1) := by decide +kernel
theorem d_Guard_hasMaximum_14 : decode b_Guard_hasMaximum 14 = .ok (.ireturn, 1) := by decide +kernel
theorem d_Guard_maximumIsAtMost_0 : decode b_Guard_maximumIsAtMost 0 = .ok (.aload_n 0, 1) := by decide +kernel
theorem d_Guard_maximumIsAtMost_1 : decode b_Guard_maximumIsAtMost 1 = .ok (.getfield 36, 3) := by decide +kernel
theorem d_Guard_maximumIsAtMost_4 : decode b_Guard_maximumIsAtMost 4 = .ok (.lconst 0, 1) := by decide +kernel
theorem d_Guard_maximumIsAtMost_5 : decode b_Guard_maximumIsAtMost 5 = .ok (.lcmp, 1) := by decide +kernel
theorem d_Guard_maximumIsAtMost_6 : decode b_Guard_maximumIsAtMost 6 = .ok (.ifCond .eq 21, 3) := by decide +kernel
theorem d_Guard_maximumIsAtMost_9 : decode b_Guard_maximumIsAtMost 9 = .ok (.aload_n 0, 1) := by decide +kernel
theorem d_Guard_maximumIsAtMost_10 : decode b_Guard_maximumIsAtMost 10 = .ok (.getfield 32, 3) := by decide +kernel
theorem d_Guard_maximumIsAtMost_13 : decode b_Guard_maximumIsAtMost 13 = .ok (.lload_n 1, 1) := by decide +kernel
theorem d_Guard_maximumIsAtMost_14 : decode b_Guard_maximumIsAtMost 14 = .ok (.aload_n 0, 1) := by decide +kernel
theorem d_Guard_maximumIsAtMost_15 : decode b_Guard_maximumIsAtMost 15 = .ok (.getfield 36, 3) := by decide +kernel
theorem d_Guard_maximumIsAtMost_18 : decode b_Guard_maximumIsAtMost 18 = .ok (.lmul, 1) := by decide +kernel
theorem d_Guard_maximumIsAtMost_19 : decode b_Guard_maximumIsAtMost 19 = .ok (.lcmp, 1) := by decide +kernel
theorem d_Guard_maximumIsAtMost_20 : decode b_Guard_maximumIsAtMost 20 = .ok (.ifCond .gt 7, 3) := by decide +kernel
theorem d_Guard_maximumIsAtMost_23 : decode b_Guard_maximumIsAtMost 23 = .ok (.iconst 1, 1) := by decide +kernel
theorem d_Guard_maximumIsAtMost_24 : decode b_Guard_maximumIsAtMost 24 = .ok (.goto 4, 3) := by decide +kernel
theorem d_Guard_maximumIsAtMost_27 : decode b_Guard_maximumIsAtMost 27 = .ok (.iconst 0, 1) := by decide +kernel
theorem d_Guard_maximumIsAtMost_28 : decode b_Guard_maximumIsAtMost 28 = .ok (.ireturn, 1) := by decide +kernel
theorem d_Guard_maximumRoundedDown_0 : decode b_Guard_maximumRoundedDown 0 = .ok (.aload_n 0, 1) := by decide +kernel
theorem d_Guard_maximumRoundedDown_1 : decode b_Guard_maximumRoundedDown 1 = .ok (.getfield 36, 3) := by decide +kernel
theorem d_Guard_maximumRoundedDown_4 : decode b_Guard_maximumRoundedDown 4 = .ok (.lconst 0, 1) := by decide +kernel
theorem d_Guard_maximumRoundedDown_5 : decode b_Guard_maximumRoundedDown 5 = .ok (.lcmp, 1) := by decide +kernel
theorem d_Guard_maximumRoundedDown_6 : decode b_Guard_maximumRoundedDown 6 = .ok (.ifCond .ne 9, 3) := by decide +kernel
theorem d_Guard_maximumRoundedDown_9 : decode b_Guard_maximumRoundedDown 9 = .ok (.ldc2_w 67, 3) := by decide +kernel
theorem d_Guard_maximumRoundedDown_12 : decode b_Guard_maximumRoundedDown 12 = .ok (.goto 14, 3) := by decide +kernel
theorem d_Guard_maximumRoundedDown_15 : decode b_Guard_maximumRoundedDown 15 = .ok (.aload_n 0, 1) := by decide +kernel
theorem d_Guard_maximumRoundedDown_16 : decode b_Guard_maximumRoundedDown 16 = .ok (.getfield 32, 3) := by decide +kernel
theorem d_Guard_maximumRoundedDown_19 : decode b_Guard_maximumRoundedDown 19 = .ok (.aload_n 0, 1) := by decide +kernel
theorem d_Guard_maximumRoundedDown_20 : decode b_Guard_maximumRoundedDown 20 = .ok (.getfield 36, 3) := by decide +kernel
theorem d_Guard_maximumRoundedDown_23 : decode b_Guard_maximumRoundedDown 23 = .ok (.invokestatic 69, 3) := by decide +kernel
theorem d_Guard_maximumRoundedDown_26 : decode b_Guard_maximumRoundedDown 26 = .ok (.lreturn, 1) := by decide +kernel
theorem d_Guard_cross_0 : decode b_Guard_cross 0 = .ok (.lload_n 0, 1) := by decide +kernel
theorem d_Guard_cross_1 : decode b_Guard_cross 1 = .ok (.lload 6, 2) := by decide +kernel
theorem d_Guard_cross_3 : decode b_Guard_cross 3 = .ok (.lmul, 1) := by decide +kernel
theorem d_Guard_cross_4 : decode b_Guard_cross 4 = .ok (.lload_n 2, 1) := by decide +kernel
theorem d_Guard_cross_5 : decode b_Guard_cross 5 = .ok (.lload 4, 2) := by decide +kernel
theorem d_Guard_cross_7 : decode b_Guard_cross 7 = .ok (.lmul, 1) := by decide +kernel
theorem d_Guard_cross_8 : decode b_Guard_cross 8 = .ok (.lsub, 1) := by decide +kernel
theorem d_Guard_cross_9 : decode b_Guard_cross 9 = .ok (.lreturn, 1) := by decide +kernel
theorem d_Math_floorDiv_0 : decode b_Math_floorDiv 0 = .ok (.lload_n 0, 1) := by decide +kernel
theorem d_Math_floorDiv_1 : decode b_Math_floorDiv 1 = .ok (.lload_n 2, 1) := by decide +kernel
theorem d_Math_floorDiv_2 : decode b_Math_floorDiv 2 = .ok (.ldiv, 1) := by decide +kernel
theorem d_Math_floorDiv_3 : decode b_Math_floorDiv 3 = .ok (.lstore 4, 2) := by decide +kernel
theorem d_Math_floorDiv_5 : decode b_Math_floorDiv 5 = .ok (.lload_n 0, 1) := by decide +kernel
theorem d_Math_floorDiv_6 : decode b_Math_floorDiv 6 = .ok (.lload_n 2, 1) := by decide +kernel
theorem d_Math_floorDiv_7 : decode b_Math_floorDiv 7 = .ok (.lxor, 1) := by decide +kernel
theorem d_Math_floorDiv_8 : decode b_Math_floorDiv 8 = .ok (.lconst 0, 1) := by decide +kernel
theorem d_Math_floorDiv_9 : decode b_Math_floorDiv 9 = .ok (.lcmp, 1) := by decide +kernel
theorem d_Math_floorDiv_10 : decode b_Math_floorDiv 10 = .ok (.ifCond .ge 17, 3) := by decide +kernel
theorem d_Math_floorDiv_13 : decode b_Math_floorDiv 13 = .ok (.lload 4, 2) := by decide +kernel
theorem d_Math_floorDiv_15 : decode b_Math_floorDiv 15 = .ok (.lload_n 2, 1) := by decide +kernel
theorem d_Math_floorDiv_16 : decode b_Math_floorDiv 16 = .ok (.lmul, 1) := by decide +kernel
theorem d_Math_floorDiv_17 : decode b_Math_floorDiv 17 = .ok (.lload_n 0, 1) := by decide +kernel
theorem d_Math_floorDiv_18 : decode b_Math_floorDiv 18 = .ok (.lcmp, 1) := by decide +kernel
theorem d_Math_floorDiv_19 : decode b_Math_floorDiv 19 = .ok (.ifCond .eq 8, 3) := by decide +kernel
theorem d_Math_floorDiv_22 : decode b_Math_floorDiv 22 = .ok (.lload 4, 2) := by decide +kernel
theorem d_Math_floorDiv_24 : decode b_Math_floorDiv 24 = .ok (.lconst 1, 1) := by decide +kernel
theorem d_Math_floorDiv_25 : decode b_Math_floorDiv 25 = .ok (.lsub, 1) := by decide +kernel
theorem d_Math_floorDiv_26 : decode b_Math_floorDiv 26 = .ok (.lreturn, 1) := by decide +kernel
theorem d_Math_floorDiv_27 : decode b_Math_floorDiv 27 = .ok (.lload 4, 2) := by decide +kernel
theorem d_Math_floorDiv_29 : decode b_Math_floorDiv 29 = .ok (.lreturn, 1) := by decide +kernel
end
section
section CT
variable {l : Launch} {D : va_G} {cI cJ cS : ClassId}
set_option maxHeartbeats 4000000 in
set_option maxRecDepth 100000 in
theorem c_Math_floorDiv (x y : Int64) (hne : ¬ y = 0) : wk_kl l y_Math_floorDiv (Cond.code y_Math_floorDiv b_Math_floorDiv 6 (some .long) :: BW) rm_Math_floorDiv D cls (kT cI cJ cS) nz [.long x, .long y] ([]) (fun u => u = []) (g_fd x y) := by
  refine ws_l (by decide +kernel) (Nat.le_of_ble_eq_true rfl) ?_
  intro p e s m below meth c A ls Q X hret hl hP hD hS
  obtain ⟨H, hH⟩ : ∃ H, H = s.heap := ⟨_, rfl⟩
  obtain ⟨locs, hlo⟩ : ∃ locs : List Loc, locs = [] := ⟨_, rfl⟩
  have hP : va_P D cls ([]) H := by rw [hH]; exact hP
  have hS : va_S A s.heap H locs := by rw [hH, hlo]; exact hS
  suffices hgo : W p l e rm_Math_floorDiv s m ([.long x, .long y] : List Value).toArray below meth c H locs 0 0 Q (F0 m 0 ls ([])) by rw [hH, hlo] at hgo; exact hgo
  clear hH hlo
  have hl : lv_has ls 6 [(0, .long x), (2, .long y)] := hl
  refine lv_lload_n X.1.1 X.1.2.1 d_Math_floorDiv_0 rfl (lv_at hl 0 rfl) ?_
  refine lv_lload_n X.1.1 X.1.2.1 d_Math_floorDiv_1 rfl (lv_at hl 1 rfl) ?_
  refine lv_ldiv X.1.1 X.1.2.1 d_Math_floorDiv_2 hne ?_
  refine lv_lstore X.1.1 X.1.2.1 d_Math_floorDiv_3 hl (by decide) rfl (fun ls hl => ?_)
  have hl : lv_has ls 6 [(4, .long (x / y)), (0, .long x), (2, .long y)] := hl
  refine lv_lload_n X.1.1 X.1.2.1 d_Math_floorDiv_5 rfl (lv_at hl 1 rfl) ?_
  refine lv_lload_n X.1.1 X.1.2.1 d_Math_floorDiv_6 rfl (lv_at hl 2 rfl) ?_
  refine lv_lxor X.1.1 X.1.2.1 d_Math_floorDiv_7 ?_
  refine lv_lconst (v := 0) X.1.1 X.1.2.1 d_Math_floorDiv_8 (by decide) ?_
  refine wl_ge (tgt := 27) X.1.1 X.1.2.1 d_Math_floorDiv_9 d_Math_floorDiv_10 (by decide) (fun h9 => ?_) (fun h9 => ?_)
  · refine lv_lload X.1.1 X.1.2.1 d_Math_floorDiv_27 (lv_at hl 0 rfl) ?_
    exact hret 29 H locs ls _ _ hP hD hS d_Math_floorDiv_29 (by simp [g_fd, h9]) (rfl)
  · refine lv_lload X.1.1 X.1.2.1 d_Math_floorDiv_13 (lv_at hl 0 rfl) ?_
    refine lv_lload_n X.1.1 X.1.2.1 d_Math_floorDiv_15 rfl (lv_at hl 2 rfl) ?_
    refine lv_lmul X.1.1 X.1.2.1 d_Math_floorDiv_16 ?_
    refine lv_lload_n X.1.1 X.1.2.1 d_Math_floorDiv_17 rfl (lv_at hl 1 rfl) ?_
    refine wl_eq (tgt := 27) X.1.1 X.1.2.1 d_Math_floorDiv_18 d_Math_floorDiv_19 (by decide) (fun h18 => ?_) (fun h18 => ?_)
    · refine lv_lload X.1.1 X.1.2.1 d_Math_floorDiv_27 (lv_at hl 0 rfl) ?_
      exact hret 29 H locs ls _ _ hP hD hS d_Math_floorDiv_29 (by simp [g_fd, h9, h18]) (rfl)
    · refine lv_lload X.1.1 X.1.2.1 d_Math_floorDiv_22 (lv_at hl 0 rfl) ?_
      refine lv_lconst (v := 1) X.1.1 X.1.2.1 d_Math_floorDiv_24 (by decide) ?_
      refine lv_lsub X.1.1 X.1.2.1 d_Math_floorDiv_25 ?_
      exact hret 26 H locs ls _ _ hP hD hS d_Math_floorDiv_26 (by simp [g_fd, h9, h18]) (rfl)
set_option maxHeartbeats 4000000 in
set_option maxRecDepth 100000 in
theorem c_Guard_cross (x1 x2 x3 x4 : Int64) : wk_kl l y_Guard_cross (Cond.code y_Guard_cross b_Guard_cross 8 (some .long) :: BW) rm_Guard_cross D cls (kT cI cJ cS) nz [.long x1, .long x2, .long x3, .long x4] ([]) (fun u => u = []) (g_cross x1 x2 x3 x4) := by
  refine ws_l (plainFor_of_name (by decide)) (Nat.le_of_ble_eq_true rfl) ?_
  intro p e s m below meth c A ls Q X hret hl hP hD hS
  obtain ⟨H, hH⟩ : ∃ H, H = s.heap := ⟨_, rfl⟩
  obtain ⟨locs, hlo⟩ : ∃ locs : List Loc, locs = [] := ⟨_, rfl⟩
  have hP : va_P D cls ([]) H := by rw [hH]; exact hP
  have hS : va_S A s.heap H locs := by rw [hH, hlo]; exact hS
  suffices hgo : W p l e rm_Guard_cross s m ([.long x1, .long x2, .long x3, .long x4] : List Value).toArray below meth c H locs 0 0 Q (F0 m 0 ls ([])) by rw [hH, hlo] at hgo; exact hgo
  clear hH hlo
  have hl : lv_has ls 8 [(0, .long x1), (2, .long x2), (4, .long x3), (6, .long x4)] := hl
  refine lv_lload_n X.1.1 X.1.2.1 d_Guard_cross_0 rfl (lv_at hl 0 rfl) ?_
  refine lv_lload X.1.1 X.1.2.1 d_Guard_cross_1 (lv_at hl 3 rfl) ?_
  refine lv_lmul X.1.1 X.1.2.1 d_Guard_cross_3 ?_
  refine lv_lload_n X.1.1 X.1.2.1 d_Guard_cross_4 rfl (lv_at hl 1 rfl) ?_
  refine lv_lload X.1.1 X.1.2.1 d_Guard_cross_5 (lv_at hl 2 rfl) ?_
  refine lv_lmul X.1.1 X.1.2.1 d_Guard_cross_7 ?_
  refine lv_lsub X.1.1 X.1.2.1 d_Guard_cross_8 ?_
  exact hret 9 H locs ls _ _ hP hD hS d_Guard_cross_9 (rfl) (rfl)
set_option maxHeartbeats 4000000 in
set_option maxRecDepth 100000 in
theorem c_Guard_lowerTo (g a1 a2 a3 : Nat) (fp fq fr : Nat → Int32) (n : Nat) (em : Int32) (top bot : Int64) (t d : Int64) : wk_kv l y_Guard_lowerTo (Cond.code y_Guard_lowerTo b_Guard_lowerTo 5 none :: BW) rm_Guard_lowerTo D cls (kT cI cJ cS) nz [.ref g, .long t, .long d] (gW cI g a1 a2 a3 fp fq fr n em top bot) (fun u => u = gW cI g a1 a2 a3 fp fq fr n em (g_lo (top, bot) t d).1 (g_lo (top, bot) t d).2) := by
  refine ws_v (plainFor_of_name (by decide)) (Nat.le_of_ble_eq_true rfl) ?_
  intro p e s m below meth c A ls Q X hret hl hP hD hS
  obtain ⟨H, hH⟩ : ∃ H, H = s.heap := ⟨_, rfl⟩
  obtain ⟨locs, hlo⟩ : ∃ locs : List Loc, locs = [] := ⟨_, rfl⟩
  have hP : va_P D cls (gW cI g a1 a2 a3 fp fq fr n em top bot) H := by rw [hH]; exact hP
  have hS : va_S A s.heap H locs := by rw [hH, hlo]; exact hS
  suffices hgo : W p l e rm_Guard_lowerTo s m ([.ref g, .long t, .long d] : List Value).toArray below meth c H locs 0 0 Q (F0 m 0 ls ([])) by rw [hH, hlo] at hgo; exact hgo
  clear hH hlo
  have hl : lv_has ls 5 [(0, .ref g), (1, .long t), (3, .long d)] := hl
  refine lv_aload_n X.1.1 X.1.2.1 d_Guard_lowerTo_0 rfl (lv_at hl 0 rfl) ?_
  refine fg_Guard_36 X hP 0 rfl rfl d_Guard_lowerTo_1 ?_
  refine lv_lconst (v := 0) X.1.1 X.1.2.1 d_Guard_lowerTo_4 (by decide) ?_
  refine wl_eq (tgt := 25) X.1.1 X.1.2.1 d_Guard_lowerTo_5 d_Guard_lowerTo_6 (by decide) (fun h5 => ?_) (fun h5 => ?_)
  · refine lv_aload_n X.1.1 X.1.2.1 d_Guard_lowerTo_25 rfl (lv_at hl 0 rfl) ?_
    refine lv_lload_n X.1.1 X.1.2.1 d_Guard_lowerTo_26 rfl (lv_at hl 1 rfl) ?_
    refine fp_Guard_32 X hP hD hS 0 rfl rfl rfl rfl d_Guard_lowerTo_27 (fun H locs hP hD hS => ?_)
    have hP : va_P D cls (gW cI g a1 a2 a3 fp fq fr n em t bot) H := hP
    have hD : va_D A (gW cI g a1 a2 a3 fp fq fr n em t bot) := hD
    refine lv_aload_n X.1.1 X.1.2.1 d_Guard_lowerTo_30 rfl (lv_at hl 0 rfl) ?_
    refine lv_lload_n X.1.1 X.1.2.1 d_Guard_lowerTo_31 rfl (lv_at hl 2 rfl) ?_
    refine fp_Guard_36 X hP hD hS 0 rfl rfl rfl rfl d_Guard_lowerTo_32 (fun H locs hP hD hS => ?_)
    have hP : va_P D cls (gW cI g a1 a2 a3 fp fq fr n em t d) H := hP
    have hD : va_D A (gW cI g a1 a2 a3 fp fq fr n em t d) := hD
    exact hret 35 H locs ls _ hP hD hS d_Guard_lowerTo_35 (by simp [g_lo, h5])
  · refine lv_lload_n X.1.1 X.1.2.1 d_Guard_lowerTo_9 rfl (lv_at hl 1 rfl) ?_
    refine lv_aload_n X.1.1 X.1.2.1 d_Guard_lowerTo_10 rfl (lv_at hl 0 rfl) ?_
    refine fg_Guard_36 X hP 0 rfl rfl d_Guard_lowerTo_11 ?_
    refine lv_lmul X.1.1 X.1.2.1 d_Guard_lowerTo_14 ?_
    refine lv_aload_n X.1.1 X.1.2.1 d_Guard_lowerTo_15 rfl (lv_at hl 0 rfl) ?_
    refine fg_Guard_32 X hP 0 rfl rfl d_Guard_lowerTo_16 ?_
    refine lv_lload_n X.1.1 X.1.2.1 d_Guard_lowerTo_19 rfl (lv_at hl 2 rfl) ?_
    refine lv_lmul X.1.1 X.1.2.1 d_Guard_lowerTo_20 ?_
    refine wl_ge (tgt := 35) X.1.1 X.1.2.1 d_Guard_lowerTo_21 d_Guard_lowerTo_22 (by decide) (fun h21 => ?_) (fun h21 => ?_)
    · exact hret 35 H locs ls _ hP hD hS d_Guard_lowerTo_35 (by simp [g_lo, h5, h21])
    · refine lv_aload_n X.1.1 X.1.2.1 d_Guard_lowerTo_25 rfl (lv_at hl 0 rfl) ?_
      refine lv_lload_n X.1.1 X.1.2.1 d_Guard_lowerTo_26 rfl (lv_at hl 1 rfl) ?_
      refine fp_Guard_32 X hP hD hS 0 rfl rfl rfl rfl d_Guard_lowerTo_27 (fun H locs hP hD hS => ?_)
      have hP : va_P D cls (gW cI g a1 a2 a3 fp fq fr n em t bot) H := hP
      have hD : va_D A (gW cI g a1 a2 a3 fp fq fr n em t bot) := hD
      refine lv_aload_n X.1.1 X.1.2.1 d_Guard_lowerTo_30 rfl (lv_at hl 0 rfl) ?_
      refine lv_lload_n X.1.1 X.1.2.1 d_Guard_lowerTo_31 rfl (lv_at hl 2 rfl) ?_
      refine fp_Guard_36 X hP hD hS 0 rfl rfl rfl rfl d_Guard_lowerTo_32 (fun H locs hP hD hS => ?_)
      have hP : va_P D cls (gW cI g a1 a2 a3 fp fq fr n em t d) H := hP
      have hD : va_D A (gW cI g a1 a2 a3 fp fq fr n em t d) := hD
      exact hret 35 H locs ls _ hP hD hS d_Guard_lowerTo_35 (by simp [g_lo, h5, h21])
set_option maxHeartbeats 4000000 in
set_option maxRecDepth 100000 in
theorem c_Guard_boundByRow (g a1 a2 a3 : Nat) (fp fq fr : Nat → Int32) (n : Nat) (em : Int32) (top bot : Int64) (i : Nat) (a b : Int32) (hi : i < n) (hn : n ≤ 4) : wk_kv l y_Guard_boundByRow (Cond.code y_Guard_boundByRow b_Guard_boundByRow 5 none :: BW) rm_Guard_boundByRow D cls (kT cI cJ cS) nz [.ref g, .int (nI i), .int a, .int b] (gW cI g a1 a2 a3 fp fq fr n em top bot) (fun u => u = gW cI g a1 a2 a3 fp fq fr n em (g_row fp fq fr a b i (top, bot)).1 (g_row fp fq fr a b i (top, bot)).2) := by
  refine ws_v (plainFor_of_name (by decide)) (Nat.le_of_ble_eq_true rfl) ?_
  intro p e s m below meth c A ls Q X hret hl hP hD hS
  obtain ⟨H, hH⟩ : ∃ H, H = s.heap := ⟨_, rfl⟩
  obtain ⟨locs, hlo⟩ : ∃ locs : List Loc, locs = [] := ⟨_, rfl⟩
  have hP : va_P D cls (gW cI g a1 a2 a3 fp fq fr n em top bot) H := by rw [hH]; exact hP
  have hS : va_S A s.heap H locs := by rw [hH, hlo]; exact hS
  suffices hgo : W p l e rm_Guard_boundByRow s m ([.ref g, .int (nI i), .int a, .int b] : List Value).toArray below meth c H locs 0 0 Q (F0 m 0 ls ([])) by rw [hH, hlo] at hgo; exact hgo
  clear hH hlo
  have hl : lv_has ls 5 [(0, .ref g), (1, .int (nI i)), (2, .int a), (3, .int b)] := hl
  refine lv_aload_n X.1.1 X.1.2.1 d_Guard_boundByRow_0 rfl (lv_at hl 0 rfl) ?_
  refine fg_Guard_9 X hP 0 rfl rfl d_Guard_boundByRow_1 ?_
  refine lv_iload_n X.1.1 X.1.2.1 d_Guard_boundByRow_4 rfl (lv_at hl 1 rfl) ?_
  refine wa_ild X.1.1 X.1.2.1 X.2.1 hP 1 0 rfl rfl i rfl (by omega) (by decide) d_Guard_boundByRow_5 ?_
  refine lv_i2l X.1.1 X.1.2.1 d_Guard_boundByRow_6 rfl ?_
  refine lv_aload_n X.1.1 X.1.2.1 d_Guard_boundByRow_7 rfl (lv_at hl 0 rfl) ?_
  refine fg_Guard_15 X hP 0 rfl rfl d_Guard_boundByRow_8 ?_
  refine lv_iload_n X.1.1 X.1.2.1 d_Guard_boundByRow_11 rfl (lv_at hl 1 rfl) ?_
  refine wa_ild X.1.1 X.1.2.1 X.2.1 hP 2 0 rfl rfl i rfl (by omega) (by decide) d_Guard_boundByRow_12 ?_
  refine lv_i2l X.1.1 X.1.2.1 d_Guard_boundByRow_13 rfl ?_
  refine lv_iload_n X.1.1 X.1.2.1 d_Guard_boundByRow_14 rfl (lv_at hl 2 rfl) ?_
  refine lv_i2l X.1.1 X.1.2.1 d_Guard_boundByRow_15 rfl ?_
  refine lv_iload_n X.1.1 X.1.2.1 d_Guard_boundByRow_16 rfl (lv_at hl 3 rfl) ?_
  refine lv_i2l X.1.1 X.1.2.1 d_Guard_boundByRow_17 rfl ?_
  refine wc_Sl [.long ((fp i).toInt64), .long ((fq i).toInt64), .long a.toInt64, .long b.toInt64] X nz_nest (c_Guard_cross ((fp i).toInt64) ((fq i).toInt64) a.toInt64 b.toInt64) (cw_Guard_51 X.1.2.2.2.2 X.2.2.1 (by decide)) (gW cI g a1 a2 a3 fp fq fr n em top bot) ([]) (rfl) hP hD hS rfl rfl hl.1 (Nat.le_of_ble_eq_true rfl) (by decide) d_Guard_boundByRow_18 (fun H locs wn hwn hP hD hS => ?_)
  subst hwn
  have hP : va_P D cls (gW cI g a1 a2 a3 fp fq fr n em top bot) H := hP
  have hD : va_D A (gW cI g a1 a2 a3 fp fq fr n em top bot) := hD
  refine lv_lconst (v := 0) X.1.1 X.1.2.1 d_Guard_boundByRow_21 (by decide) ?_
  refine wl_ne (tgt := 50) X.1.1 X.1.2.1 d_Guard_boundByRow_22 d_Guard_boundByRow_23 (by decide) (fun h22 => ?_) (fun h22 => ?_)
  · refine lv_iconst (v := (0 : Int32)) X.1.1 X.1.2.1 d_Guard_boundByRow_50 (by decide) ?_
    refine lv_istore X.1.1 X.1.2.1 d_Guard_boundByRow_51 hl (by decide) rfl (fun ls hl => ?_)
    have hl : lv_has ls 5 [(4, .int (0 : Int32)), (0, .ref g), (1, .int (nI i)), (2, .int a), (3, .int b)] := hl
    refine lv_iload X.1.1 X.1.2.1 d_Guard_boundByRow_53 (lv_at hl 0 rfl) ?_
    refine lv_if_eq (tgt := 100) X.1.1 X.1.2.1 d_Guard_boundByRow_55 (by decide) (fun _ => ?_) (fun z => absurd z (by decide))
    exact hret 100 H locs ls _ hP hD hS d_Guard_boundByRow_100 (by simp [g_row, h22])
  · refine lv_aload_n X.1.1 X.1.2.1 d_Guard_boundByRow_26 rfl (lv_at hl 0 rfl) ?_
    refine fg_Guard_9 X hP 0 rfl rfl d_Guard_boundByRow_27 ?_
    refine lv_iload_n X.1.1 X.1.2.1 d_Guard_boundByRow_30 rfl (lv_at hl 1 rfl) ?_
    refine wa_ild X.1.1 X.1.2.1 X.2.1 hP 1 0 rfl rfl i rfl (by omega) (by decide) d_Guard_boundByRow_31 ?_
    refine lv_iload_n X.1.1 X.1.2.1 d_Guard_boundByRow_32 rfl (lv_at hl 2 rfl) ?_
    refine lv_imul X.1.1 X.1.2.1 d_Guard_boundByRow_33 ?_
    refine lv_aload_n X.1.1 X.1.2.1 d_Guard_boundByRow_34 rfl (lv_at hl 0 rfl) ?_
    refine fg_Guard_15 X hP 0 rfl rfl d_Guard_boundByRow_35 ?_
    refine lv_iload_n X.1.1 X.1.2.1 d_Guard_boundByRow_38 rfl (lv_at hl 1 rfl) ?_
    refine wa_ild X.1.1 X.1.2.1 X.2.1 hP 2 0 rfl rfl i rfl (by omega) (by decide) d_Guard_boundByRow_39 ?_
    refine lv_iload_n X.1.1 X.1.2.1 d_Guard_boundByRow_40 rfl (lv_at hl 3 rfl) ?_
    refine lv_imul X.1.1 X.1.2.1 d_Guard_boundByRow_41 ?_
    refine lv_iadd X.1.1 X.1.2.1 d_Guard_boundByRow_42 ?_
    refine lv_if_le (tgt := 50) X.1.1 X.1.2.1 d_Guard_boundByRow_43 (by decide) (fun h43 => ?_) (fun h43 => ?_)
    · refine lv_iconst (v := (0 : Int32)) X.1.1 X.1.2.1 d_Guard_boundByRow_50 (by decide) ?_
      refine lv_istore X.1.1 X.1.2.1 d_Guard_boundByRow_51 hl (by decide) rfl (fun ls hl => ?_)
      have hl : lv_has ls 5 [(4, .int (0 : Int32)), (0, .ref g), (1, .int (nI i)), (2, .int a), (3, .int b)] := hl
      refine lv_iload X.1.1 X.1.2.1 d_Guard_boundByRow_53 (lv_at hl 0 rfl) ?_
      refine lv_if_eq (tgt := 100) X.1.1 X.1.2.1 d_Guard_boundByRow_55 (by decide) (fun _ => ?_) (fun z => absurd z (by decide))
      exact hret 100 H locs ls _ hP hD hS d_Guard_boundByRow_100 (by simp [g_row, h22, h43])
    · refine lv_iconst (v := (1 : Int32)) X.1.1 X.1.2.1 d_Guard_boundByRow_46 (by decide) ?_
      refine lv_goto (tgt := 51) X.1.1 X.1.2.1 d_Guard_boundByRow_47 (by decide) ?_
      refine lv_istore X.1.1 X.1.2.1 d_Guard_boundByRow_51 hl (by decide) rfl (fun ls hl => ?_)
      have hl : lv_has ls 5 [(4, .int (1 : Int32)), (0, .ref g), (1, .int (nI i)), (2, .int a), (3, .int b)] := hl
      refine lv_iload X.1.1 X.1.2.1 d_Guard_boundByRow_53 (lv_at hl 0 rfl) ?_
      refine lv_if_eq (tgt := 100) X.1.1 X.1.2.1 d_Guard_boundByRow_55 (by decide) (fun z => absurd z (by decide)) (fun _ => ?_)
      refine lv_aload_n X.1.1 X.1.2.1 d_Guard_boundByRow_58 rfl (lv_at hl 1 rfl) ?_
      refine lv_aload_n X.1.1 X.1.2.1 d_Guard_boundByRow_59 rfl (lv_at hl 1 rfl) ?_
      refine fg_Guard_18 X hP 0 rfl rfl d_Guard_boundByRow_60 ?_
      refine lv_iload_n X.1.1 X.1.2.1 d_Guard_boundByRow_63 rfl (lv_at hl 2 rfl) ?_
      refine wa_ild X.1.1 X.1.2.1 X.2.1 hP 3 0 rfl rfl i rfl (by omega) (by decide) d_Guard_boundByRow_64 ?_
      refine lv_i2l X.1.1 X.1.2.1 d_Guard_boundByRow_65 rfl ?_
      refine lv_iload_n X.1.1 X.1.2.1 d_Guard_boundByRow_66 rfl (lv_at hl 3 rfl) ?_
      refine wm_abs_Guard_55 X hl.1 (by decide) (Nat.le_of_ble_eq_true rfl) (by decide) d_Guard_boundByRow_67 ?_
      refine lv_iload_n X.1.1 X.1.2.1 d_Guard_boundByRow_70 rfl (lv_at hl 4 rfl) ?_
      refine wm_abs_Guard_55 X hl.1 (by decide) (Nat.le_of_ble_eq_true rfl) (by decide) d_Guard_boundByRow_71 ?_
      refine lv_iadd X.1.1 X.1.2.1 d_Guard_boundByRow_74 ?_
      refine lv_i2l X.1.1 X.1.2.1 d_Guard_boundByRow_75 rfl ?_
      refine lv_lmul X.1.1 X.1.2.1 d_Guard_boundByRow_76 ?_
      refine lv_aload_n X.1.1 X.1.2.1 d_Guard_boundByRow_77 rfl (lv_at hl 1 rfl) ?_
      refine fg_Guard_9 X hP 0 rfl rfl d_Guard_boundByRow_78 ?_
      refine lv_iload_n X.1.1 X.1.2.1 d_Guard_boundByRow_81 rfl (lv_at hl 2 rfl) ?_
      refine wa_ild X.1.1 X.1.2.1 X.2.1 hP 1 0 rfl rfl i rfl (by omega) (by decide) d_Guard_boundByRow_82 ?_
      refine wm_abs_Guard_55 X hl.1 (by decide) (Nat.le_of_ble_eq_true rfl) (by decide) d_Guard_boundByRow_83 ?_
      refine lv_aload_n X.1.1 X.1.2.1 d_Guard_boundByRow_86 rfl (lv_at hl 1 rfl) ?_
      refine fg_Guard_15 X hP 0 rfl rfl d_Guard_boundByRow_87 ?_
      refine lv_iload_n X.1.1 X.1.2.1 d_Guard_boundByRow_90 rfl (lv_at hl 2 rfl) ?_
      refine wa_ild X.1.1 X.1.2.1 X.2.1 hP 2 0 rfl rfl i rfl (by omega) (by decide) d_Guard_boundByRow_91 ?_
      refine wm_abs_Guard_55 X hl.1 (by decide) (Nat.le_of_ble_eq_true rfl) (by decide) d_Guard_boundByRow_92 ?_
      refine lv_iadd X.1.1 X.1.2.1 d_Guard_boundByRow_95 ?_
      refine lv_i2l X.1.1 X.1.2.1 d_Guard_boundByRow_96 rfl ?_
      refine wc_Vv [.long (((fr i).toInt64) * (((g_abs a) + (g_abs b)).toInt64)), .long (((g_abs (fp i)) + (g_abs (fq i))).toInt64)] 0 0 X nz_nest (c_Guard_lowerTo g a1 a2 a3 fp fq fr n em top bot (((fr i).toInt64) * (((g_abs a) + (g_abs b)).toInt64)) (((g_abs (fp i)) + (g_abs (fq i))).toInt64) ) (cw_Guard_61 X.1.2.2.2.2 X.2.2.1 (by decide)) ([]) ([]) (rfl) hP hD hS rfl rfl rfl rfl hl.1 (Nat.le_of_ble_eq_true rfl) (by decide) d_Guard_boundByRow_97 (fun H locs wn hwn hP hD hS => ?_)
      subst hwn
      have hP : va_P D cls (gW cI g a1 a2 a3 fp fq fr n em ((g_lo (top, bot) (((fr i).toInt64) * (((g_abs a) + (g_abs b)).toInt64)) (((g_abs (fp i)) + (g_abs (fq i))).toInt64)).1) ((g_lo (top, bot) (((fr i).toInt64) * (((g_abs a) + (g_abs b)).toInt64)) (((g_abs (fp i)) + (g_abs (fq i))).toInt64)).2)) H := hP
      have hD : va_D A (gW cI g a1 a2 a3 fp fq fr n em ((g_lo (top, bot) (((fr i).toInt64) * (((g_abs a) + (g_abs b)).toInt64)) (((g_abs (fp i)) + (g_abs (fq i))).toInt64)).1) ((g_lo (top, bot) (((fr i).toInt64) * (((g_abs a) + (g_abs b)).toInt64)) (((g_abs (fp i)) + (g_abs (fq i))).toInt64)).2)) := hD
      exact hret 100 H locs ls _ hP hD hS d_Guard_boundByRow_100 (by simp [g_row, h22, h43])
set_option maxHeartbeats 4000000 in
set_option maxRecDepth 100000 in
theorem c_Guard_boundByPair (g a1 a2 a3 : Nat) (fp fq fr : Nat → Int32) (n : Nat) (em : Int32) (top bot : Int64) (i j : Nat) (a b : Int32) (hi : i < n) (hj : j < n) (hn : n ≤ 4) : wk_kv l y_Guard_boundByPair (Cond.code y_Guard_boundByPair b_Guard_boundByPair 13 none :: BW) rm_Guard_boundByPair D cls (kT cI cJ cS) nz [.ref g, .int (nI i), .int (nI j), .int a, .int b] (gW cI g a1 a2 a3 fp fq fr n em top bot) (fun u => u = gW cI g a1 a2 a3 fp fq fr n em (g_pair fp fq fr a b i j (top, bot)).1 (g_pair fp fq fr a b i j (top, bot)).2) := by
  refine ws_v (plainFor_of_name (by decide)) (Nat.le_of_ble_eq_true rfl) ?_
  intro p e s m below meth c A ls Q X hret hl hP hD hS
  obtain ⟨H, hH⟩ : ∃ H, H = s.heap := ⟨_, rfl⟩
  obtain ⟨locs, hlo⟩ : ∃ locs : List Loc, locs = [] := ⟨_, rfl⟩
  have hP : va_P D cls (gW cI g a1 a2 a3 fp fq fr n em top bot) H := by rw [hH]; exact hP
  have hS : va_S A s.heap H locs := by rw [hH, hlo]; exact hS
  suffices hgo : W p l e rm_Guard_boundByPair s m ([.ref g, .int (nI i), .int (nI j), .int a, .int b] : List Value).toArray below meth c H locs 0 0 Q (F0 m 0 ls ([])) by rw [hH, hlo] at hgo; exact hgo
  clear hH hlo
  have hl : lv_has ls 13 [(0, .ref g), (1, .int (nI i)), (2, .int (nI j)), (3, .int a), (4, .int b)] := hl
  refine lv_aload_n X.1.1 X.1.2.1 d_Guard_boundByPair_0 rfl (lv_at hl 0 rfl) ?_
  refine fg_Guard_9 X hP 0 rfl rfl d_Guard_boundByPair_1 ?_
  refine lv_iload_n X.1.1 X.1.2.1 d_Guard_boundByPair_4 rfl (lv_at hl 1 rfl) ?_
  refine wa_ild X.1.1 X.1.2.1 X.2.1 hP 1 0 rfl rfl i rfl (by omega) (by decide) d_Guard_boundByPair_5 ?_
  refine lv_i2l X.1.1 X.1.2.1 d_Guard_boundByPair_6 rfl ?_
  refine lv_aload_n X.1.1 X.1.2.1 d_Guard_boundByPair_7 rfl (lv_at hl 0 rfl) ?_
  refine fg_Guard_15 X hP 0 rfl rfl d_Guard_boundByPair_8 ?_
  refine lv_iload_n X.1.1 X.1.2.1 d_Guard_boundByPair_11 rfl (lv_at hl 1 rfl) ?_
  refine wa_ild X.1.1 X.1.2.1 X.2.1 hP 2 0 rfl rfl i rfl (by omega) (by decide) d_Guard_boundByPair_12 ?_
  refine lv_i2l X.1.1 X.1.2.1 d_Guard_boundByPair_13 rfl ?_
  refine lv_aload_n X.1.1 X.1.2.1 d_Guard_boundByPair_14 rfl (lv_at hl 0 rfl) ?_
  refine fg_Guard_9 X hP 0 rfl rfl d_Guard_boundByPair_15 ?_
  refine lv_iload_n X.1.1 X.1.2.1 d_Guard_boundByPair_18 rfl (lv_at hl 2 rfl) ?_
  refine wa_ild X.1.1 X.1.2.1 X.2.1 hP 1 0 rfl rfl j rfl (by omega) (by decide) d_Guard_boundByPair_19 ?_
  refine lv_i2l X.1.1 X.1.2.1 d_Guard_boundByPair_20 rfl ?_
  refine lv_aload_n X.1.1 X.1.2.1 d_Guard_boundByPair_21 rfl (lv_at hl 0 rfl) ?_
  refine fg_Guard_15 X hP 0 rfl rfl d_Guard_boundByPair_22 ?_
  refine lv_iload_n X.1.1 X.1.2.1 d_Guard_boundByPair_25 rfl (lv_at hl 2 rfl) ?_
  refine wa_ild X.1.1 X.1.2.1 X.2.1 hP 2 0 rfl rfl j rfl (by omega) (by decide) d_Guard_boundByPair_26 ?_
  refine lv_i2l X.1.1 X.1.2.1 d_Guard_boundByPair_27 rfl ?_
  refine wc_Sl [.long ((fp i).toInt64), .long ((fq i).toInt64), .long ((fp j).toInt64), .long ((fq j).toInt64)] X nz_nest (c_Guard_cross ((fp i).toInt64) ((fq i).toInt64) ((fp j).toInt64) ((fq j).toInt64)) (cw_Guard_51 X.1.2.2.2.2 X.2.2.1 (by decide)) (gW cI g a1 a2 a3 fp fq fr n em top bot) ([]) (rfl) hP hD hS rfl rfl hl.1 (Nat.le_of_ble_eq_true rfl) (by decide) d_Guard_boundByPair_28 (fun H locs wn hwn hP hD hS => ?_)
  subst hwn
  have hP : va_P D cls (gW cI g a1 a2 a3 fp fq fr n em top bot) H := hP
  have hD : va_D A (gW cI g a1 a2 a3 fp fq fr n em top bot) := hD
  refine lv_lstore X.1.1 X.1.2.1 d_Guard_boundByPair_31 hl (by decide) rfl (fun ls hl => ?_)
  have hl : lv_has ls 13 [(5, .long (g_cross ((fp i).toInt64) ((fq i).toInt64) ((fp j).toInt64) ((fq j).toInt64))), (0, .ref g), (1, .int (nI i)), (2, .int (nI j)), (3, .int a), (4, .int b)] := hl
  refine lv_lload X.1.1 X.1.2.1 d_Guard_boundByPair_33 (lv_at hl 0 rfl) ?_
  refine lv_lconst (v := 0) X.1.1 X.1.2.1 d_Guard_boundByPair_35 (by decide) ?_
  have jn47 : ∀ sg : Int64, sg = g_sg (g_cross (fp i).toInt64 (fq i).toInt64 (fp j).toInt64 (fq j).toInt64) → W p l e rm_Guard_boundByPair s m ([.ref g, .int (nI i), .int (nI j), .int a, .int b] : List Value).toArray below meth c H locs 0 0 Q (F0 m 47 ls (.long sg :: [])) := by
    intro sg esg
    refine lv_lstore X.1.1 X.1.2.1 d_Guard_boundByPair_47 hl (by decide) rfl (fun ls hl => ?_)
    have hl : lv_has ls 13 [(7, .long sg), (5, .long (g_cross ((fp i).toInt64) ((fq i).toInt64) ((fp j).toInt64) ((fq j).toInt64))), (0, .ref g), (1, .int (nI i)), (2, .int (nI j)), (3, .int a), (4, .int b)] := hl
    refine lv_lload X.1.1 X.1.2.1 d_Guard_boundByPair_49 (lv_at hl 0 rfl) ?_
    refine lv_iload_n X.1.1 X.1.2.1 d_Guard_boundByPair_51 rfl (lv_at hl 5 rfl) ?_
    refine lv_i2l X.1.1 X.1.2.1 d_Guard_boundByPair_52 rfl ?_
    refine lv_iload X.1.1 X.1.2.1 d_Guard_boundByPair_53 (lv_at hl 6 rfl) ?_
    refine lv_i2l X.1.1 X.1.2.1 d_Guard_boundByPair_55 rfl ?_
    refine lv_aload_n X.1.1 X.1.2.1 d_Guard_boundByPair_56 rfl (lv_at hl 2 rfl) ?_
    refine fg_Guard_9 X hP 0 rfl rfl d_Guard_boundByPair_57 ?_
    refine lv_iload_n X.1.1 X.1.2.1 d_Guard_boundByPair_60 rfl (lv_at hl 4 rfl) ?_
    refine wa_ild X.1.1 X.1.2.1 X.2.1 hP 1 0 rfl rfl j rfl (by omega) (by decide) d_Guard_boundByPair_61 ?_
    refine lv_i2l X.1.1 X.1.2.1 d_Guard_boundByPair_62 rfl ?_
    refine lv_aload_n X.1.1 X.1.2.1 d_Guard_boundByPair_63 rfl (lv_at hl 2 rfl) ?_
    refine fg_Guard_15 X hP 0 rfl rfl d_Guard_boundByPair_64 ?_
    refine lv_iload_n X.1.1 X.1.2.1 d_Guard_boundByPair_67 rfl (lv_at hl 4 rfl) ?_
    refine wa_ild X.1.1 X.1.2.1 X.2.1 hP 2 0 rfl rfl j rfl (by omega) (by decide) d_Guard_boundByPair_68 ?_
    refine lv_i2l X.1.1 X.1.2.1 d_Guard_boundByPair_69 rfl ?_
    refine wc_Sl [.long a.toInt64, .long b.toInt64, .long ((fp j).toInt64), .long ((fq j).toInt64)] X nz_nest (c_Guard_cross a.toInt64 b.toInt64 ((fp j).toInt64) ((fq j).toInt64)) (cw_Guard_51 X.1.2.2.2.2 X.2.2.1 (by decide)) (gW cI g a1 a2 a3 fp fq fr n em top bot) ([]) (rfl) hP hD hS rfl rfl hl.1 (Nat.le_of_ble_eq_true rfl) (by decide) d_Guard_boundByPair_70 (fun H locs wn hwn hP hD hS => ?_)
    subst hwn
    have hP : va_P D cls (gW cI g a1 a2 a3 fp fq fr n em top bot) H := hP
    have hD : va_D A (gW cI g a1 a2 a3 fp fq fr n em top bot) := hD
    refine lv_lmul X.1.1 X.1.2.1 d_Guard_boundByPair_73 ?_
    refine lv_lstore X.1.1 X.1.2.1 d_Guard_boundByPair_74 hl (by decide) rfl (fun ls hl => ?_)
    have hl : lv_has ls 13 [(9, .long (sg * (g_cross a.toInt64 b.toInt64 ((fp j).toInt64) ((fq j).toInt64)))), (7, .long sg), (5, .long (g_cross ((fp i).toInt64) ((fq i).toInt64) ((fp j).toInt64) ((fq j).toInt64))), (0, .ref g), (1, .int (nI i)), (2, .int (nI j)), (3, .int a), (4, .int b)] := hl
    refine lv_lload X.1.1 X.1.2.1 d_Guard_boundByPair_76 (lv_at hl 1 rfl) ?_
    refine lv_aload_n X.1.1 X.1.2.1 d_Guard_boundByPair_78 rfl (lv_at hl 3 rfl) ?_
    refine fg_Guard_9 X hP 0 rfl rfl d_Guard_boundByPair_79 ?_
    refine lv_iload_n X.1.1 X.1.2.1 d_Guard_boundByPair_82 rfl (lv_at hl 4 rfl) ?_
    refine wa_ild X.1.1 X.1.2.1 X.2.1 hP 1 0 rfl rfl i rfl (by omega) (by decide) d_Guard_boundByPair_83 ?_
    refine lv_i2l X.1.1 X.1.2.1 d_Guard_boundByPair_84 rfl ?_
    refine lv_aload_n X.1.1 X.1.2.1 d_Guard_boundByPair_85 rfl (lv_at hl 3 rfl) ?_
    refine fg_Guard_15 X hP 0 rfl rfl d_Guard_boundByPair_86 ?_
    refine lv_iload_n X.1.1 X.1.2.1 d_Guard_boundByPair_89 rfl (lv_at hl 4 rfl) ?_
    refine wa_ild X.1.1 X.1.2.1 X.2.1 hP 2 0 rfl rfl i rfl (by omega) (by decide) d_Guard_boundByPair_90 ?_
    refine lv_i2l X.1.1 X.1.2.1 d_Guard_boundByPair_91 rfl ?_
    refine lv_iload_n X.1.1 X.1.2.1 d_Guard_boundByPair_92 rfl (lv_at hl 6 rfl) ?_
    refine lv_i2l X.1.1 X.1.2.1 d_Guard_boundByPair_93 rfl ?_
    refine lv_iload X.1.1 X.1.2.1 d_Guard_boundByPair_94 (lv_at hl 7 rfl) ?_
    refine lv_i2l X.1.1 X.1.2.1 d_Guard_boundByPair_96 rfl ?_
    refine wc_Sl [.long ((fp i).toInt64), .long ((fq i).toInt64), .long a.toInt64, .long b.toInt64] X nz_nest (c_Guard_cross ((fp i).toInt64) ((fq i).toInt64) a.toInt64 b.toInt64) (cw_Guard_51 X.1.2.2.2.2 X.2.2.1 (by decide)) (gW cI g a1 a2 a3 fp fq fr n em top bot) ([]) (rfl) hP hD hS rfl rfl hl.1 (Nat.le_of_ble_eq_true rfl) (by decide) d_Guard_boundByPair_97 (fun H locs wn hwn hP hD hS => ?_)
    subst hwn
    have hP : va_P D cls (gW cI g a1 a2 a3 fp fq fr n em top bot) H := hP
    have hD : va_D A (gW cI g a1 a2 a3 fp fq fr n em top bot) := hD
    refine lv_lmul X.1.1 X.1.2.1 d_Guard_boundByPair_100 ?_
    refine lv_lstore X.1.1 X.1.2.1 d_Guard_boundByPair_101 hl (by decide) rfl (fun ls hl => ?_)
    have hl : lv_has ls 13 [(11, .long (sg * (g_cross ((fp i).toInt64) ((fq i).toInt64) a.toInt64 b.toInt64))), (9, .long (sg * (g_cross a.toInt64 b.toInt64 ((fp j).toInt64) ((fq j).toInt64)))), (7, .long sg), (5, .long (g_cross ((fp i).toInt64) ((fq i).toInt64) ((fp j).toInt64) ((fq j).toInt64))), (0, .ref g), (1, .int (nI i)), (2, .int (nI j)), (3, .int a), (4, .int b)] := hl
    refine lv_lload X.1.1 X.1.2.1 d_Guard_boundByPair_103 (lv_at hl 3 rfl) ?_
    refine lv_lconst (v := 0) X.1.1 X.1.2.1 d_Guard_boundByPair_105 (by decide) ?_
    refine wl_eq (tgt := 154) X.1.1 X.1.2.1 d_Guard_boundByPair_106 d_Guard_boundByPair_107 (by decide) (fun h106 => ?_) (fun h106 => ?_)
    · exact hret 154 H locs ls _ hP hD hS d_Guard_boundByPair_154 (by subst esg; simp [g_pair, h106])
    · refine lv_lload X.1.1 X.1.2.1 d_Guard_boundByPair_110 (lv_at hl 1 rfl) ?_
      refine lv_lconst (v := 0) X.1.1 X.1.2.1 d_Guard_boundByPair_112 (by decide) ?_
      refine wl_lt (tgt := 154) X.1.1 X.1.2.1 d_Guard_boundByPair_113 d_Guard_boundByPair_114 (by decide) (fun h113 => ?_) (fun h113 => ?_)
      · exact hret 154 H locs ls _ hP hD hS d_Guard_boundByPair_154 (by subst esg; simp [g_pair, h106, h113])
      · refine lv_lload X.1.1 X.1.2.1 d_Guard_boundByPair_117 (lv_at hl 0 rfl) ?_
        refine lv_lconst (v := 0) X.1.1 X.1.2.1 d_Guard_boundByPair_119 (by decide) ?_
        refine wl_lt (tgt := 154) X.1.1 X.1.2.1 d_Guard_boundByPair_120 d_Guard_boundByPair_121 (by decide) (fun h120 => ?_) (fun h120 => ?_)
        · exact hret 154 H locs ls _ hP hD hS d_Guard_boundByPair_154 (by subst esg; simp [g_pair, h106, h113, h120])
        · refine lv_aload_n X.1.1 X.1.2.1 d_Guard_boundByPair_124 rfl (lv_at hl 4 rfl) ?_
          refine lv_aload_n X.1.1 X.1.2.1 d_Guard_boundByPair_125 rfl (lv_at hl 4 rfl) ?_
          refine fg_Guard_18 X hP 0 rfl rfl d_Guard_boundByPair_126 ?_
          refine lv_iload_n X.1.1 X.1.2.1 d_Guard_boundByPair_129 rfl (lv_at hl 5 rfl) ?_
          refine wa_ild X.1.1 X.1.2.1 X.2.1 hP 3 0 rfl rfl i rfl (by omega) (by decide) d_Guard_boundByPair_130 ?_
          refine lv_i2l X.1.1 X.1.2.1 d_Guard_boundByPair_131 rfl ?_
          refine lv_lload X.1.1 X.1.2.1 d_Guard_boundByPair_132 (lv_at hl 1 rfl) ?_
          refine lv_lmul X.1.1 X.1.2.1 d_Guard_boundByPair_134 ?_
          refine lv_aload_n X.1.1 X.1.2.1 d_Guard_boundByPair_135 rfl (lv_at hl 4 rfl) ?_
          refine fg_Guard_18 X hP 0 rfl rfl d_Guard_boundByPair_136 ?_
          refine lv_iload_n X.1.1 X.1.2.1 d_Guard_boundByPair_139 rfl (lv_at hl 6 rfl) ?_
          refine wa_ild X.1.1 X.1.2.1 X.2.1 hP 3 0 rfl rfl j rfl (by omega) (by decide) d_Guard_boundByPair_140 ?_
          refine lv_i2l X.1.1 X.1.2.1 d_Guard_boundByPair_141 rfl ?_
          refine lv_lload X.1.1 X.1.2.1 d_Guard_boundByPair_142 (lv_at hl 0 rfl) ?_
          refine lv_lmul X.1.1 X.1.2.1 d_Guard_boundByPair_144 ?_
          refine lv_ladd X.1.1 X.1.2.1 d_Guard_boundByPair_145 ?_
          refine lv_lload X.1.1 X.1.2.1 d_Guard_boundByPair_146 (lv_at hl 2 rfl) ?_
          refine lv_lload X.1.1 X.1.2.1 d_Guard_boundByPair_148 (lv_at hl 3 rfl) ?_
          refine lv_lmul X.1.1 X.1.2.1 d_Guard_boundByPair_150 ?_
          refine wc_Vv [.long ((((fr i).toInt64) * (sg * (g_cross a.toInt64 b.toInt64 ((fp j).toInt64) ((fq j).toInt64)))) + (((fr j).toInt64) * (sg * (g_cross ((fp i).toInt64) ((fq i).toInt64) a.toInt64 b.toInt64)))), .long (sg * (g_cross ((fp i).toInt64) ((fq i).toInt64) ((fp j).toInt64) ((fq j).toInt64)))] 0 0 X nz_nest (c_Guard_lowerTo g a1 a2 a3 fp fq fr n em top bot ((((fr i).toInt64) * (sg * (g_cross a.toInt64 b.toInt64 ((fp j).toInt64) ((fq j).toInt64)))) + (((fr j).toInt64) * (sg * (g_cross ((fp i).toInt64) ((fq i).toInt64) a.toInt64 b.toInt64)))) (sg * (g_cross ((fp i).toInt64) ((fq i).toInt64) ((fp j).toInt64) ((fq j).toInt64))) ) (cw_Guard_61 X.1.2.2.2.2 X.2.2.1 (by decide)) ([]) ([]) (rfl) hP hD hS rfl rfl rfl rfl hl.1 (Nat.le_of_ble_eq_true rfl) (by decide) d_Guard_boundByPair_151 (fun H locs wn hwn hP hD hS => ?_)
          subst hwn
          have hP : va_P D cls (gW cI g a1 a2 a3 fp fq fr n em ((g_lo (top, bot) ((((fr i).toInt64) * (sg * (g_cross a.toInt64 b.toInt64 ((fp j).toInt64) ((fq j).toInt64)))) + (((fr j).toInt64) * (sg * (g_cross ((fp i).toInt64) ((fq i).toInt64) a.toInt64 b.toInt64)))) (sg * (g_cross ((fp i).toInt64) ((fq i).toInt64) ((fp j).toInt64) ((fq j).toInt64)))).1) ((g_lo (top, bot) ((((fr i).toInt64) * (sg * (g_cross a.toInt64 b.toInt64 ((fp j).toInt64) ((fq j).toInt64)))) + (((fr j).toInt64) * (sg * (g_cross ((fp i).toInt64) ((fq i).toInt64) a.toInt64 b.toInt64)))) (sg * (g_cross ((fp i).toInt64) ((fq i).toInt64) ((fp j).toInt64) ((fq j).toInt64)))).2)) H := hP
          have hD : va_D A (gW cI g a1 a2 a3 fp fq fr n em ((g_lo (top, bot) ((((fr i).toInt64) * (sg * (g_cross a.toInt64 b.toInt64 ((fp j).toInt64) ((fq j).toInt64)))) + (((fr j).toInt64) * (sg * (g_cross ((fp i).toInt64) ((fq i).toInt64) a.toInt64 b.toInt64)))) (sg * (g_cross ((fp i).toInt64) ((fq i).toInt64) ((fp j).toInt64) ((fq j).toInt64)))).1) ((g_lo (top, bot) ((((fr i).toInt64) * (sg * (g_cross a.toInt64 b.toInt64 ((fp j).toInt64) ((fq j).toInt64)))) + (((fr j).toInt64) * (sg * (g_cross ((fp i).toInt64) ((fq i).toInt64) a.toInt64 b.toInt64)))) (sg * (g_cross ((fp i).toInt64) ((fq i).toInt64) ((fp j).toInt64) ((fq j).toInt64)))).2)) := hD
          exact hret 154 H locs ls _ hP hD hS d_Guard_boundByPair_154 (by subst esg; simp [g_pair, h106, h113, h120])
  refine wl_ge (tgt := 46) X.1.1 X.1.2.1 d_Guard_boundByPair_36 d_Guard_boundByPair_37 (by decide) (fun h36 => ?_) (fun h36 => ?_)
  · refine lv_lconst (v := 1) X.1.1 X.1.2.1 d_Guard_boundByPair_46 (by decide) ?_
    exact jn47 _ (by simp [g_sg, h36])
  · refine lv_ldc2 (v := -1) X.1.1 X.1.2.1 X.1.2.2.2.1 (X.1.2.2.2.2 _ kc_Guard_65) d_Guard_boundByPair_40 ?_
    refine lv_goto (tgt := 47) X.1.1 X.1.2.1 d_Guard_boundByPair_43 (by decide) ?_
    exact jn47 _ (by simp [g_sg, h36])
set_option maxHeartbeats 4000000 in
set_option maxRecDepth 100000 in
theorem c_Guard_maximise (g a1 a2 a3 : Nat) (fp fq fr : Nat → Int32) (n : Nat) (em : Int32) (top bot : Int64) (a b : Int32) (hn : n ≤ 4) : wk_kv l y_Guard_maximise (Cond.code y_Guard_maximise b_Guard_maximise 5 none :: BW) rm_Guard_maximise D cls (kT cI cJ cS) nz [.ref g, .int a, .int b] (gW cI g a1 a2 a3 fp fq fr n em top bot) (fun u => u = gW cI g a1 a2 a3 fp fq fr n em (g_max fp fq fr n a b).1 (g_max fp fq fr n a b).2) := by
  refine ws_v (plainFor_of_name (by decide)) (Nat.le_of_ble_eq_true rfl) ?_
  intro p e s m below meth c A ls Q X hret hl hP hD hS
  obtain ⟨H, hH⟩ : ∃ H, H = s.heap := ⟨_, rfl⟩
  obtain ⟨locs, hlo⟩ : ∃ locs : List Loc, locs = [] := ⟨_, rfl⟩
  have hP : va_P D cls (gW cI g a1 a2 a3 fp fq fr n em top bot) H := by rw [hH]; exact hP
  have hS : va_S A s.heap H locs := by rw [hH, hlo]; exact hS
  suffices hgo : W p l e rm_Guard_maximise s m ([.ref g, .int a, .int b] : List Value).toArray below meth c H locs 0 0 Q (F0 m 0 ls ([])) by rw [hH, hlo] at hgo; exact hgo
  clear hH hlo
  have hl : lv_has ls 5 [(0, .ref g), (1, .int a), (2, .int b)] := hl
  have lp26 : ∀ (k26 : Nat) (i : Nat) (top : Int64) (bot : Int64) (ls : Array Slot) (H : Heap) (locs : List Loc), i + k26 = n → g_out fp fq fr a b k26 i (top, bot) = g_max fp fq fr n a b → lv_has ls 5 [(3, .int (nI i)), (0, .ref g), (1, .int a), (2, .int b)] → va_P D cls (gW cI g a1 a2 a3 fp fq fr n em top bot) H → va_D A (gW cI g a1 a2 a3 fp fq fr n em top bot) → va_S A s.heap H locs → W p l e rm_Guard_maximise s m ([.ref g, .int a, .int b] : List Value).toArray below meth c H locs 0 0 Q (F0 m 26 ls ([])) := by
    intro k26
    induction k26 with
    | zero =>
      intro i top bot ls H locs hik hE hl hP hD hS
      refine lv_iload_n X.1.1 X.1.2.1 d_Guard_maximise_26 rfl (lv_at hl 0 rfl) ?_
      refine lv_aload_n X.1.1 X.1.2.1 d_Guard_maximise_27 rfl (lv_at hl 1 rfl) ?_
      refine fg_Guard_24 X hP 0 rfl rfl d_Guard_maximise_28 ?_
      refine wn_ge (a := i) (b := n) (tgt := 76) X.1.1 X.1.2.1 d_Guard_maximise_31 (by decide) (by omega) (by omega) (fun h31 => ?_) (fun h31 => by exfalso; omega)
      exact hret 76 H locs ls _ hP hD hS d_Guard_maximise_76 (by show _ = _; rw [← hE]; rfl)
    | succ k26 ih26 =>
      intro i top bot ls H locs hik hE hl hP hD hS
      refine lv_iload_n X.1.1 X.1.2.1 d_Guard_maximise_26 rfl (lv_at hl 0 rfl) ?_
      refine lv_aload_n X.1.1 X.1.2.1 d_Guard_maximise_27 rfl (lv_at hl 1 rfl) ?_
      refine fg_Guard_24 X hP 0 rfl rfl d_Guard_maximise_28 ?_
      refine wn_ge (a := i) (b := n) (tgt := 76) X.1.1 X.1.2.1 d_Guard_maximise_31 (by decide) (by omega) (by omega) (fun h31 => by exfalso; omega) (fun h31 => ?_)
      refine lv_aload_n X.1.1 X.1.2.1 d_Guard_maximise_34 rfl (lv_at hl 1 rfl) ?_
      refine lv_iload_n X.1.1 X.1.2.1 d_Guard_maximise_35 rfl (lv_at hl 0 rfl) ?_
      refine lv_iload_n X.1.1 X.1.2.1 d_Guard_maximise_36 rfl (lv_at hl 2 rfl) ?_
      refine lv_iload_n X.1.1 X.1.2.1 d_Guard_maximise_37 rfl (lv_at hl 3 rfl) ?_
      refine wc_Vv [.int (nI i), .int a, .int b] 0 0 X nz_nest (c_Guard_boundByRow g a1 a2 a3 fp fq fr n em top bot i a b (by omega) (by omega)) (cw_Guard_43 X.1.2.2.2.2 X.2.2.1 (by decide)) ([]) ([]) (rfl) hP hD hS rfl rfl rfl rfl hl.1 (Nat.le_of_ble_eq_true rfl) (by decide) d_Guard_maximise_38 (fun H locs wn hwn hP hD hS => ?_)
      subst hwn
      have hP : va_P D cls (gW cI g a1 a2 a3 fp fq fr n em ((g_row fp fq fr a b i (top, bot)).1) ((g_row fp fq fr a b i (top, bot)).2)) H := hP
      have hD : va_D A (gW cI g a1 a2 a3 fp fq fr n em ((g_row fp fq fr a b i (top, bot)).1) ((g_row fp fq fr a b i (top, bot)).2)) := hD
      refine lv_iload_n X.1.1 X.1.2.1 d_Guard_maximise_41 rfl (lv_at hl 0 rfl) ?_
      refine lv_iconst (v := (1 : Int32)) X.1.1 X.1.2.1 d_Guard_maximise_42 (by decide) ?_
      refine wn_add (a := i) (b := 1) X.1.1 X.1.2.1 d_Guard_maximise_43 ?_
      refine lv_istore X.1.1 X.1.2.1 d_Guard_maximise_44 hl (by decide) rfl (fun ls hl => ?_)
      have hl : lv_has ls 5 [(4, .int (nI (i + 1))), (3, .int (nI i)), (0, .ref g), (1, .int a), (2, .int b)] := hl
      have lp46 : ∀ (k46 : Nat) (j : Nat) (t2 : Int64) (b2 : Int64) (ls : Array Slot) (H : Heap) (locs : List Loc), j + k46 = n → g_in fp fq fr a b i k46 j (t2, b2) = g_in fp fq fr a b i k26 (i + 1) (g_row fp fq fr a b i (top, bot)) → lv_has ls 5 [(4, .int (nI j)), (3, .int (nI i)), (0, .ref g), (1, .int a), (2, .int b)] → va_P D cls (gW cI g a1 a2 a3 fp fq fr n em t2 b2) H → va_D A (gW cI g a1 a2 a3 fp fq fr n em t2 b2) → va_S A s.heap H locs → W p l e rm_Guard_maximise s m ([.ref g, .int a, .int b] : List Value).toArray below meth c H locs 0 0 Q (F0 m 46 ls ([])) := by
        intro k46
        induction k46 with
        | zero =>
          intro j t2 b2 ls H locs hjk hE2 hl hP hD hS
          refine lv_iload X.1.1 X.1.2.1 d_Guard_maximise_46 (lv_at hl 0 rfl) ?_
          refine lv_aload_n X.1.1 X.1.2.1 d_Guard_maximise_48 rfl (lv_at hl 2 rfl) ?_
          refine fg_Guard_24 X hP 0 rfl rfl d_Guard_maximise_49 ?_
          refine wn_ge (a := j) (b := n) (tgt := 70) X.1.1 X.1.2.1 d_Guard_maximise_52 (by decide) (by omega) (by omega) (fun h52 => ?_) (fun h52 => by exfalso; omega)
          refine lv_iinc (k := 1) (v := nI (i + 1)) X.1.1 X.1.2.1 d_Guard_maximise_70 hl rfl (nI_1 i) (by decide) rfl (fun ls hl => ?_)
          have hl : lv_has ls 5 [(3, .int (nI (i + 1))), (4, .int (nI j)), (0, .ref g), (1, .int a), (2, .int b)] := hl
          refine lv_goto (tgt := 26) X.1.1 X.1.2.1 d_Guard_maximise_73 (by decide) ?_
          exact ih26 (i + 1) t2 b2 ls H locs (by omega) (by rw [show (t2, b2) = _ from hE2]; exact hE) (lv_sub hl [0, 2, 3, 4] rfl) hP hD hS
        | succ k46 ih46 =>
          intro j t2 b2 ls H locs hjk hE2 hl hP hD hS
          refine lv_iload X.1.1 X.1.2.1 d_Guard_maximise_46 (lv_at hl 0 rfl) ?_
          refine lv_aload_n X.1.1 X.1.2.1 d_Guard_maximise_48 rfl (lv_at hl 2 rfl) ?_
          refine fg_Guard_24 X hP 0 rfl rfl d_Guard_maximise_49 ?_
          refine wn_ge (a := j) (b := n) (tgt := 70) X.1.1 X.1.2.1 d_Guard_maximise_52 (by decide) (by omega) (by omega) (fun h52 => by exfalso; omega) (fun h52 => ?_)
          refine lv_aload_n X.1.1 X.1.2.1 d_Guard_maximise_55 rfl (lv_at hl 2 rfl) ?_
          refine lv_iload_n X.1.1 X.1.2.1 d_Guard_maximise_56 rfl (lv_at hl 1 rfl) ?_
          refine lv_iload X.1.1 X.1.2.1 d_Guard_maximise_57 (lv_at hl 0 rfl) ?_
          refine lv_iload_n X.1.1 X.1.2.1 d_Guard_maximise_59 rfl (lv_at hl 3 rfl) ?_
          refine lv_iload_n X.1.1 X.1.2.1 d_Guard_maximise_60 rfl (lv_at hl 4 rfl) ?_
          refine wc_Vv [.int (nI i), .int (nI j), .int a, .int b] 0 0 X nz_nest (c_Guard_boundByPair g a1 a2 a3 fp fq fr n em t2 b2 i j a b (by omega) (by omega) (by omega)) (cw_Guard_47 X.1.2.2.2.2 X.2.2.1 (by decide)) ([]) ([]) (rfl) hP hD hS rfl rfl rfl rfl hl.1 (Nat.le_of_ble_eq_true rfl) (by decide) d_Guard_maximise_61 (fun H locs wn hwn hP hD hS => ?_)
          subst hwn
          have hP : va_P D cls (gW cI g a1 a2 a3 fp fq fr n em ((g_pair fp fq fr a b i j (t2, b2)).1) ((g_pair fp fq fr a b i j (t2, b2)).2)) H := hP
          have hD : va_D A (gW cI g a1 a2 a3 fp fq fr n em ((g_pair fp fq fr a b i j (t2, b2)).1) ((g_pair fp fq fr a b i j (t2, b2)).2)) := hD
          refine lv_iinc (k := 0) (v := nI (j + 1)) X.1.1 X.1.2.1 d_Guard_maximise_64 hl rfl (nI_1 j) (by decide) rfl (fun ls hl => ?_)
          have hl : lv_has ls 5 [(4, .int (nI (j + 1))), (3, .int (nI i)), (0, .ref g), (1, .int a), (2, .int b)] := hl
          refine lv_goto (tgt := 46) X.1.1 X.1.2.1 d_Guard_maximise_67 (by decide) ?_
          exact ih46 (j + 1) _ _ ls H locs (by omega) (hE2) (lv_sub hl [0, 1, 2, 3, 4] rfl) hP hD hS
      exact lp46 k26 (i + 1) ((g_row fp fq fr a b i (top, bot)).1) ((g_row fp fq fr a b i (top, bot)).2) ls H locs (by omega) (rfl) (lv_sub hl [0, 1, 2, 3, 4] rfl) hP hD hS
  refine lv_aload_n X.1.1 X.1.2.1 d_Guard_maximise_0 rfl (lv_at hl 0 rfl) ?_
  refine lv_lconst (v := 0) X.1.1 X.1.2.1 d_Guard_maximise_1 (by decide) ?_
  refine fp_Guard_32 X hP hD hS 0 rfl rfl rfl rfl d_Guard_maximise_2 (fun H locs hP hD hS => ?_)
  have hP : va_P D cls (gW cI g a1 a2 a3 fp fq fr n em (0 : Int64) bot) H := hP
  have hD : va_D A (gW cI g a1 a2 a3 fp fq fr n em (0 : Int64) bot) := hD
  refine lv_aload_n X.1.1 X.1.2.1 d_Guard_maximise_5 rfl (lv_at hl 0 rfl) ?_
  refine lv_lconst (v := 0) X.1.1 X.1.2.1 d_Guard_maximise_6 (by decide) ?_
  refine fp_Guard_36 X hP hD hS 0 rfl rfl rfl rfl d_Guard_maximise_7 (fun H locs hP hD hS => ?_)
  have hP : va_P D cls (gW cI g a1 a2 a3 fp fq fr n em (0 : Int64) (0 : Int64)) H := hP
  have hD : va_D A (gW cI g a1 a2 a3 fp fq fr n em (0 : Int64) (0 : Int64)) := hD
  refine lv_iload_n X.1.1 X.1.2.1 d_Guard_maximise_10 rfl (lv_at hl 1 rfl) ?_
  refine lv_if_ne (tgt := 24) X.1.1 X.1.2.1 d_Guard_maximise_11 (by decide) (fun h11 => ?_) (fun h11 => ?_)
  · refine lv_iconst (v := (0 : Int32)) X.1.1 X.1.2.1 d_Guard_maximise_24 (by decide) ?_
    refine lv_istore_n X.1.1 X.1.2.1 d_Guard_maximise_25 rfl hl (by decide) rfl (fun ls hl => ?_)
    have hl : lv_has ls 5 [(3, .int (0 : Int32)), (0, .ref g), (1, .int a), (2, .int b)] := hl
    exact lp26 n 0 0 0 ls H locs (by omega) (by simp [g_max, h11]) (lv_sub hl [0, 1, 2, 3] rfl) hP hD hS
  · refine lv_iload_n X.1.1 X.1.2.1 d_Guard_maximise_14 rfl (lv_at hl 2 rfl) ?_
    refine lv_if_ne (tgt := 24) X.1.1 X.1.2.1 d_Guard_maximise_15 (by decide) (fun h15 => ?_) (fun h15 => ?_)
    · refine lv_iconst (v := (0 : Int32)) X.1.1 X.1.2.1 d_Guard_maximise_24 (by decide) ?_
      refine lv_istore_n X.1.1 X.1.2.1 d_Guard_maximise_25 rfl hl (by decide) rfl (fun ls hl => ?_)
      have hl : lv_has ls 5 [(3, .int (0 : Int32)), (0, .ref g), (1, .int a), (2, .int b)] := hl
      exact lp26 n 0 0 0 ls H locs (by omega) (by simp [g_max, h11, h15]) (lv_sub hl [0, 1, 2, 3] rfl) hP hD hS
    · refine lv_aload_n X.1.1 X.1.2.1 d_Guard_maximise_18 rfl (lv_at hl 0 rfl) ?_
      refine lv_lconst (v := 1) X.1.1 X.1.2.1 d_Guard_maximise_19 (by decide) ?_
      refine fp_Guard_36 X hP hD hS 0 rfl rfl rfl rfl d_Guard_maximise_20 (fun H locs hP hD hS => ?_)
      have hP : va_P D cls (gW cI g a1 a2 a3 fp fq fr n em (0 : Int64) (1 : Int64)) H := hP
      have hD : va_D A (gW cI g a1 a2 a3 fp fq fr n em (0 : Int64) (1 : Int64)) := hD
      exact hret 23 H locs ls _ hP hD hS d_Guard_maximise_23 (by simp [g_max, h11, h15])
set_option maxHeartbeats 4000000 in
set_option maxRecDepth 100000 in
theorem c_Guard_hasMaximum (g a1 a2 a3 : Nat) (fp fq fr : Nat → Int32) (n : Nat) (em : Int32) (top bot : Int64) : wk_ki l y_Guard_hasMaximum (Cond.code y_Guard_hasMaximum b_Guard_hasMaximum 1 (some .boolean) :: BW) rm_Guard_hasMaximum D cls (kT cI cJ cS) nz [.ref g] (gW cI g a1 a2 a3 fp fq fr n em top bot) (fun u => u = gW cI g a1 a2 a3 fp fq fr n em top bot) (g_has bot) := by
  refine ws_z (plainFor_of_name (by decide)) (Nat.le_of_ble_eq_true rfl) ?_
  intro p e s m below meth c A ls Q X hret hl hP hD hS
  obtain ⟨H, hH⟩ : ∃ H, H = s.heap := ⟨_, rfl⟩
  obtain ⟨locs, hlo⟩ : ∃ locs : List Loc, locs = [] := ⟨_, rfl⟩
  have hP : va_P D cls (gW cI g a1 a2 a3 fp fq fr n em top bot) H := by rw [hH]; exact hP
  have hS : va_S A s.heap H locs := by rw [hH, hlo]; exact hS
  suffices hgo : W p l e rm_Guard_hasMaximum s m ([.ref g] : List Value).toArray below meth c H locs 0 0 Q (F0 m 0 ls ([])) by rw [hH, hlo] at hgo; exact hgo
  clear hH hlo
  have hl : lv_has ls 1 [(0, .ref g)] := hl
  refine lv_aload_n X.1.1 X.1.2.1 d_Guard_hasMaximum_0 rfl (lv_at hl 0 rfl) ?_
  refine fg_Guard_36 X hP 0 rfl rfl d_Guard_hasMaximum_1 ?_
  refine lv_lconst (v := 0) X.1.1 X.1.2.1 d_Guard_hasMaximum_4 (by decide) ?_
  refine wl_eq (tgt := 13) X.1.1 X.1.2.1 d_Guard_hasMaximum_5 d_Guard_hasMaximum_6 (by decide) (fun h5 => ?_) (fun h5 => ?_)
  · refine lv_iconst (v := (0 : Int32)) X.1.1 X.1.2.1 d_Guard_hasMaximum_13 (by decide) ?_
    exact hret 14 H locs ls _ _ hP hD hS d_Guard_hasMaximum_14 (Or.inl rfl) (by simp [g_has, h5]) (rfl)
  · refine lv_iconst (v := (1 : Int32)) X.1.1 X.1.2.1 d_Guard_hasMaximum_9 (by decide) ?_
    refine lv_goto (tgt := 14) X.1.1 X.1.2.1 d_Guard_hasMaximum_10 (by decide) ?_
    exact hret 14 H locs ls _ _ hP hD hS d_Guard_hasMaximum_14 (Or.inr rfl) (by simp [g_has, h5]) (rfl)
set_option maxHeartbeats 4000000 in
set_option maxRecDepth 100000 in
theorem c_Guard_maximumIsAtMost (g a1 a2 a3 : Nat) (fp fq fr : Nat → Int32) (n : Nat) (em : Int32) (top bot : Int64) (x : Int64) : wk_ki l y_Guard_maximumIsAtMost (Cond.code y_Guard_maximumIsAtMost b_Guard_maximumIsAtMost 3 (some .boolean) :: BW) rm_Guard_maximumIsAtMost D cls (kT cI cJ cS) nz [.ref g, .long x] (gW cI g a1 a2 a3 fp fq fr n em top bot) (fun u => u = gW cI g a1 a2 a3 fp fq fr n em top bot) (g_atm top bot x) := by
  refine ws_z (plainFor_of_name (by decide)) (Nat.le_of_ble_eq_true rfl) ?_
  intro p e s m below meth c A ls Q X hret hl hP hD hS
  obtain ⟨H, hH⟩ : ∃ H, H = s.heap := ⟨_, rfl⟩
  obtain ⟨locs, hlo⟩ : ∃ locs : List Loc, locs = [] := ⟨_, rfl⟩
  have hP : va_P D cls (gW cI g a1 a2 a3 fp fq fr n em top bot) H := by rw [hH]; exact hP
  have hS : va_S A s.heap H locs := by rw [hH, hlo]; exact hS
  suffices hgo : W p l e rm_Guard_maximumIsAtMost s m ([.ref g, .long x] : List Value).toArray below meth c H locs 0 0 Q (F0 m 0 ls ([])) by rw [hH, hlo] at hgo; exact hgo
  clear hH hlo
  have hl : lv_has ls 3 [(0, .ref g), (1, .long x)] := hl
  refine lv_aload_n X.1.1 X.1.2.1 d_Guard_maximumIsAtMost_0 rfl (lv_at hl 0 rfl) ?_
  refine fg_Guard_36 X hP 0 rfl rfl d_Guard_maximumIsAtMost_1 ?_
  refine lv_lconst (v := 0) X.1.1 X.1.2.1 d_Guard_maximumIsAtMost_4 (by decide) ?_
  refine wl_eq (tgt := 27) X.1.1 X.1.2.1 d_Guard_maximumIsAtMost_5 d_Guard_maximumIsAtMost_6 (by decide) (fun h5 => ?_) (fun h5 => ?_)
  · refine lv_iconst (v := (0 : Int32)) X.1.1 X.1.2.1 d_Guard_maximumIsAtMost_27 (by decide) ?_
    exact hret 28 H locs ls _ _ hP hD hS d_Guard_maximumIsAtMost_28 (Or.inl rfl) (by simp [g_atm, h5]) (rfl)
  · refine lv_aload_n X.1.1 X.1.2.1 d_Guard_maximumIsAtMost_9 rfl (lv_at hl 0 rfl) ?_
    refine fg_Guard_32 X hP 0 rfl rfl d_Guard_maximumIsAtMost_10 ?_
    refine lv_lload_n X.1.1 X.1.2.1 d_Guard_maximumIsAtMost_13 rfl (lv_at hl 1 rfl) ?_
    refine lv_aload_n X.1.1 X.1.2.1 d_Guard_maximumIsAtMost_14 rfl (lv_at hl 0 rfl) ?_
    refine fg_Guard_36 X hP 0 rfl rfl d_Guard_maximumIsAtMost_15 ?_
    refine lv_lmul X.1.1 X.1.2.1 d_Guard_maximumIsAtMost_18 ?_
    refine wl_gt (tgt := 27) X.1.1 X.1.2.1 d_Guard_maximumIsAtMost_19 d_Guard_maximumIsAtMost_20 (by decide) (fun h19 => ?_) (fun h19 => ?_)
    · refine lv_iconst (v := (0 : Int32)) X.1.1 X.1.2.1 d_Guard_maximumIsAtMost_27 (by decide) ?_
      exact hret 28 H locs ls _ _ hP hD hS d_Guard_maximumIsAtMost_28 (Or.inl rfl) (by simp [g_atm, h5, h19]) (rfl)
    · refine lv_iconst (v := (1 : Int32)) X.1.1 X.1.2.1 d_Guard_maximumIsAtMost_23 (by decide) ?_
      refine lv_goto (tgt := 28) X.1.1 X.1.2.1 d_Guard_maximumIsAtMost_24 (by decide) ?_
      exact hret 28 H locs ls _ _ hP hD hS d_Guard_maximumIsAtMost_28 (Or.inr rfl) (by simp [g_atm, h5, h19]) (rfl)
set_option maxHeartbeats 4000000 in
set_option maxRecDepth 100000 in
theorem c_Guard_maximumRoundedDown (g a1 a2 a3 : Nat) (fp fq fr : Nat → Int32) (n : Nat) (em : Int32) (top bot : Int64) : wk_kl l y_Guard_maximumRoundedDown (Cond.code y_Guard_maximumRoundedDown b_Guard_maximumRoundedDown 1 (some .long) :: BW) rm_Guard_maximumRoundedDown D cls (kT cI cJ cS) nz [.ref g] (gW cI g a1 a2 a3 fp fq fr n em top bot) (fun u => u = gW cI g a1 a2 a3 fp fq fr n em top bot) (g_rnd top bot) := by
  refine ws_l (plainFor_of_name (by decide)) (Nat.le_of_ble_eq_true rfl) ?_
  intro p e s m below meth c A ls Q X hret hl hP hD hS
  obtain ⟨H, hH⟩ : ∃ H, H = s.heap := ⟨_, rfl⟩
  obtain ⟨locs, hlo⟩ : ∃ locs : List Loc, locs = [] := ⟨_, rfl⟩
  have hP : va_P D cls (gW cI g a1 a2 a3 fp fq fr n em top bot) H := by rw [hH]; exact hP
  have hS : va_S A s.heap H locs := by rw [hH, hlo]; exact hS
  suffices hgo : W p l e rm_Guard_maximumRoundedDown s m ([.ref g] : List Value).toArray below meth c H locs 0 0 Q (F0 m 0 ls ([])) by rw [hH, hlo] at hgo; exact hgo
  clear hH hlo
  have hl : lv_has ls 1 [(0, .ref g)] := hl
  refine lv_aload_n X.1.1 X.1.2.1 d_Guard_maximumRoundedDown_0 rfl (lv_at hl 0 rfl) ?_
  refine fg_Guard_36 X hP 0 rfl rfl d_Guard_maximumRoundedDown_1 ?_
  refine lv_lconst (v := 0) X.1.1 X.1.2.1 d_Guard_maximumRoundedDown_4 (by decide) ?_
  refine wl_ne (tgt := 15) X.1.1 X.1.2.1 d_Guard_maximumRoundedDown_5 d_Guard_maximumRoundedDown_6 (by decide) (fun h5 => ?_) (fun h5 => ?_)
  · refine lv_aload_n X.1.1 X.1.2.1 d_Guard_maximumRoundedDown_15 rfl (lv_at hl 0 rfl) ?_
    refine fg_Guard_32 X hP 0 rfl rfl d_Guard_maximumRoundedDown_16 ?_
    refine lv_aload_n X.1.1 X.1.2.1 d_Guard_maximumRoundedDown_19 rfl (lv_at hl 0 rfl) ?_
    refine fg_Guard_36 X hP 0 rfl rfl d_Guard_maximumRoundedDown_20 ?_
    refine wc_Sl [.long top, .long bot] X nz_nest (c_Math_floorDiv top bot h5) (cw_Guard_69 X.1.2.2.2.2 X.2.2.1 (by decide)) (gW cI g a1 a2 a3 fp fq fr n em top bot) [] rfl hP hD hS rfl rfl hl.1 (Nat.le_of_ble_eq_true rfl) (by decide) d_Guard_maximumRoundedDown_23 (fun H locs wn hwn hP hD hS => ?_)
    subst hwn
    have hP : va_P D cls (gW cI g a1 a2 a3 fp fq fr n em top bot) H := hP
    have hD : va_D A (gW cI g a1 a2 a3 fp fq fr n em top bot) := hD
    exact hret 26 H locs ls _ _ hP hD hS d_Guard_maximumRoundedDown_26 (by simp [g_rnd, h5]) (rfl)
  · refine lv_ldc2 (v := 4611686018427387904) X.1.1 X.1.2.1 X.1.2.2.2.1 (X.1.2.2.2.2 _ kc_Guard_67) d_Guard_maximumRoundedDown_9 ?_
    refine lv_goto (tgt := 26) X.1.1 X.1.2.1 d_Guard_maximumRoundedDown_12 (by decide) ?_
    exact hret 26 H locs ls _ _ hP hD hS d_Guard_maximumRoundedDown_26 (by simp [g_rnd, h5]) (rfl)
set_option maxHeartbeats 4000000 in
set_option maxRecDepth 100000 in
theorem c_Guard_clear (g a1 a2 a3 : Nat) (fp fq fr : Nat → Int32) (n : Nat) (em : Int32) (top bot : Int64) : wk_kv l y_Guard_clear (Cond.code y_Guard_clear b_Guard_clear 1 none :: BW) rm_Guard_clear D cls (kT cI cJ cS) nz [.ref g] (gW cI g a1 a2 a3 fp fq fr n em top bot) (fun u => u = gW cI g a1 a2 a3 fp fq fr 0 0 0 0) := by
  refine ws_v (plainFor_of_name (by decide)) (Nat.le_of_ble_eq_true rfl) ?_
  intro p e s m below meth c A ls Q X hret hl hP hD hS
  obtain ⟨H, hH⟩ : ∃ H, H = s.heap := ⟨_, rfl⟩
  obtain ⟨locs, hlo⟩ : ∃ locs : List Loc, locs = [] := ⟨_, rfl⟩
  have hP : va_P D cls (gW cI g a1 a2 a3 fp fq fr n em top bot) H := by rw [hH]; exact hP
  have hS : va_S A s.heap H locs := by rw [hH, hlo]; exact hS
  suffices hgo : W p l e rm_Guard_clear s m ([.ref g] : List Value).toArray below meth c H locs 0 0 Q (F0 m 0 ls ([])) by rw [hH, hlo] at hgo; exact hgo
  clear hH hlo
  have hl : lv_has ls 1 [(0, .ref g)] := hl
  refine lv_aload_n X.1.1 X.1.2.1 d_Guard_clear_0 rfl (lv_at hl 0 rfl) ?_
  refine lv_iconst (v := (0 : Int32)) X.1.1 X.1.2.1 d_Guard_clear_1 (by decide) ?_
  refine fp_Guard_24 X hP hD hS 0 rfl rfl rfl rfl d_Guard_clear_2 (fun H locs hP hD hS => ?_)
  have hP : va_P D cls (gW cI g a1 a2 a3 fp fq fr 0 em top bot) H := hP
  have hD : va_D A (gW cI g a1 a2 a3 fp fq fr 0 em top bot) := hD
  refine lv_aload_n X.1.1 X.1.2.1 d_Guard_clear_5 rfl (lv_at hl 0 rfl) ?_
  refine lv_iconst (v := (0 : Int32)) X.1.1 X.1.2.1 d_Guard_clear_6 (by decide) ?_
  refine fp_Guard_28 X hP hD hS 0 rfl rfl rfl rfl d_Guard_clear_7 (fun H locs hP hD hS => ?_)
  have hP : va_P D cls (gW cI g a1 a2 a3 fp fq fr 0 (0 : Int32) top bot) H := hP
  have hD : va_D A (gW cI g a1 a2 a3 fp fq fr 0 (0 : Int32) top bot) := hD
  refine lv_aload_n X.1.1 X.1.2.1 d_Guard_clear_10 rfl (lv_at hl 0 rfl) ?_
  refine lv_lconst (v := 0) X.1.1 X.1.2.1 d_Guard_clear_11 (by decide) ?_
  refine fp_Guard_32 X hP hD hS 0 rfl rfl rfl rfl d_Guard_clear_12 (fun H locs hP hD hS => ?_)
  have hP : va_P D cls (gW cI g a1 a2 a3 fp fq fr 0 (0 : Int32) (0 : Int64) bot) H := hP
  have hD : va_D A (gW cI g a1 a2 a3 fp fq fr 0 (0 : Int32) (0 : Int64) bot) := hD
  refine lv_aload_n X.1.1 X.1.2.1 d_Guard_clear_15 rfl (lv_at hl 0 rfl) ?_
  refine lv_lconst (v := 0) X.1.1 X.1.2.1 d_Guard_clear_16 (by decide) ?_
  refine fp_Guard_36 X hP hD hS 0 rfl rfl rfl rfl d_Guard_clear_17 (fun H locs hP hD hS => ?_)
  have hP : va_P D cls (gW cI g a1 a2 a3 fp fq fr 0 (0 : Int32) (0 : Int64) (0 : Int64)) H := hP
  have hD : va_D A (gW cI g a1 a2 a3 fp fq fr 0 (0 : Int32) (0 : Int64) (0 : Int64)) := hD
  exact hret 20 H locs ls _ hP hD hS d_Guard_clear_20 (rfl)
set_option maxHeartbeats 4000000 in
set_option maxRecDepth 100000 in
theorem c_Guard_allows (g a1 a2 a3 : Nat) (fp fq fr : Nat → Int32) (n : Nat) (em : Int32) (top bot : Int64) (x y : Int64) (hn : n ≤ 4) : wk_ki l y_Guard_allows (Cond.code y_Guard_allows b_Guard_allows 6 (some .boolean) :: BW) rm_Guard_allows D cls (kT cI cJ cS) nz [.ref g, .long x, .long y] (gW cI g a1 a2 a3 fp fq fr n em top bot) (fun u => u = gW cI g a1 a2 a3 fp fq fr n em top bot) (g_al fp fq fr x y n 0) := by
  refine ws_z (plainFor_of_name (by decide)) (Nat.le_of_ble_eq_true rfl) ?_
  intro p e s m below meth c A ls Q X hret hl hP hD hS
  obtain ⟨H, hH⟩ : ∃ H, H = s.heap := ⟨_, rfl⟩
  obtain ⟨locs, hlo⟩ : ∃ locs : List Loc, locs = [] := ⟨_, rfl⟩
  have hP : va_P D cls (gW cI g a1 a2 a3 fp fq fr n em top bot) H := by rw [hH]; exact hP
  have hS : va_S A s.heap H locs := by rw [hH, hlo]; exact hS
  suffices hgo : W p l e rm_Guard_allows s m ([.ref g, .long x, .long y] : List Value).toArray below meth c H locs 0 0 Q (F0 m 0 ls ([])) by rw [hH, hlo] at hgo; exact hgo
  clear hH hlo
  have hl : lv_has ls 6 [(0, .ref g), (1, .long x), (3, .long y)] := hl
  refine lv_iconst (v := (0 : Int32)) X.1.1 X.1.2.1 d_Guard_allows_0 (by decide) ?_
  refine lv_istore X.1.1 X.1.2.1 d_Guard_allows_1 hl (by decide) rfl (fun ls hl => ?_)
  have hl : lv_has ls 6 [(5, .int (0 : Int32)), (0, .ref g), (1, .long x), (3, .long y)] := hl
  have lp3 : ∀ (k3 : Nat) (i : Nat) (ls : Array Slot) (H : Heap) (locs : List Loc), i + k3 = n → g_al fp fq fr x y k3 i = g_al fp fq fr x y n 0 → lv_has ls 6 [(5, .int (nI i)), (0, .ref g), (1, .long x), (3, .long y)] → va_P D cls (gW cI g a1 a2 a3 fp fq fr n em top bot) H → va_D A (gW cI g a1 a2 a3 fp fq fr n em top bot) → va_S A s.heap H locs → W p l e rm_Guard_allows s m ([.ref g, .long x, .long y] : List Value).toArray below meth c H locs 0 0 Q (F0 m 3 ls ([])) := by
    intro k3
    induction k3 with
    | zero =>
      intro i ls H locs hik hE hl hP hD hS
      refine lv_iload X.1.1 X.1.2.1 d_Guard_allows_3 (lv_at hl 0 rfl) ?_
      refine lv_aload_n X.1.1 X.1.2.1 d_Guard_allows_5 rfl (lv_at hl 1 rfl) ?_
      refine fg_Guard_24 X hP 0 rfl rfl d_Guard_allows_6 ?_
      refine wn_ge (a := i) (b := n) (tgt := 53) X.1.1 X.1.2.1 d_Guard_allows_9 (by decide) (by omega) (by omega) (fun h9 => ?_) (fun h9 => by exfalso; omega)
      refine lv_iconst (v := (1 : Int32)) X.1.1 X.1.2.1 d_Guard_allows_53 (by decide) ?_
      exact hret 54 H locs ls _ _ hP hD hS d_Guard_allows_54 (Or.inr rfl) (by rw [← hE]; first | rfl | exact (if_pos h9).symm) (rfl)
    | succ k3 ih3 =>
      intro i ls H locs hik hE hl hP hD hS
      refine lv_iload X.1.1 X.1.2.1 d_Guard_allows_3 (lv_at hl 0 rfl) ?_
      refine lv_aload_n X.1.1 X.1.2.1 d_Guard_allows_5 rfl (lv_at hl 1 rfl) ?_
      refine fg_Guard_24 X hP 0 rfl rfl d_Guard_allows_6 ?_
      refine wn_ge (a := i) (b := n) (tgt := 53) X.1.1 X.1.2.1 d_Guard_allows_9 (by decide) (by omega) (by omega) (fun h9 => by exfalso; omega) (fun h9 => ?_)
      refine lv_aload_n X.1.1 X.1.2.1 d_Guard_allows_12 rfl (lv_at hl 1 rfl) ?_
      refine fg_Guard_9 X hP 0 rfl rfl d_Guard_allows_13 ?_
      refine lv_iload X.1.1 X.1.2.1 d_Guard_allows_16 (lv_at hl 0 rfl) ?_
      refine wa_ild X.1.1 X.1.2.1 X.2.1 hP 1 0 rfl rfl i rfl (by omega) (by decide) d_Guard_allows_18 ?_
      refine lv_i2l X.1.1 X.1.2.1 d_Guard_allows_19 rfl ?_
      refine lv_lload_n X.1.1 X.1.2.1 d_Guard_allows_20 rfl (lv_at hl 2 rfl) ?_
      refine lv_lmul X.1.1 X.1.2.1 d_Guard_allows_21 ?_
      refine lv_aload_n X.1.1 X.1.2.1 d_Guard_allows_22 rfl (lv_at hl 1 rfl) ?_
      refine fg_Guard_15 X hP 0 rfl rfl d_Guard_allows_23 ?_
      refine lv_iload X.1.1 X.1.2.1 d_Guard_allows_26 (lv_at hl 0 rfl) ?_
      refine wa_ild X.1.1 X.1.2.1 X.2.1 hP 2 0 rfl rfl i rfl (by omega) (by decide) d_Guard_allows_28 ?_
      refine lv_i2l X.1.1 X.1.2.1 d_Guard_allows_29 rfl ?_
      refine lv_lload_n X.1.1 X.1.2.1 d_Guard_allows_30 rfl (lv_at hl 3 rfl) ?_
      refine lv_lmul X.1.1 X.1.2.1 d_Guard_allows_31 ?_
      refine lv_ladd X.1.1 X.1.2.1 d_Guard_allows_32 ?_
      refine lv_aload_n X.1.1 X.1.2.1 d_Guard_allows_33 rfl (lv_at hl 1 rfl) ?_
      refine fg_Guard_18 X hP 0 rfl rfl d_Guard_allows_34 ?_
      refine lv_iload X.1.1 X.1.2.1 d_Guard_allows_37 (lv_at hl 0 rfl) ?_
      refine wa_ild X.1.1 X.1.2.1 X.2.1 hP 3 0 rfl rfl i rfl (by omega) (by decide) d_Guard_allows_39 ?_
      refine lv_i2l X.1.1 X.1.2.1 d_Guard_allows_40 rfl ?_
      refine wl_le (tgt := 47) X.1.1 X.1.2.1 d_Guard_allows_41 d_Guard_allows_42 (by decide) (fun h41 => ?_) (fun h41 => ?_)
      · refine lv_iinc (k := 0) (v := nI (i + 1)) X.1.1 X.1.2.1 d_Guard_allows_47 hl rfl (nI_1 i) (by decide) rfl (fun ls hl => ?_)
        have hl : lv_has ls 6 [(5, .int (nI (i + 1))), (0, .ref g), (1, .long x), (3, .long y)] := hl
        refine lv_goto (tgt := 3) X.1.1 X.1.2.1 d_Guard_allows_50 (by decide) ?_
        exact ih3 (i + 1) ls H locs (by omega) (by rw [← hE]; exact (if_neg h41).symm) (lv_sub hl [0, 1, 2, 3] rfl) hP hD hS
      · refine lv_iconst (v := (0 : Int32)) X.1.1 X.1.2.1 d_Guard_allows_45 (by decide) ?_
        exact hret 46 H locs ls _ _ hP hD hS d_Guard_allows_46 (Or.inl rfl) (by rw [← hE]; first | rfl | exact (if_pos h41).symm) (rfl)
  exact lp3 n 0 ls H locs (by omega) (rfl) (lv_sub hl [0, 1, 2, 3] rfl) hP hD hS
set_option maxHeartbeats 4000000 in
set_option maxRecDepth 100000 in
theorem c_Guard_add (g a1 a2 a3 : Nat) (fp fq fr : Nat → Int32) (n : Nat) (em : Int32) (top bot : Int64) (np nq nr : Int32) (hn : n < 4) : wk_kv l y_Guard_add (Cond.code y_Guard_add b_Guard_add 4 none :: BW) rm_Guard_add D cls (kT cI cJ cS) nz [.ref g, .int np, .int nq, .int nr] (gW cI g a1 a2 a3 fp fq fr n em top bot) (fun u => ∃ t b, u = gW cI g a1 a2 a3 (upd fp n np) (upd fq n nq) (upd fr n nr) (n + 1) (g_em fp fq fr n em np nq nr) t b) := by
  refine ws_v (plainFor_of_name (by decide)) (Nat.le_of_ble_eq_true rfl) ?_
  intro p e s m below meth c A ls Q X hret hl hP hD hS
  obtain ⟨H, hH⟩ : ∃ H, H = s.heap := ⟨_, rfl⟩
  obtain ⟨locs, hlo⟩ : ∃ locs : List Loc, locs = [] := ⟨_, rfl⟩
  have hP : va_P D cls (gW cI g a1 a2 a3 fp fq fr n em top bot) H := by rw [hH]; exact hP
  have hS : va_S A s.heap H locs := by rw [hH, hlo]; exact hS
  suffices hgo : W p l e rm_Guard_add s m ([.ref g, .int np, .int nq, .int nr] : List Value).toArray below meth c H locs 0 0 Q (F0 m 0 ls ([])) by rw [hH, hlo] at hgo; exact hgo
  clear hH hlo
  have hl : lv_has ls 4 [(0, .ref g), (1, .int np), (2, .int nq), (3, .int nr)] := hl
  refine lv_aload_n X.1.1 X.1.2.1 d_Guard_add_0 rfl (lv_at hl 0 rfl) ?_
  refine fg_Guard_24 X hP 0 rfl rfl d_Guard_add_1 ?_
  refine lv_iconst (v := (4 : Int32)) X.1.1 X.1.2.1 d_Guard_add_4 (by decide) ?_
  refine wn_lt (a := n) (b := 4) (tgt := 9) X.1.1 X.1.2.1 d_Guard_add_5 (by decide) (by omega) (by omega) (fun h5 => ?_) (fun h5 => by exfalso; omega)
  refine lv_aload_n X.1.1 X.1.2.1 d_Guard_add_9 rfl (lv_at hl 0 rfl) ?_
  refine fg_Guard_28 X hP 0 rfl rfl d_Guard_add_10 ?_
  refine lv_if_ne (tgt := 58) X.1.1 X.1.2.1 d_Guard_add_13 (by decide) (fun h13 => ?_) (fun h13 => ?_)
  · refine lv_aload_n X.1.1 X.1.2.1 d_Guard_add_58 rfl (lv_at hl 0 rfl) ?_
    refine fg_Guard_9 X hP 0 rfl rfl d_Guard_add_59 ?_
    refine lv_aload_n X.1.1 X.1.2.1 d_Guard_add_62 rfl (lv_at hl 0 rfl) ?_
    refine fg_Guard_24 X hP 0 rfl rfl d_Guard_add_63 ?_
    refine lv_iload_n X.1.1 X.1.2.1 d_Guard_add_66 rfl (lv_at hl 1 rfl) ?_
    refine wa_ist X.1.1 X.1.2.1 X.2.1 hP hD hS 1 0 rfl rfl n rfl (by omega) (by decide) d_Guard_add_67 (fun H locs hP hD hS => ?_)
    have hP : va_P D cls (gW cI g a1 a2 a3 (upd fp n np) fq fr n em top bot) H := hP
    have hD : va_D A (gW cI g a1 a2 a3 (upd fp n np) fq fr n em top bot) := hD
    refine lv_aload_n X.1.1 X.1.2.1 d_Guard_add_68 rfl (lv_at hl 0 rfl) ?_
    refine fg_Guard_15 X hP 0 rfl rfl d_Guard_add_69 ?_
    refine lv_aload_n X.1.1 X.1.2.1 d_Guard_add_72 rfl (lv_at hl 0 rfl) ?_
    refine fg_Guard_24 X hP 0 rfl rfl d_Guard_add_73 ?_
    refine lv_iload_n X.1.1 X.1.2.1 d_Guard_add_76 rfl (lv_at hl 2 rfl) ?_
    refine wa_ist X.1.1 X.1.2.1 X.2.1 hP hD hS 2 0 rfl rfl n rfl (by omega) (by decide) d_Guard_add_77 (fun H locs hP hD hS => ?_)
    have hP : va_P D cls (gW cI g a1 a2 a3 (upd fp n np) (upd fq n nq) fr n em top bot) H := hP
    have hD : va_D A (gW cI g a1 a2 a3 (upd fp n np) (upd fq n nq) fr n em top bot) := hD
    refine lv_aload_n X.1.1 X.1.2.1 d_Guard_add_78 rfl (lv_at hl 0 rfl) ?_
    refine fg_Guard_18 X hP 0 rfl rfl d_Guard_add_79 ?_
    refine lv_aload_n X.1.1 X.1.2.1 d_Guard_add_82 rfl (lv_at hl 0 rfl) ?_
    refine fg_Guard_24 X hP 0 rfl rfl d_Guard_add_83 ?_
    refine lv_iload_n X.1.1 X.1.2.1 d_Guard_add_86 rfl (lv_at hl 3 rfl) ?_
    refine wa_ist X.1.1 X.1.2.1 X.2.1 hP hD hS 3 0 rfl rfl n rfl (by omega) (by decide) d_Guard_add_87 (fun H locs hP hD hS => ?_)
    have hP : va_P D cls (gW cI g a1 a2 a3 (upd fp n np) (upd fq n nq) (upd fr n nr) n em top bot) H := hP
    have hD : va_D A (gW cI g a1 a2 a3 (upd fp n np) (upd fq n nq) (upd fr n nr) n em top bot) := hD
    refine lv_aload_n X.1.1 X.1.2.1 d_Guard_add_88 rfl (lv_at hl 0 rfl) ?_
    refine lv_dup X.1.1 X.1.2.1 d_Guard_add_89 rfl ?_
    refine fg_Guard_24 X hP 0 rfl rfl d_Guard_add_90 ?_
    refine lv_iconst (v := (1 : Int32)) X.1.1 X.1.2.1 d_Guard_add_93 (by decide) ?_
    refine wn_add (a := n) (b := 1) X.1.1 X.1.2.1 d_Guard_add_94 ?_
    refine fp_Guard_24 X hP hD hS 0 rfl rfl rfl rfl d_Guard_add_95 (fun H locs hP hD hS => ?_)
    have hP : va_P D cls (gW cI g a1 a2 a3 (upd fp n np) (upd fq n nq) (upd fr n nr) (n + 1) em top bot) H := hP
    have hD : va_D A (gW cI g a1 a2 a3 (upd fp n np) (upd fq n nq) (upd fr n nr) (n + 1) em top bot) := hD
    exact hret 98 H locs ls _ hP hD hS d_Guard_add_98 (⟨top, bot, by simp [g_em, h5, h13]⟩)
  · refine lv_aload_n X.1.1 X.1.2.1 d_Guard_add_16 rfl (lv_at hl 0 rfl) ?_
    refine lv_iload_n X.1.1 X.1.2.1 d_Guard_add_17 rfl (lv_at hl 1 rfl) ?_
    refine lv_ineg X.1.1 X.1.2.1 d_Guard_add_18 ?_
    refine lv_iload_n X.1.1 X.1.2.1 d_Guard_add_19 rfl (lv_at hl 2 rfl) ?_
    refine lv_ineg X.1.1 X.1.2.1 d_Guard_add_20 ?_
    refine wc_Vv [.int (-np), .int (-nq)] 0 0 X nz_nest (c_Guard_maximise g a1 a2 a3 fp fq fr n em top bot (-np) (-nq) (by omega)) (cw_Guard_39 X.1.2.2.2.2 X.2.2.1 (by decide)) ([]) ([]) (rfl) hP hD hS rfl rfl rfl rfl hl.1 (Nat.le_of_ble_eq_true rfl) (by decide) d_Guard_add_21 (fun H locs wn hwn hP hD hS => ?_)
    subst hwn
    have hP : va_P D cls (gW cI g a1 a2 a3 fp fq fr n em ((g_max fp fq fr n (-np) (-nq)).1) ((g_max fp fq fr n (-np) (-nq)).2)) H := hP
    have hD : va_D A (gW cI g a1 a2 a3 fp fq fr n em ((g_max fp fq fr n (-np) (-nq)).1) ((g_max fp fq fr n (-np) (-nq)).2)) := hD
    refine lv_aload_n X.1.1 X.1.2.1 d_Guard_add_24 rfl (lv_at hl 0 rfl) ?_
    refine lv_aload_n X.1.1 X.1.2.1 d_Guard_add_25 rfl (lv_at hl 0 rfl) ?_
    refine fg_Guard_36 X hP 0 rfl rfl d_Guard_add_26 ?_
    refine lv_lconst (v := 0) X.1.1 X.1.2.1 d_Guard_add_29 (by decide) ?_
    refine wl_eq (tgt := 54) X.1.1 X.1.2.1 d_Guard_add_30 d_Guard_add_31 (by decide) (fun h30 => ?_) (fun h30 => ?_)
    · refine lv_iconst (v := (0 : Int32)) X.1.1 X.1.2.1 d_Guard_add_54 (by decide) ?_
      refine fp_Guard_28 X hP hD hS 0 rfl rfl rfl rfl d_Guard_add_55 (fun H locs hP hD hS => ?_)
      have hP : va_P D cls (gW cI g a1 a2 a3 fp fq fr n (0 : Int32) ((g_max fp fq fr n (-np) (-nq)).1) ((g_max fp fq fr n (-np) (-nq)).2)) H := hP
      have hD : va_D A (gW cI g a1 a2 a3 fp fq fr n (0 : Int32) ((g_max fp fq fr n (-np) (-nq)).1) ((g_max fp fq fr n (-np) (-nq)).2)) := hD
      refine lv_aload_n X.1.1 X.1.2.1 d_Guard_add_58 rfl (lv_at hl 0 rfl) ?_
      refine fg_Guard_9 X hP 0 rfl rfl d_Guard_add_59 ?_
      refine lv_aload_n X.1.1 X.1.2.1 d_Guard_add_62 rfl (lv_at hl 0 rfl) ?_
      refine fg_Guard_24 X hP 0 rfl rfl d_Guard_add_63 ?_
      refine lv_iload_n X.1.1 X.1.2.1 d_Guard_add_66 rfl (lv_at hl 1 rfl) ?_
      refine wa_ist X.1.1 X.1.2.1 X.2.1 hP hD hS 1 0 rfl rfl n rfl (by omega) (by decide) d_Guard_add_67 (fun H locs hP hD hS => ?_)
      have hP : va_P D cls (gW cI g a1 a2 a3 (upd fp n np) fq fr n (0 : Int32) ((g_max fp fq fr n (-np) (-nq)).1) ((g_max fp fq fr n (-np) (-nq)).2)) H := hP
      have hD : va_D A (gW cI g a1 a2 a3 (upd fp n np) fq fr n (0 : Int32) ((g_max fp fq fr n (-np) (-nq)).1) ((g_max fp fq fr n (-np) (-nq)).2)) := hD
      refine lv_aload_n X.1.1 X.1.2.1 d_Guard_add_68 rfl (lv_at hl 0 rfl) ?_
      refine fg_Guard_15 X hP 0 rfl rfl d_Guard_add_69 ?_
      refine lv_aload_n X.1.1 X.1.2.1 d_Guard_add_72 rfl (lv_at hl 0 rfl) ?_
      refine fg_Guard_24 X hP 0 rfl rfl d_Guard_add_73 ?_
      refine lv_iload_n X.1.1 X.1.2.1 d_Guard_add_76 rfl (lv_at hl 2 rfl) ?_
      refine wa_ist X.1.1 X.1.2.1 X.2.1 hP hD hS 2 0 rfl rfl n rfl (by omega) (by decide) d_Guard_add_77 (fun H locs hP hD hS => ?_)
      have hP : va_P D cls (gW cI g a1 a2 a3 (upd fp n np) (upd fq n nq) fr n (0 : Int32) ((g_max fp fq fr n (-np) (-nq)).1) ((g_max fp fq fr n (-np) (-nq)).2)) H := hP
      have hD : va_D A (gW cI g a1 a2 a3 (upd fp n np) (upd fq n nq) fr n (0 : Int32) ((g_max fp fq fr n (-np) (-nq)).1) ((g_max fp fq fr n (-np) (-nq)).2)) := hD
      refine lv_aload_n X.1.1 X.1.2.1 d_Guard_add_78 rfl (lv_at hl 0 rfl) ?_
      refine fg_Guard_18 X hP 0 rfl rfl d_Guard_add_79 ?_
      refine lv_aload_n X.1.1 X.1.2.1 d_Guard_add_82 rfl (lv_at hl 0 rfl) ?_
      refine fg_Guard_24 X hP 0 rfl rfl d_Guard_add_83 ?_
      refine lv_iload_n X.1.1 X.1.2.1 d_Guard_add_86 rfl (lv_at hl 3 rfl) ?_
      refine wa_ist X.1.1 X.1.2.1 X.2.1 hP hD hS 3 0 rfl rfl n rfl (by omega) (by decide) d_Guard_add_87 (fun H locs hP hD hS => ?_)
      have hP : va_P D cls (gW cI g a1 a2 a3 (upd fp n np) (upd fq n nq) (upd fr n nr) n (0 : Int32) ((g_max fp fq fr n (-np) (-nq)).1) ((g_max fp fq fr n (-np) (-nq)).2)) H := hP
      have hD : va_D A (gW cI g a1 a2 a3 (upd fp n np) (upd fq n nq) (upd fr n nr) n (0 : Int32) ((g_max fp fq fr n (-np) (-nq)).1) ((g_max fp fq fr n (-np) (-nq)).2)) := hD
      refine lv_aload_n X.1.1 X.1.2.1 d_Guard_add_88 rfl (lv_at hl 0 rfl) ?_
      refine lv_dup X.1.1 X.1.2.1 d_Guard_add_89 rfl ?_
      refine fg_Guard_24 X hP 0 rfl rfl d_Guard_add_90 ?_
      refine lv_iconst (v := (1 : Int32)) X.1.1 X.1.2.1 d_Guard_add_93 (by decide) ?_
      refine wn_add (a := n) (b := 1) X.1.1 X.1.2.1 d_Guard_add_94 ?_
      refine fp_Guard_24 X hP hD hS 0 rfl rfl rfl rfl d_Guard_add_95 (fun H locs hP hD hS => ?_)
      have hP : va_P D cls (gW cI g a1 a2 a3 (upd fp n np) (upd fq n nq) (upd fr n nr) (n + 1) (0 : Int32) ((g_max fp fq fr n (-np) (-nq)).1) ((g_max fp fq fr n (-np) (-nq)).2)) H := hP
      have hD : va_D A (gW cI g a1 a2 a3 (upd fp n np) (upd fq n nq) (upd fr n nr) (n + 1) (0 : Int32) ((g_max fp fq fr n (-np) (-nq)).1) ((g_max fp fq fr n (-np) (-nq)).2)) := hD
      exact hret 98 H locs ls _ hP hD hS d_Guard_add_98 (⟨(g_max fp fq fr n (-np) (-nq)).1, (g_max fp fq fr n (-np) (-nq)).2, by simp [g_em, h5, h13, h30]⟩)
    · refine lv_aload_n X.1.1 X.1.2.1 d_Guard_add_34 rfl (lv_at hl 0 rfl) ?_
      refine fg_Guard_32 X hP 0 rfl rfl d_Guard_add_35 ?_
      refine lv_iload_n X.1.1 X.1.2.1 d_Guard_add_38 rfl (lv_at hl 3 rfl) ?_
      refine lv_ineg X.1.1 X.1.2.1 d_Guard_add_39 ?_
      refine lv_i2l X.1.1 X.1.2.1 d_Guard_add_40 rfl ?_
      refine lv_aload_n X.1.1 X.1.2.1 d_Guard_add_41 rfl (lv_at hl 0 rfl) ?_
      refine fg_Guard_36 X hP 0 rfl rfl d_Guard_add_42 ?_
      refine lv_lmul X.1.1 X.1.2.1 d_Guard_add_45 ?_
      refine wl_ge (tgt := 54) X.1.1 X.1.2.1 d_Guard_add_46 d_Guard_add_47 (by decide) (fun h46 => ?_) (fun h46 => ?_)
      · refine lv_iconst (v := (0 : Int32)) X.1.1 X.1.2.1 d_Guard_add_54 (by decide) ?_
        refine fp_Guard_28 X hP hD hS 0 rfl rfl rfl rfl d_Guard_add_55 (fun H locs hP hD hS => ?_)
        have hP : va_P D cls (gW cI g a1 a2 a3 fp fq fr n (0 : Int32) ((g_max fp fq fr n (-np) (-nq)).1) ((g_max fp fq fr n (-np) (-nq)).2)) H := hP
        have hD : va_D A (gW cI g a1 a2 a3 fp fq fr n (0 : Int32) ((g_max fp fq fr n (-np) (-nq)).1) ((g_max fp fq fr n (-np) (-nq)).2)) := hD
        refine lv_aload_n X.1.1 X.1.2.1 d_Guard_add_58 rfl (lv_at hl 0 rfl) ?_
        refine fg_Guard_9 X hP 0 rfl rfl d_Guard_add_59 ?_
        refine lv_aload_n X.1.1 X.1.2.1 d_Guard_add_62 rfl (lv_at hl 0 rfl) ?_
        refine fg_Guard_24 X hP 0 rfl rfl d_Guard_add_63 ?_
        refine lv_iload_n X.1.1 X.1.2.1 d_Guard_add_66 rfl (lv_at hl 1 rfl) ?_
        refine wa_ist X.1.1 X.1.2.1 X.2.1 hP hD hS 1 0 rfl rfl n rfl (by omega) (by decide) d_Guard_add_67 (fun H locs hP hD hS => ?_)
        have hP : va_P D cls (gW cI g a1 a2 a3 (upd fp n np) fq fr n (0 : Int32) ((g_max fp fq fr n (-np) (-nq)).1) ((g_max fp fq fr n (-np) (-nq)).2)) H := hP
        have hD : va_D A (gW cI g a1 a2 a3 (upd fp n np) fq fr n (0 : Int32) ((g_max fp fq fr n (-np) (-nq)).1) ((g_max fp fq fr n (-np) (-nq)).2)) := hD
        refine lv_aload_n X.1.1 X.1.2.1 d_Guard_add_68 rfl (lv_at hl 0 rfl) ?_
        refine fg_Guard_15 X hP 0 rfl rfl d_Guard_add_69 ?_
        refine lv_aload_n X.1.1 X.1.2.1 d_Guard_add_72 rfl (lv_at hl 0 rfl) ?_
        refine fg_Guard_24 X hP 0 rfl rfl d_Guard_add_73 ?_
        refine lv_iload_n X.1.1 X.1.2.1 d_Guard_add_76 rfl (lv_at hl 2 rfl) ?_
        refine wa_ist X.1.1 X.1.2.1 X.2.1 hP hD hS 2 0 rfl rfl n rfl (by omega) (by decide) d_Guard_add_77 (fun H locs hP hD hS => ?_)
        have hP : va_P D cls (gW cI g a1 a2 a3 (upd fp n np) (upd fq n nq) fr n (0 : Int32) ((g_max fp fq fr n (-np) (-nq)).1) ((g_max fp fq fr n (-np) (-nq)).2)) H := hP
        have hD : va_D A (gW cI g a1 a2 a3 (upd fp n np) (upd fq n nq) fr n (0 : Int32) ((g_max fp fq fr n (-np) (-nq)).1) ((g_max fp fq fr n (-np) (-nq)).2)) := hD
        refine lv_aload_n X.1.1 X.1.2.1 d_Guard_add_78 rfl (lv_at hl 0 rfl) ?_
        refine fg_Guard_18 X hP 0 rfl rfl d_Guard_add_79 ?_
        refine lv_aload_n X.1.1 X.1.2.1 d_Guard_add_82 rfl (lv_at hl 0 rfl) ?_
        refine fg_Guard_24 X hP 0 rfl rfl d_Guard_add_83 ?_
        refine lv_iload_n X.1.1 X.1.2.1 d_Guard_add_86 rfl (lv_at hl 3 rfl) ?_
        refine wa_ist X.1.1 X.1.2.1 X.2.1 hP hD hS 3 0 rfl rfl n rfl (by omega) (by decide) d_Guard_add_87 (fun H locs hP hD hS => ?_)
        have hP : va_P D cls (gW cI g a1 a2 a3 (upd fp n np) (upd fq n nq) (upd fr n nr) n (0 : Int32) ((g_max fp fq fr n (-np) (-nq)).1) ((g_max fp fq fr n (-np) (-nq)).2)) H := hP
        have hD : va_D A (gW cI g a1 a2 a3 (upd fp n np) (upd fq n nq) (upd fr n nr) n (0 : Int32) ((g_max fp fq fr n (-np) (-nq)).1) ((g_max fp fq fr n (-np) (-nq)).2)) := hD
        refine lv_aload_n X.1.1 X.1.2.1 d_Guard_add_88 rfl (lv_at hl 0 rfl) ?_
        refine lv_dup X.1.1 X.1.2.1 d_Guard_add_89 rfl ?_
        refine fg_Guard_24 X hP 0 rfl rfl d_Guard_add_90 ?_
        refine lv_iconst (v := (1 : Int32)) X.1.1 X.1.2.1 d_Guard_add_93 (by decide) ?_
        refine wn_add (a := n) (b := 1) X.1.1 X.1.2.1 d_Guard_add_94 ?_
        refine fp_Guard_24 X hP hD hS 0 rfl rfl rfl rfl d_Guard_add_95 (fun H locs hP hD hS => ?_)
        have hP : va_P D cls (gW cI g a1 a2 a3 (upd fp n np) (upd fq n nq) (upd fr n nr) (n + 1) (0 : Int32) ((g_max fp fq fr n (-np) (-nq)).1) ((g_max fp fq fr n (-np) (-nq)).2)) H := hP
        have hD : va_D A (gW cI g a1 a2 a3 (upd fp n np) (upd fq n nq) (upd fr n nr) (n + 1) (0 : Int32) ((g_max fp fq fr n (-np) (-nq)).1) ((g_max fp fq fr n (-np) (-nq)).2)) := hD
        exact hret 98 H locs ls _ hP hD hS d_Guard_add_98 (⟨(g_max fp fq fr n (-np) (-nq)).1, (g_max fp fq fr n (-np) (-nq)).2, by simp [g_em, h5, h13, h30, h46]⟩)
      · refine lv_iconst (v := (1 : Int32)) X.1.1 X.1.2.1 d_Guard_add_50 (by decide) ?_
        refine lv_goto (tgt := 55) X.1.1 X.1.2.1 d_Guard_add_51 (by decide) ?_
        refine fp_Guard_28 X hP hD hS 0 rfl rfl rfl rfl d_Guard_add_55 (fun H locs hP hD hS => ?_)
        have hP : va_P D cls (gW cI g a1 a2 a3 fp fq fr n (1 : Int32) ((g_max fp fq fr n (-np) (-nq)).1) ((g_max fp fq fr n (-np) (-nq)).2)) H := hP
        have hD : va_D A (gW cI g a1 a2 a3 fp fq fr n (1 : Int32) ((g_max fp fq fr n (-np) (-nq)).1) ((g_max fp fq fr n (-np) (-nq)).2)) := hD
        refine lv_aload_n X.1.1 X.1.2.1 d_Guard_add_58 rfl (lv_at hl 0 rfl) ?_
        refine fg_Guard_9 X hP 0 rfl rfl d_Guard_add_59 ?_
        refine lv_aload_n X.1.1 X.1.2.1 d_Guard_add_62 rfl (lv_at hl 0 rfl) ?_
        refine fg_Guard_24 X hP 0 rfl rfl d_Guard_add_63 ?_
        refine lv_iload_n X.1.1 X.1.2.1 d_Guard_add_66 rfl (lv_at hl 1 rfl) ?_
        refine wa_ist X.1.1 X.1.2.1 X.2.1 hP hD hS 1 0 rfl rfl n rfl (by omega) (by decide) d_Guard_add_67 (fun H locs hP hD hS => ?_)
        have hP : va_P D cls (gW cI g a1 a2 a3 (upd fp n np) fq fr n (1 : Int32) ((g_max fp fq fr n (-np) (-nq)).1) ((g_max fp fq fr n (-np) (-nq)).2)) H := hP
        have hD : va_D A (gW cI g a1 a2 a3 (upd fp n np) fq fr n (1 : Int32) ((g_max fp fq fr n (-np) (-nq)).1) ((g_max fp fq fr n (-np) (-nq)).2)) := hD
        refine lv_aload_n X.1.1 X.1.2.1 d_Guard_add_68 rfl (lv_at hl 0 rfl) ?_
        refine fg_Guard_15 X hP 0 rfl rfl d_Guard_add_69 ?_
        refine lv_aload_n X.1.1 X.1.2.1 d_Guard_add_72 rfl (lv_at hl 0 rfl) ?_
        refine fg_Guard_24 X hP 0 rfl rfl d_Guard_add_73 ?_
        refine lv_iload_n X.1.1 X.1.2.1 d_Guard_add_76 rfl (lv_at hl 2 rfl) ?_
        refine wa_ist X.1.1 X.1.2.1 X.2.1 hP hD hS 2 0 rfl rfl n rfl (by omega) (by decide) d_Guard_add_77 (fun H locs hP hD hS => ?_)
        have hP : va_P D cls (gW cI g a1 a2 a3 (upd fp n np) (upd fq n nq) fr n (1 : Int32) ((g_max fp fq fr n (-np) (-nq)).1) ((g_max fp fq fr n (-np) (-nq)).2)) H := hP
        have hD : va_D A (gW cI g a1 a2 a3 (upd fp n np) (upd fq n nq) fr n (1 : Int32) ((g_max fp fq fr n (-np) (-nq)).1) ((g_max fp fq fr n (-np) (-nq)).2)) := hD
        refine lv_aload_n X.1.1 X.1.2.1 d_Guard_add_78 rfl (lv_at hl 0 rfl) ?_
        refine fg_Guard_18 X hP 0 rfl rfl d_Guard_add_79 ?_
        refine lv_aload_n X.1.1 X.1.2.1 d_Guard_add_82 rfl (lv_at hl 0 rfl) ?_
        refine fg_Guard_24 X hP 0 rfl rfl d_Guard_add_83 ?_
        refine lv_iload_n X.1.1 X.1.2.1 d_Guard_add_86 rfl (lv_at hl 3 rfl) ?_
        refine wa_ist X.1.1 X.1.2.1 X.2.1 hP hD hS 3 0 rfl rfl n rfl (by omega) (by decide) d_Guard_add_87 (fun H locs hP hD hS => ?_)
        have hP : va_P D cls (gW cI g a1 a2 a3 (upd fp n np) (upd fq n nq) (upd fr n nr) n (1 : Int32) ((g_max fp fq fr n (-np) (-nq)).1) ((g_max fp fq fr n (-np) (-nq)).2)) H := hP
        have hD : va_D A (gW cI g a1 a2 a3 (upd fp n np) (upd fq n nq) (upd fr n nr) n (1 : Int32) ((g_max fp fq fr n (-np) (-nq)).1) ((g_max fp fq fr n (-np) (-nq)).2)) := hD
        refine lv_aload_n X.1.1 X.1.2.1 d_Guard_add_88 rfl (lv_at hl 0 rfl) ?_
        refine lv_dup X.1.1 X.1.2.1 d_Guard_add_89 rfl ?_
        refine fg_Guard_24 X hP 0 rfl rfl d_Guard_add_90 ?_
        refine lv_iconst (v := (1 : Int32)) X.1.1 X.1.2.1 d_Guard_add_93 (by decide) ?_
        refine wn_add (a := n) (b := 1) X.1.1 X.1.2.1 d_Guard_add_94 ?_
        refine fp_Guard_24 X hP hD hS 0 rfl rfl rfl rfl d_Guard_add_95 (fun H locs hP hD hS => ?_)
        have hP : va_P D cls (gW cI g a1 a2 a3 (upd fp n np) (upd fq n nq) (upd fr n nr) (n + 1) (1 : Int32) ((g_max fp fq fr n (-np) (-nq)).1) ((g_max fp fq fr n (-np) (-nq)).2)) H := hP
        have hD : va_D A (gW cI g a1 a2 a3 (upd fp n np) (upd fq n nq) (upd fr n nr) (n + 1) (1 : Int32) ((g_max fp fq fr n (-np) (-nq)).1) ((g_max fp fq fr n (-np) (-nq)).2)) := hD
        exact hret 98 H locs ls _ hP hD hS d_Guard_add_98 (⟨(g_max fp fq fr n (-np) (-nq)).1, (g_max fp fq fr n (-np) (-nq)).2, by simp [g_em, h5, h13, h30, h46]⟩)
end CT
end
section
theorem d_Step_init_0 : decode b_Step_init 0 = .ok (.aload_n 0, 1) := by decide +kernel
theorem d_Step_init_1 : decode b_Step_init 1 = .ok (.invokespecial 3, 3) := by decide +kernel
theorem d_Step_init_4 : decode b_Step_init 4 = .ok (.aload_n 0, 1) := by decide +kernel
theorem d_Step_init_5 : decode b_Step_init 5 = .ok (.new 9, 3) := by decide +kernel
theorem d_Step_init_8 : decode b_Step_init 8 = .ok (.dup, 1) := by decide +kernel
theorem d_Step_init_9 : decode b_Step_init 9 = .ok (.invokespecial 11, 3) := by decide +kernel
theorem d_Step_init_12 : decode b_Step_init 12 = .ok (.putfield 12, 3) := by decide +kernel
theorem d_Step_init_15 : decode b_Step_init 15 = .ok (.aload_n 0, 1) := by decide +kernel
theorem d_Step_init_16 : decode b_Step_init 16 = .ok (.bipush 6, 2) := by decide +kernel
theorem d_Step_init_18 : decode b_Step_init 18 = .ok (.newarray .int, 2) := by decide +kernel
theorem d_Step_init_20 : decode b_Step_init 20 = .ok (.putfield 18, 3) := by decide +kernel
theorem d_Step_init_23 : decode b_Step_init 23 = .ok (.aload_n 0, 1) := by decide +kernel
theorem d_Step_init_24 : decode b_Step_init 24 = .ok (.bipush 80, 2) := by decide +kernel
theorem d_Step_init_26 : decode b_Step_init 26 = .ok (.newarray .int, 2) := by decide +kernel
theorem d_Step_init_28 : decode b_Step_init 28 = .ok (.putfield 22, 3) := by decide +kernel
theorem d_Step_init_31 : decode b_Step_init 31 = .ok (.aload_n 0, 1) := by decide +kernel
theorem d_Step_init_32 : decode b_Step_init 32 = .ok (.iconst 0, 1) := by decide +kernel
theorem d_Step_init_33 : decode b_Step_init 33 = .ok (.putfield 25, 3) := by decide +kernel
theorem d_Step_init_36 : decode b_Step_init 36 = .ok (.return_, 1) := by decide +kernel
theorem d_Step_reset_0 : decode b_Step_reset 0 = .ok (.aload_n 0, 1) := by decide +kernel
theorem d_Step_reset_1 : decode b_Step_reset 1 = .ok (.getfield 12, 3) := by decide +kernel
theorem d_Step_reset_4 : decode b_Step_reset 4 = .ok (.invokevirtual 29, 3) := by decide +kernel
theorem d_Step_reset_7 : decode b_Step_reset 7 = .ok (.aload_n 0, 1) := by decide +kernel
theorem d_Step_reset_8 : decode b_Step_reset 8 = .ok (.iconst 0, 1) := by decide +kernel
theorem d_Step_reset_9 : decode b_Step_reset 9 = .ok (.iconst 1, 1) := by decide +kernel
theorem d_Step_reset_10 : decode b_Step_reset 10 = .ok (.iconst 0, 1) := by decide +kernel
theorem d_Step_reset_11 : decode b_Step_reset 11 = .ok (.iconst 0, 1) := by decide +kernel
theorem d_Step_reset_12 : decode b_Step_reset 12 = .ok (.invokevirtual 32, 3) := by decide +kernel
theorem d_Step_reset_15 : decode b_Step_reset 15 = .ok (.aload_n 0, 1) := by decide +kernel
theorem d_Step_reset_16 : decode b_Step_reset 16 = .ok (.iconst 1, 1) := by decide +kernel
theorem d_Step_reset_17 : decode b_Step_reset 17 = .ok (.iconst 0, 1) := by decide +kernel
theorem d_Step_reset_18 : decode b_Step_reset 18 = .ok (.iconst 1, 1) := by decide +kernel
theorem d_Step_reset_19 : decode b_Step_reset 19 = .ok (.iconst 0, 1) := by decide +kernel
theorem d_Step_reset_20 : decode b_Step_reset 20 = .ok (.invokevirtual 32, 3) := by decide +kernel
theorem d_Step_reset_23 : decode b_Step_reset 23 = .ok (.return_, 1) := by decide +kernel
theorem d_Step_addRow_0 : decode b_Step_addRow 0 = .ok (.aload_n 0, 1) := by decide +kernel
theorem d_Step_addRow_1 : decode b_Step_addRow 1 = .ok (.getfield 12, 3) := by decide +kernel
theorem d_Step_addRow_4 : decode b_Step_addRow 4 = .ok (.iload_n 1, 1) := by decide +kernel
theorem d_Step_addRow_5 : decode b_Step_addRow 5 = .ok (.iload_n 2, 1) := by decide +kernel
theorem d_Step_addRow_6 : decode b_Step_addRow 6 = .ok (.iload_n 3, 1) := by decide +kernel
theorem d_Step_addRow_7 : decode b_Step_addRow 7 = .ok (.invokevirtual 36, 3) := by decide +kernel
theorem d_Step_addRow_10 : decode b_Step_addRow 10 = .ok (.aload_n 0, 1) := by decide +kernel
theorem d_Step_addRow_11 : decode b_Step_addRow 11 = .ok (.iconst 0, 1) := by decide +kernel
theorem d_Step_addRow_12 : decode b_Step_addRow 12 = .ok (.putfield 25, 3) := by decide +kernel
theorem d_Step_addRow_15 : decode b_Step_addRow 15 = .ok (.return_, 1) := by decide +kernel
theorem d_Step_setRule_0 : decode b_Step_setRule 0 = .ok (.iload_n 1, 1) := by decide +kernel
theorem d_Step_setRule_1 : decode b_Step_setRule 1 = .ok (.ifCond .ne 7, 3) := by decide +kernel
theorem d_Step_setRule_4 : decode b_Step_setRule 4 = .ok (.iconst 0, 1) := by decide +kernel
theorem d_Step_setRule_5 : decode b_Step_setRule 5 = .ok (.goto 4, 3) := by decide +kernel
theorem d_Step_setRule_8 : decode b_Step_setRule 8 = .ok (.iconst 3, 1) := by decide +kernel
theorem d_Step_setRule_9 : decode b_Step_setRule 9 = .ok (.istore 5, 2) := by decide +kernel
theorem d_Step_setRule_11 : decode b_Step_setRule 11 = .ok (.aload_n 0, 1) := by decide +kernel
theorem d_Step_setRule_12 : decode b_Step_setRule 12 = .ok (.getfield 18, 3) := by decide +kernel
theorem d_Step_setRule_15 : decode b_Step_setRule 15 = .ok (.iload 5, 2) := by decide +kernel
theorem d_Step_setRule_17 : decode b_Step_setRule 17 = .ok (.iload_n 2, 1) := by decide +kernel
theorem d_Step_setRule_18 : decode b_Step_setRule 18 = .ok (.iastore, 1) := by decide +kernel
theorem d_Step_setRule_19 : decode b_Step_setRule 19 = .ok (.aload_n 0, 1) := by decide +kernel
theorem d_Step_setRule_20 : decode b_Step_setRule 20 = .ok (.getfield 18, 3) := by decide +kernel
theorem d_Step_setRule_23 : decode b_Step_setRule 23 = .ok (.iload 5, 2) := by decide +kernel
theorem d_Step_setRule_25 : decode b_Step_setRule 25 = .ok (.iconst 1, 1) := by decide +kernel
theorem d_Step_setRule_26 : decode b_Step_setRule 26 = .ok (.iadd, 1) := by decide +kernel
theorem d_Step_setRule_27 : decode b_Step_setRule 27 = .ok (.iload_n 3, 1) := by decide +kernel
theorem d_Step_setRule_28 : decode b_Step_setRule 28 = .ok (.iastore, 1) := by decide +kernel
theorem d_Step_setRule_29 : decode b_Step_setRule 29 = .ok (.aload_n 0, 1) := by decide +kernel
theorem d_Step_setRule_30 : decode b_Step_setRule 30 = .ok (.getfield 18, 3) := by decide +kernel
theorem d_Step_setRule_33 : decode b_Step_setRule 33 = .ok (.iload 5, 2) := by decide +kernel
theorem d_Step_setRule_35 : decode b_Step_setRule 35 = .ok (.iconst 2, 1) := by decide +kernel
theorem d_Step_setRule_36 : decode b_Step_setRule 36 = .ok (.iadd, 1) := by decide +kernel
theorem d_Step_setRule_37 : decode b_Step_setRule 37 = .ok (.iload 4, 2) := by decide +kernel
theorem d_Step_setRule_39 : decode b_Step_setRule 39 = .ok (.iastore, 1) := by decide +kernel
theorem d_Step_setRule_40 : decode b_Step_setRule 40 = .ok (.aload_n 0, 1) := by decide +kernel
theorem d_Step_setRule_41 : decode b_Step_setRule 41 = .ok (.iconst 0, 1) := by decide +kernel
theorem d_Step_setRule_42 : decode b_Step_setRule 42 = .ok (.putfield 25, 3) := by decide +kernel
theorem d_Step_setRule_45 : decode b_Step_setRule 45 = .ok (.return_, 1) := by decide +kernel
theorem d_Step_next_0 : decode b_Step_next 0 = .ok (.iload_n 1, 1) := by decide +kernel
theorem d_Step_next_1 : decode b_Step_next 1 = .ok (.ifCond .ne 7, 3) := by decide +kernel
theorem d_Step_next_4 : decode b_Step_next 4 = .ok (.iconst 0, 1) := by decide +kernel
theorem d_Step_next_5 : decode b_Step_next 5 = .ok (.goto 4, 3) := by decide +kernel
theorem d_Step_next_8 : decode b_Step_next 8 = .ok (.iconst 3, 1) := by decide +kernel
theorem d_Step_next_9 : decode b_Step_next 9 = .ok (.istore 6, 2) := by decide +kernel
theorem d_Step_next_11 : decode b_Step_next 11 = .ok (.aload_n 0, 1) := by decide +kernel
theorem d_Step_next_12 : decode b_Step_next 12 = .ok (.getfield 18, 3) := by decide +kernel
theorem d_Step_next_15 : decode b_Step_next 15 = .ok (.iload 6, 2) := by decide +kernel
theorem d_Step_next_17 : decode b_Step_next 17 = .ok (.iaload, 1) := by decide +kernel
theorem d_Step_next_18 : decode b_Step_next 18 = .ok (.i2l, 1) := by decide +kernel
theorem d_Step_next_19 : decode b_Step_next 19 = .ok (.lload_n 2, 1) := by decide +kernel
theorem d_Step_next_20 : decode b_Step_next 20 = .ok (.lmul, 1) := by decide +kernel
theorem d_Step_next_21 : decode b_Step_next 21 = .ok (.aload_n 0, 1) := by decide +kernel
theorem d_Step_next_22 : decode b_Step_next 22 = .ok (.getfield 18, 3) := by decide +kernel
theorem d_Step_next_25 : decode b_Step_next 25 = .ok (.iload 6, 2) := by decide +kernel
theorem d_Step_next_27 : decode b_Step_next 27 = .ok (.iconst 1, 1) := by decide +kernel
theorem d_Step_next_28 : decode b_Step_next 28 = .ok (.iadd, 1) := by decide +kernel
theorem d_Step_next_29 : decode b_Step_next 29 = .ok (.iaload, 1) := by decide +kernel
theorem d_Step_next_30 : decode b_Step_next 30 = .ok (.i2l, 1) := by decide +kernel
theorem d_Step_next_31 : decode b_Step_next 31 = .ok (.lload 4, 2) := by decide +kernel
theorem d_Step_next_33 : decode b_Step_next 33 = .ok (.lmul, 1) := by decide +kernel
theorem d_Step_next_34 : decode b_Step_next 34 = .ok (.ladd, 1) := by decide +kernel
theorem d_Step_next_35 : decode b_Step_next 35 = .ok (.aload_n 0, 1) := by decide +kernel
theorem d_Step_next_36 : decode b_Step_next 36 = .ok (.getfield 18, 3) := by decide +kernel
theorem d_Step_next_39 : decode b_Step_next 39 = .ok (.iload 6, 2) := by decide +kernel
theorem d_Step_next_41 : decode b_Step_next 41 = .ok (.iconst 2, 1) := by decide +kernel
theorem d_Step_next_42 : decode b_Step_next 42 = .ok (.iadd, 1) := by decide +kernel
theorem d_Step_next_43 : decode b_Step_next 43 = .ok (.iaload, 1) := by decide +kernel
theorem d_Step_next_44 : decode b_Step_next 44 = .ok (.i2l, 1) := by decide +kernel
theorem d_Step_next_45 : decode b_Step_next 45 = .ok (.ladd, 1) := by decide +kernel
theorem d_Step_next_46 : decode b_Step_next 46 = .ok (.lreturn, 1) := by decide +kernel
theorem d_Step_changesByAtMost_0 : decode b_Step_changesByAtMost 0 = .ok (.aload_n 0, 1) := by decide +kernel
theorem d_Step_changesByAtMost_1 : decode b_Step_changesByAtMost 1 = .ok (.getfield 12, 3) := by decide +kernel
theorem d_Step_changesByAtMost_4 : decode b_Step_changesByAtMost 4 = .ok (.getfield 40, 3) := by decide +kernel
theorem d_Step_changesByAtMost_7 : decode b_Step_changesByAtMost 7 = .ok (.ifCond .eq 5, 3) := by decide +kernel
theorem d_Step_changesByAtMost_10 : decode b_Step_changesByAtMost 10 = .ok (.iconst 1, 1) := by decide +kernel
theorem d_Step_changesByAtMost_11 : decode b_Step_changesByAtMost 11 = .ok (.ireturn, 1) := by decide +kernel
theorem d_Step_changesByAtMost_12 : decode b_Step_changesByAtMost 12 = .ok (.aload_n 0, 1) := by decide +kernel
theorem d_Step_changesByAtMost_13 : decode b_Step_changesByAtMost 13 = .ok (.getfield 12, 3) := by decide +kernel
theorem d_Step_changesByAtMost_16 : decode b_Step_changesByAtMost 16 = .ok (.iload_n 1, 1) := by decide +kernel
theorem d_Step_changesByAtMost_17 : decode b_Step_changesByAtMost 17 = .ok (.aload_n 0, 1) := by decide +kernel
theorem d_Step_changesByAtMost_18 : decode b_Step_changesByAtMost 18 = .ok (.getfield 18, 3) := by decide +kernel
theorem d_Step_changesByAtMost_21 : decode b_Step_changesByAtMost 21 = .ok (.iconst 0, 1) := by decide +kernel
theorem d_Step_changesByAtMost_22 : decode b_Step_changesByAtMost 22 = .ok (.iaload, 1) := by decide +kernel
theorem d_Step_changesByAtMost_23 : decode b_Step_changesByAtMost 23 = .ok (.imul, 1) := by decide +kernel
theorem d_Step_changesByAtMost_24 : decode b_Step_changesByAtMost 24 = .ok (.iload_n 2, 1) := by decide +kernel
theorem d_Step_changesByAtMost_25 : decode b_Step_changesByAtMost 25 = .ok (.aload_n 0, 1) := by decide +kernel
theorem d_Step_changesByAtMost_26 : decode b_Step_changesByAtMost 26 = .ok (.getfield 18, 3) := by decide +kernel
theorem d_Step_changesByAtMost_29 : decode b_Step_changesByAtMost 29 = .ok (.iconst 3, 1) := by decide +kernel
theorem d_Step_changesByAtMost_30 : decode b_Step_changesByAtMost 30 = .ok (.iaload, 1) := by decide +kernel
theorem d_Step_changesByAtMost_31 : decode b_Step_changesByAtMost 31 = .ok (.imul, 1) := by decide +kernel
theorem d_Step_changesByAtMost_32 : decode b_Step_changesByAtMost 32 = .ok (.iadd, 1) := by decide +kernel
theorem d_Step_changesByAtMost_33 : decode b_Step_changesByAtMost 33 = .ok (.iload_n 1, 1) := by decide +kernel
theorem d_Step_changesByAtMost_34 : decode b_Step_changesByAtMost 34 = .ok (.isub, 1) := by decide +kernel
theorem d_Step_changesByAtMost_35 : decode b_Step_changesByAtMost 35 = .ok (.iload_n 1, 1) := by decide +kernel
theorem d_Step_changesByAtMost_36 : decode b_Step_changesByAtMost 36 = .ok (.aload_n 0, 1) := by decide +kernel
theorem d_Step_changesByAtMost_37 : decode b_Step_changesByAtMost 37 = .ok (.getfield 18, 3) := by decide +kernel
theorem d_Step_changesByAtMost_40 : decode b_Step_changesByAtMost 40 = .ok (.iconst 1, 1) := by decide +kernel
theorem d_Step_changesByAtMost_41 : decode b_Step_changesByAtMost 41 = .ok (.iaload, 1) := by decide +kernel
theorem d_Step_changesByAtMost_42 : decode b_Step_changesByAtMost 42 = .ok (.imul, 1) := by decide +kernel
theorem d_Step_changesByAtMost_43 : decode b_Step_changesByAtMost 43 = .ok (.iload_n 2, 1) := by decide +kernel
theorem d_Step_changesByAtMost_44 : decode b_Step_changesByAtMost 44 = .ok (.aload_n 0, 1) := by decide +kernel
theorem d_Step_changesByAtMost_45 : decode b_Step_changesByAtMost 45 = .ok (.getfield 18, 3) := by decide +kernel
theorem d_Step_changesByAtMost_48 : decode b_Step_changesByAtMost 48 = .ok (.iconst 4, 1) := by decide +kernel
theorem d_Step_changesByAtMost_49 : decode b_Step_changesByAtMost 49 = .ok (.iaload, 1) := by decide +kernel
theorem d_Step_changesByAtMost_50 : decode b_Step_changesByAtMost 50 = .ok (.imul, 1) := by decide +kernel
theorem d_Step_changesByAtMost_51 : decode b_Step_changesByAtMost 51 = .ok (.iadd, 1) := by decide +kernel
theorem d_Step_changesByAtMost_52 : decode b_Step_changesByAtMost 52 = .ok (.iload_n 2, 1) := by decide +kernel
theorem d_Step_changesByAtMost_53 : decode b_Step_changesByAtMost 53 = .ok (.isub, 1) := by decide +kernel
theorem d_Step_changesByAtMost_54 : decode b_Step_changesByAtMost 54 = .ok (.invokevirtual 43, 3) := by decide +kernel
theorem d_Step_changesByAtMost_57 : decode b_Step_changesByAtMost 57 = .ok (.aload_n 0, 1) := by decide +kernel
theorem d_Step_changesByAtMost_58 : decode b_Step_changesByAtMost 58 = .ok (.getfield 12, 3) := by decide +kernel
theorem d_Step_changesByAtMost_61 : decode b_Step_changesByAtMost 61 = .ok (.iload_n 3, 1) := by decide +kernel
theorem d_Step_changesByAtMost_62 : decode b_Step_changesByAtMost 62 = .ok (.iload_n 1, 1) := by decide +kernel
theorem d_Step_changesByAtMost_63 : decode b_Step_changesByAtMost 63 = .ok (.aload_n 0, 1) := by decide +kernel
theorem d_Step_changesByAtMost_64 : decode b_Step_changesByAtMost 64 = .ok (.getfield 18, 3) := by decide +kernel
theorem d_Step_changesByAtMost_67 : decode b_Step_changesByAtMost 67 = .ok (.iconst 2, 1) := by decide +kernel
theorem d_Step_changesByAtMost_68 : decode b_Step_changesByAtMost 68 = .ok (.iaload, 1) := by decide +kernel
theorem d_Step_changesByAtMost_69 : decode b_Step_changesByAtMost 69 = .ok (.imul, 1) := by decide +kernel
theorem d_Step_changesByAtMost_70 : decode b_Step_changesByAtMost 70 = .ok (.iload_n 2, 1) := by decide +kernel
theorem d_Step_changesByAtMost_71 : decode b_Step_changesByAtMost 71 = .ok (.aload_n 0, 1) := by decide +kernel
theorem d_Step_changesByAtMost_72 : decode b_Step_changesByAtMost 72 = .ok (.getfield 18, 3) := by decide +kernel
theorem d_Step_changesByAtMost_75 : decode b_Step_changesByAtMost 75 = .ok (.iconst 5, 1) := by decide +kernel
theorem d_Step_changesByAtMost_76 : decode b_Step_changesByAtMost 76 = .ok (.iaload, 1) := by decide +kernel
theorem d_Step_changesByAtMost_77 : decode b_Step_changesByAtMost 77 = .ok (.imul, 1) := by decide +kernel
theorem d_Step_changesByAtMost_78 : decode b_Step_changesByAtMost 78 = .ok (.iadd, 1) := by decide +kernel
theorem d_Step_changesByAtMost_79 : decode b_Step_changesByAtMost 79 = .ok (.isub, 1) := by decide +kernel
theorem d_Step_changesByAtMost_80 : decode b_Step_changesByAtMost 80 = .ok (.i2l, 1) := by decide +kernel
theorem d_Step_changesByAtMost_81 : decode b_Step_changesByAtMost 81 = .ok (.invokevirtual 47, 3) := by decide +kernel
theorem d_Step_changesByAtMost_84 : decode b_Step_changesByAtMost 84 = .ok (.ireturn, 1) := by decide +kernel
theorem d_Step_isBounded_0 : decode b_Step_isBounded 0 = .ok (.aload_n 0, 1) := by decide +kernel
theorem d_Step_isBounded_1 : decode b_Step_isBounded 1 = .ok (.getfield 12, 3) := by decide +kernel
theorem d_Step_isBounded_4 : decode b_Step_isBounded 4 = .ok (.getfield 40, 3) := by decide +kernel
theorem d_Step_isBounded_7 : decode b_Step_isBounded 7 = .ok (.ifCond .eq 5, 3) := by decide +kernel
theorem d_Step_isBounded_10 : decode b_Step_isBounded 10 = .ok (.iconst 1, 1) := by decide +kernel
theorem d_Step_isBounded_11 : decode b_Step_isBounded 11 = .ok (.ireturn, 1) := by decide +kernel
theorem d_Step_isBounded_12 : decode b_Step_isBounded 12 = .ok (.aload_n 0, 1) := by decide +kernel
theorem d_Step_isBounded_13 : decode b_Step_isBounded 13 = .ok (.getfield 12, 3) := by decide +kernel
theorem d_Step_isBounded_16 : decode b_Step_isBounded 16 = .ok (.iload_n 1, 1) := by decide +kernel
theorem d_Step_isBounded_17 : decode b_Step_isBounded 17 = .ok (.ineg, 1) := by decide +kernel
theorem d_Step_isBounded_18 : decode b_Step_isBounded 18 = .ok (.iload_n 2, 1) := by decide +kernel
theorem d_Step_isBounded_19 : decode b_Step_isBounded 19 = .ok (.ineg, 1) := by decide +kernel
theorem d_Step_isBounded_20 : decode b_Step_isBounded 20 = .ok (.invokevirtual 43, 3) := by decide +kernel
theorem d_Step_isBounded_23 : decode b_Step_isBounded 23 = .ok (.aload_n 0, 1) := by decide +kernel
theorem d_Step_isBounded_24 : decode b_Step_isBounded 24 = .ok (.getfield 12, 3) := by decide +kernel
theorem d_Step_isBounded_27 : decode b_Step_isBounded 27 = .ok (.invokevirtual 51, 3) := by decide +kernel
theorem d_Step_isBounded_30 : decode b_Step_isBounded 30 = .ok (.ireturn, 1) := by decide +kernel
theorem d_Step_findKinds_0 : decode b_Step_findKinds 0 = .ok (.aload_n 0, 1) := by decide +kernel
theorem d_Step_findKinds_1 : decode b_Step_findKinds 1 = .ok (.getfield 25, 3) := by decide +kernel
theorem d_Step_findKinds_4 : decode b_Step_findKinds 4 = .ok (.ifCond .eq 4, 3) := by decide +kernel
theorem d_Step_findKinds_7 : decode b_Step_findKinds 7 = .ok (.return_, 1) := by decide +kernel
theorem d_Step_findKinds_8 : decode b_Step_findKinds 8 = .ok (.aload_n 0, 1) := by decide +kernel
theorem d_Step_findKinds_9 : decode b_Step_findKinds 9 = .ok (.iconst 1, 1) := by decide +kernel
theorem d_Step_findKinds_10 : decode b_Step_findKinds 10 = .ok (.putfield 25, 3) := by decide +kernel
theorem d_Step_findKinds_13 : decode b_Step_findKinds 13 = .ok (.iconst 0, 1) := by decide +kernel
theorem d_Step_findKinds_14 : decode b_Step_findKinds 14 = .ok (.istore_n 3, 1) := by decide +kernel
theorem d_Step_findKinds_15 : decode b_Step_findKinds 15 = .ok (.iload_n 3, 1) := by decide +kernel
theorem d_Step_findKinds_16 : decode b_Step_findKinds 16 = .ok (.bipush 80, 2) := by decide +kernel
theorem d_Step_findKinds_18 : decode b_Step_findKinds 18 = .ok (.if_icmp .ge 77, 3) := by decide +kernel
theorem d_Step_findKinds_21 : decode b_Step_findKinds 21 = .ok (.aload_n 0, 1) := by decide +kernel
theorem d_Step_findKinds_22 : decode b_Step_findKinds 22 = .ok (.aload_n 1, 1) := by decide +kernel
theorem d_Step_findKinds_23 : decode b_Step_findKinds 23 = .ok (.iload_n 3, 1) := by decide +kernel
theorem d_Step_findKinds_24 : decode b_Step_findKinds 24 = .ok (.iaload, 1) := by decide +kernel
theorem d_Step_findKinds_25 : decode b_Step_findKinds 25 = .ok (.aload_n 2, 1) := by decide +kernel
theorem d_Step_findKinds_26 : decode b_Step_findKinds 26 = .ok (.iload_n 3, 1) := by decide +kernel
theorem d_Step_findKinds_27 : decode b_Step_findKinds 27 = .ok (.iaload, 1) := by decide +kernel
theorem d_Step_findKinds_28 : decode b_Step_findKinds 28 = .ok (.iconst 0, 1) := by decide +kernel
theorem d_Step_findKinds_29 : decode b_Step_findKinds 29 = .ok (.invokevirtual 55, 3) := by decide +kernel
theorem d_Step_findKinds_32 : decode b_Step_findKinds 32 = .ok (.ifCond .ne 13, 3) := by decide +kernel
theorem d_Step_findKinds_35 : decode b_Step_findKinds 35 = .ok (.aload_n 0, 1) := by decide +kernel
theorem d_Step_findKinds_36 : decode b_Step_findKinds 36 = .ok (.getfield 22, 3) := by decide +kernel
theorem d_Step_findKinds_39 : decode b_Step_findKinds 39 = .ok (.iload_n 3, 1) := by decide +kernel
theorem d_Step_findKinds_40 : decode b_Step_findKinds 40 = .ok (.iconst 0, 1) := by decide +kernel
theorem d_Step_findKinds_41 : decode b_Step_findKinds 41 = .ok (.iastore, 1) := by decide +kernel
theorem d_Step_findKinds_42 : decode b_Step_findKinds 42 = .ok (.goto 47, 3) := by decide +kernel
theorem d_Step_findKinds_45 : decode b_Step_findKinds 45 = .ok (.aload_n 0, 1) := by decide +kernel
theorem d_Step_findKinds_46 : decode b_Step_findKinds 46 = .ok (.aload_n 1, 1) := by decide +kernel
theorem d_Step_findKinds_47 : decode b_Step_findKinds 47 = .ok (.iload_n 3, 1) := by decide +kernel
theorem d_Step_findKinds_48 : decode b_Step_findKinds 48 = .ok (.iaload, 1) := by decide +kernel
theorem d_Step_findKinds_49 : decode b_Step_findKinds 49 = .ok (.aload_n 2, 1) := by decide +kernel
theorem d_Step_findKinds_50 : decode b_Step_findKinds 50 = .ok (.iload_n 3, 1) := by decide +kernel
theorem d_Step_findKinds_51 : decode b_Step_findKinds 51 = .ok (.iaload, 1) := by decide +kernel
theorem d_Step_findKinds_52 : decode b_Step_findKinds 52 = .ok (.iconst (-1), 1) := by decide +kernel
theorem d_Step_findKinds_53 : decode b_Step_findKinds 53 = .ok (.invokevirtual 55, 3) := by decide +kernel
theorem d_Step_findKinds_56 : decode b_Step_findKinds 56 = .ok (.ifCond .eq 26, 3) := by decide +kernel
theorem d_Step_findKinds_59 : decode b_Step_findKinds 59 = .ok (.aload_n 0, 1) := by decide +kernel
theorem d_Step_findKinds_60 : decode b_Step_findKinds 60 = .ok (.aload_n 1, 1) := by decide +kernel
theorem d_Step_findKinds_61 : decode b_Step_findKinds 61 = .ok (.iload_n 3, 1) := by decide +kernel
theorem d_Step_findKinds_62 : decode b_Step_findKinds 62 = .ok (.iaload, 1) := by decide +kernel
theorem d_Step_findKinds_63 : decode b_Step_findKinds 63 = .ok (.aload_n 2, 1) := by decide +kernel
theorem d_Step_findKinds_64 : decode b_Step_findKinds 64 = .ok (.iload_n 3, 1) := by decide +kernel
theorem d_Step_findKinds_65 : decode b_Step_findKinds 65 = .ok (.iaload, 1) := by decide +kernel
theorem d_Step_findKinds_66 : decode b_Step_findKinds 66 = .ok (.invokevirtual 59, 3) := by decide +kernel
theorem d_Step_findKinds_69 : decode b_Step_findKinds 69 = .ok (.ifCond .eq 13, 3) := by decide +kernel
theorem d_Step_findKinds_72 : decode b_Step_findKinds 72 = .ok (.aload_n 0, 1) := by decide +kernel
theorem d_Step_findKinds_73 : decode b_Step_findKinds 73 = .ok (.getfield 22, 3) := by decide +kernel
theorem d_Step_findKinds_76 : decode b_Step_findKinds 76 = .ok (.iload_n 3, 1) := by decide +kernel
theorem d_Step_findKinds_77 : decode b_Step_findKinds 77 = .ok (.iconst 2, 1) := by decide +kernel
theorem d_Step_findKinds_78 : decode b_Step_findKinds 78 = .ok (.iastore, 1) := by decide +kernel
theorem d_Step_findKinds_79 : decode b_Step_findKinds 79 = .ok (.goto 10, 3) := by decide +kernel
theorem d_Step_findKinds_82 : decode b_Step_findKinds 82 = .ok (.aload_n 0, 1) := by decide +kernel
theorem d_Step_findKinds_83 : decode b_Step_findKinds 83 = .ok (.getfield 22, 3) := by decide +kernel
theorem d_Step_findKinds_86 : decode b_Step_findKinds 86 = .ok (.iload_n 3, 1) := by decide +kernel
theorem d_Step_findKinds_87 : decode b_Step_findKinds 87 = .ok (.iconst 1, 1) := by decide +kernel
theorem d_Step_findKinds_88 : decode b_Step_findKinds 88 = .ok (.iastore, 1) := by decide +kernel
theorem d_Step_findKinds_89 : decode b_Step_findKinds 89 = .ok (.iinc 3 1, 3) := by decide +kernel
theorem d_Step_findKinds_92 : decode b_Step_findKinds 92 = .ok (.goto (-77), 3) := by decide +kernel
theorem d_Step_findKinds_95 : decode b_Step_findKinds 95 = .ok (.return_, 1) := by decide +kernel
end
section
section CT
variable {l : Launch} {D : va_G} {cI cJ cS : ClassId}
set_option maxHeartbeats 4000000 in
set_option maxRecDepth 100000 in
theorem c_Step_setRule (so g a1 a2 a3 a4 a5 : Nat) (fp fq fr : Nat → Int32) (n : Nat) (em : Int32) (top bot : Int64) (ru kd : Nat → Int32) (kf : Int32) (v ka kb kc : Int32) : wk_kv l y_Step_setRule (Cond.code y_Step_setRule b_Step_setRule 6 none :: BW) rm_Step_setRule D cls (kT cI cJ cS) nz [.ref so, .int v, .int ka, .int kb, .int kc] (sW cI so g a1 a2 a3 a4 a5 fp fq fr n em top bot ru kd kf) (fun u => u = sW cI so g a1 a2 a3 a4 a5 fp fq fr n em top bot (s_set ru v ka kb kc) kd 0) := by
  refine ws_v (plainFor_of_name (by decide)) (Nat.le_of_ble_eq_true rfl) ?_
  intro p e s m below meth c A ls Q X hret hl hP hD hS
  obtain ⟨H, hH⟩ : ∃ H, H = s.heap := ⟨_, rfl⟩
  obtain ⟨locs, hlo⟩ : ∃ locs : List Loc, locs = [] := ⟨_, rfl⟩
  have hP : va_P D cls (sW cI so g a1 a2 a3 a4 a5 fp fq fr n em top bot ru kd kf) H := by rw [hH]; exact hP
  have hS : va_S A s.heap H locs := by rw [hH, hlo]; exact hS
  suffices hgo : W p l e rm_Step_setRule s m ([.ref so, .int v, .int ka, .int kb, .int kc] : List Value).toArray below meth c H locs 0 0 Q (F0 m 0 ls ([])) by rw [hH, hlo] at hgo; exact hgo
  clear hH hlo
  have hl : lv_has ls 6 [(0, .ref so), (1, .int v), (2, .int ka), (3, .int kb), (4, .int kc)] := hl
  refine lv_iload_n X.1.1 X.1.2.1 d_Step_setRule_0 rfl (lv_at hl 1 rfl) ?_
  refine lv_if_ne (tgt := 8) X.1.1 X.1.2.1 d_Step_setRule_1 (by decide) (fun h1 => ?_) (fun h1 => ?_)
  · refine lv_iconst (v := (3 : Int32)) X.1.1 X.1.2.1 d_Step_setRule_8 (by decide) ?_
    refine lv_istore X.1.1 X.1.2.1 d_Step_setRule_9 hl (by decide) rfl (fun ls hl => ?_)
    have hl : lv_has ls 6 [(5, .int (3 : Int32)), (0, .ref so), (1, .int v), (2, .int ka), (3, .int kb), (4, .int kc)] := hl
    refine lv_aload_n X.1.1 X.1.2.1 d_Step_setRule_11 rfl (lv_at hl 1 rfl) ?_
    refine fg_Step_18 X hP 0 rfl rfl d_Step_setRule_12 ?_
    refine lv_iload X.1.1 X.1.2.1 d_Step_setRule_15 (lv_at hl 0 rfl) ?_
    refine lv_iload_n X.1.1 X.1.2.1 d_Step_setRule_17 rfl (lv_at hl 3 rfl) ?_
    refine wa_ist X.1.1 X.1.2.1 X.2.1 hP hD hS 5 0 rfl rfl 3 rfl (by omega) (by decide) d_Step_setRule_18 (fun H locs hP hD hS => ?_)
    have hP : va_P D cls (sW cI so g a1 a2 a3 a4 a5 fp fq fr n em top bot (upd ru 3 ka) kd kf) H := hP
    have hD : va_D A (sW cI so g a1 a2 a3 a4 a5 fp fq fr n em top bot (upd ru 3 ka) kd kf) := hD
    refine lv_aload_n X.1.1 X.1.2.1 d_Step_setRule_19 rfl (lv_at hl 1 rfl) ?_
    refine fg_Step_18 X hP 0 rfl rfl d_Step_setRule_20 ?_
    refine lv_iload X.1.1 X.1.2.1 d_Step_setRule_23 (lv_at hl 0 rfl) ?_
    refine lv_iconst (v := (1 : Int32)) X.1.1 X.1.2.1 d_Step_setRule_25 (by decide) ?_
    refine wn_add (a := 3) (b := 1) X.1.1 X.1.2.1 d_Step_setRule_26 ?_
    refine lv_iload_n X.1.1 X.1.2.1 d_Step_setRule_27 rfl (lv_at hl 4 rfl) ?_
    refine wa_ist X.1.1 X.1.2.1 X.2.1 hP hD hS 5 0 rfl rfl 4 rfl (by omega) (by decide) d_Step_setRule_28 (fun H locs hP hD hS => ?_)
    have hP : va_P D cls (sW cI so g a1 a2 a3 a4 a5 fp fq fr n em top bot (upd (upd ru 3 ka) 4 kb) kd kf) H := hP
    have hD : va_D A (sW cI so g a1 a2 a3 a4 a5 fp fq fr n em top bot (upd (upd ru 3 ka) 4 kb) kd kf) := hD
    refine lv_aload_n X.1.1 X.1.2.1 d_Step_setRule_29 rfl (lv_at hl 1 rfl) ?_
    refine fg_Step_18 X hP 0 rfl rfl d_Step_setRule_30 ?_
    refine lv_iload X.1.1 X.1.2.1 d_Step_setRule_33 (lv_at hl 0 rfl) ?_
    refine lv_iconst (v := (2 : Int32)) X.1.1 X.1.2.1 d_Step_setRule_35 (by decide) ?_
    refine wn_add (a := 3) (b := 2) X.1.1 X.1.2.1 d_Step_setRule_36 ?_
    refine lv_iload X.1.1 X.1.2.1 d_Step_setRule_37 (lv_at hl 5 rfl) ?_
    refine wa_ist X.1.1 X.1.2.1 X.2.1 hP hD hS 5 0 rfl rfl 5 rfl (by omega) (by decide) d_Step_setRule_39 (fun H locs hP hD hS => ?_)
    have hP : va_P D cls (sW cI so g a1 a2 a3 a4 a5 fp fq fr n em top bot (upd (upd (upd ru 3 ka) 4 kb) 5 kc) kd kf) H := hP
    have hD : va_D A (sW cI so g a1 a2 a3 a4 a5 fp fq fr n em top bot (upd (upd (upd ru 3 ka) 4 kb) 5 kc) kd kf) := hD
    refine lv_aload_n X.1.1 X.1.2.1 d_Step_setRule_40 rfl (lv_at hl 1 rfl) ?_
    refine lv_iconst (v := (0 : Int32)) X.1.1 X.1.2.1 d_Step_setRule_41 (by decide) ?_
    refine fp_Step_25 X hP hD hS 0 rfl rfl rfl rfl d_Step_setRule_42 (fun H locs hP hD hS => ?_)
    have hP : va_P D cls (sW cI so g a1 a2 a3 a4 a5 fp fq fr n em top bot (upd (upd (upd ru 3 ka) 4 kb) 5 kc) kd (0 : Int32)) H := hP
    have hD : va_D A (sW cI so g a1 a2 a3 a4 a5 fp fq fr n em top bot (upd (upd (upd ru 3 ka) 4 kb) 5 kc) kd (0 : Int32)) := hD
    exact hret 45 H locs ls _ hP hD hS d_Step_setRule_45 (by simp [s_set, h1])
  · refine lv_iconst (v := (0 : Int32)) X.1.1 X.1.2.1 d_Step_setRule_4 (by decide) ?_
    refine lv_goto (tgt := 9) X.1.1 X.1.2.1 d_Step_setRule_5 (by decide) ?_
    refine lv_istore X.1.1 X.1.2.1 d_Step_setRule_9 hl (by decide) rfl (fun ls hl => ?_)
    have hl : lv_has ls 6 [(5, .int (0 : Int32)), (0, .ref so), (1, .int v), (2, .int ka), (3, .int kb), (4, .int kc)] := hl
    refine lv_aload_n X.1.1 X.1.2.1 d_Step_setRule_11 rfl (lv_at hl 1 rfl) ?_
    refine fg_Step_18 X hP 0 rfl rfl d_Step_setRule_12 ?_
    refine lv_iload X.1.1 X.1.2.1 d_Step_setRule_15 (lv_at hl 0 rfl) ?_
    refine lv_iload_n X.1.1 X.1.2.1 d_Step_setRule_17 rfl (lv_at hl 3 rfl) ?_
    refine wa_ist X.1.1 X.1.2.1 X.2.1 hP hD hS 5 0 rfl rfl 0 rfl (by omega) (by decide) d_Step_setRule_18 (fun H locs hP hD hS => ?_)
    have hP : va_P D cls (sW cI so g a1 a2 a3 a4 a5 fp fq fr n em top bot (upd ru 0 ka) kd kf) H := hP
    have hD : va_D A (sW cI so g a1 a2 a3 a4 a5 fp fq fr n em top bot (upd ru 0 ka) kd kf) := hD
    refine lv_aload_n X.1.1 X.1.2.1 d_Step_setRule_19 rfl (lv_at hl 1 rfl) ?_
    refine fg_Step_18 X hP 0 rfl rfl d_Step_setRule_20 ?_
    refine lv_iload X.1.1 X.1.2.1 d_Step_setRule_23 (lv_at hl 0 rfl) ?_
    refine lv_iconst (v := (1 : Int32)) X.1.1 X.1.2.1 d_Step_setRule_25 (by decide) ?_
    refine wn_add (a := 0) (b := 1) X.1.1 X.1.2.1 d_Step_setRule_26 ?_
    refine lv_iload_n X.1.1 X.1.2.1 d_Step_setRule_27 rfl (lv_at hl 4 rfl) ?_
    refine wa_ist X.1.1 X.1.2.1 X.2.1 hP hD hS 5 0 rfl rfl 1 rfl (by omega) (by decide) d_Step_setRule_28 (fun H locs hP hD hS => ?_)
    have hP : va_P D cls (sW cI so g a1 a2 a3 a4 a5 fp fq fr n em top bot (upd (upd ru 0 ka) 1 kb) kd kf) H := hP
    have hD : va_D A (sW cI so g a1 a2 a3 a4 a5 fp fq fr n em top bot (upd (upd ru 0 ka) 1 kb) kd kf) := hD
    refine lv_aload_n X.1.1 X.1.2.1 d_Step_setRule_29 rfl (lv_at hl 1 rfl) ?_
    refine fg_Step_18 X hP 0 rfl rfl d_Step_setRule_30 ?_
    refine lv_iload X.1.1 X.1.2.1 d_Step_setRule_33 (lv_at hl 0 rfl) ?_
    refine lv_iconst (v := (2 : Int32)) X.1.1 X.1.2.1 d_Step_setRule_35 (by decide) ?_
    refine wn_add (a := 0) (b := 2) X.1.1 X.1.2.1 d_Step_setRule_36 ?_
    refine lv_iload X.1.1 X.1.2.1 d_Step_setRule_37 (lv_at hl 5 rfl) ?_
    refine wa_ist X.1.1 X.1.2.1 X.2.1 hP hD hS 5 0 rfl rfl 2 rfl (by omega) (by decide) d_Step_setRule_39 (fun H locs hP hD hS => ?_)
    have hP : va_P D cls (sW cI so g a1 a2 a3 a4 a5 fp fq fr n em top bot (upd (upd (upd ru 0 ka) 1 kb) 2 kc) kd kf) H := hP
    have hD : va_D A (sW cI so g a1 a2 a3 a4 a5 fp fq fr n em top bot (upd (upd (upd ru 0 ka) 1 kb) 2 kc) kd kf) := hD
    refine lv_aload_n X.1.1 X.1.2.1 d_Step_setRule_40 rfl (lv_at hl 1 rfl) ?_
    refine lv_iconst (v := (0 : Int32)) X.1.1 X.1.2.1 d_Step_setRule_41 (by decide) ?_
    refine fp_Step_25 X hP hD hS 0 rfl rfl rfl rfl d_Step_setRule_42 (fun H locs hP hD hS => ?_)
    have hP : va_P D cls (sW cI so g a1 a2 a3 a4 a5 fp fq fr n em top bot (upd (upd (upd ru 0 ka) 1 kb) 2 kc) kd (0 : Int32)) H := hP
    have hD : va_D A (sW cI so g a1 a2 a3 a4 a5 fp fq fr n em top bot (upd (upd (upd ru 0 ka) 1 kb) 2 kc) kd (0 : Int32)) := hD
    exact hret 45 H locs ls _ hP hD hS d_Step_setRule_45 (by simp [s_set, h1])
set_option maxHeartbeats 4000000 in
set_option maxRecDepth 100000 in
theorem c_Step_reset (so g a1 a2 a3 a4 a5 : Nat) (fp fq fr : Nat → Int32) (n : Nat) (em : Int32) (top bot : Int64) (ru kd : Nat → Int32) (kf : Int32) : wk_kv l y_Step_reset (Cond.code y_Step_reset b_Step_reset 1 none :: BW) rm_Step_reset D cls (kT cI cJ cS) nz [.ref so] (sW cI so g a1 a2 a3 a4 a5 fp fq fr n em top bot ru kd kf) (fun u => u = sW cI so g a1 a2 a3 a4 a5 fp fq fr 0 0 0 0 (s_set (s_set ru 0 1 0 0) 1 0 1 0) kd 0) := by
  refine ws_v (plainFor_of_name (by decide)) (Nat.le_of_ble_eq_true rfl) ?_
  intro p e s m below meth c A ls Q X hret hl hP hD hS
  obtain ⟨H, hH⟩ : ∃ H, H = s.heap := ⟨_, rfl⟩
  obtain ⟨locs, hlo⟩ : ∃ locs : List Loc, locs = [] := ⟨_, rfl⟩
  have hP : va_P D cls (sW cI so g a1 a2 a3 a4 a5 fp fq fr n em top bot ru kd kf) H := by rw [hH]; exact hP
  have hS : va_S A s.heap H locs := by rw [hH, hlo]; exact hS
  suffices hgo : W p l e rm_Step_reset s m ([.ref so] : List Value).toArray below meth c H locs 0 0 Q (F0 m 0 ls ([])) by rw [hH, hlo] at hgo; exact hgo
  clear hH hlo
  have hl : lv_has ls 1 [(0, .ref so)] := hl
  refine lv_aload_n X.1.1 X.1.2.1 d_Step_reset_0 rfl (lv_at hl 0 rfl) ?_
  refine fg_Step_12 X hP 0 rfl rfl d_Step_reset_1 ?_
  refine wc_Nv [] 0 0 X nz_nest (c_Guard_clear g a1 a2 a3 fp fq fr n em top bot  ) (cw_Step_29 X.1.2.2.2.2 X.2.2.1 (by decide)) ([(so, .inr (1, [.ref g, .ref a4, .ref a5, .int kf]))]) ([(a4, .inl (cI, 6, .inl ru)), (a5, .inl (cI, 80, .inl kd))]) (rfl) hP hD hS rfl rfl rfl rfl hl.1 (Nat.le_of_ble_eq_true rfl) (by decide) d_Step_reset_4 (fun H locs wn hwn hP hD hS => ?_)
  subst hwn
  have hP : va_P D cls (sW cI so g a1 a2 a3 a4 a5 fp fq fr 0 0 0 0 ru kd kf) H := hP
  have hD : va_D A (sW cI so g a1 a2 a3 a4 a5 fp fq fr 0 0 0 0 ru kd kf) := hD
  refine lv_aload_n X.1.1 X.1.2.1 d_Step_reset_7 rfl (lv_at hl 0 rfl) ?_
  refine lv_iconst (v := (0 : Int32)) X.1.1 X.1.2.1 d_Step_reset_8 (by decide) ?_
  refine lv_iconst (v := (1 : Int32)) X.1.1 X.1.2.1 d_Step_reset_9 (by decide) ?_
  refine lv_iconst (v := (0 : Int32)) X.1.1 X.1.2.1 d_Step_reset_10 (by decide) ?_
  refine lv_iconst (v := (0 : Int32)) X.1.1 X.1.2.1 d_Step_reset_11 (by decide) ?_
  refine wc_Vv [.int (0 : Int32), .int (1 : Int32), .int (0 : Int32), .int (0 : Int32)] 1 0 X nz_nest (c_Step_setRule so g a1 a2 a3 a4 a5 fp fq fr 0 0 0 0 ru kd kf (0 : Int32) (1 : Int32) (0 : Int32) (0 : Int32) ) (cw_Step_32 X.1.2.2.2.2 X.2.2.1 (by decide)) ([]) ([]) (rfl) hP hD hS rfl rfl rfl rfl hl.1 (Nat.le_of_ble_eq_true rfl) (by decide) d_Step_reset_12 (fun H locs wn hwn hP hD hS => ?_)
  subst hwn
  have hP : va_P D cls (sW cI so g a1 a2 a3 a4 a5 fp fq fr 0 0 0 0 (s_set ru (0 : Int32) (1 : Int32) (0 : Int32) (0 : Int32)) kd 0) H := hP
  have hD : va_D A (sW cI so g a1 a2 a3 a4 a5 fp fq fr 0 0 0 0 (s_set ru (0 : Int32) (1 : Int32) (0 : Int32) (0 : Int32)) kd 0) := hD
  refine lv_aload_n X.1.1 X.1.2.1 d_Step_reset_15 rfl (lv_at hl 0 rfl) ?_
  refine lv_iconst (v := (1 : Int32)) X.1.1 X.1.2.1 d_Step_reset_16 (by decide) ?_
  refine lv_iconst (v := (0 : Int32)) X.1.1 X.1.2.1 d_Step_reset_17 (by decide) ?_
  refine lv_iconst (v := (1 : Int32)) X.1.1 X.1.2.1 d_Step_reset_18 (by decide) ?_
  refine lv_iconst (v := (0 : Int32)) X.1.1 X.1.2.1 d_Step_reset_19 (by decide) ?_
  refine wc_Vv [.int (1 : Int32), .int (0 : Int32), .int (1 : Int32), .int (0 : Int32)] 1 0 X nz_nest (c_Step_setRule so g a1 a2 a3 a4 a5 fp fq fr 0 0 0 0 (s_set ru (0 : Int32) (1 : Int32) (0 : Int32) (0 : Int32)) kd 0 (1 : Int32) (0 : Int32) (1 : Int32) (0 : Int32) ) (cw_Step_32 X.1.2.2.2.2 X.2.2.1 (by decide)) ([]) ([]) (rfl) hP hD hS rfl rfl rfl rfl hl.1 (Nat.le_of_ble_eq_true rfl) (by decide) d_Step_reset_20 (fun H locs wn hwn hP hD hS => ?_)
  subst hwn
  have hP : va_P D cls (sW cI so g a1 a2 a3 a4 a5 fp fq fr 0 0 0 0 (s_set (s_set ru (0 : Int32) (1 : Int32) (0 : Int32) (0 : Int32)) (1 : Int32) (0 : Int32) (1 : Int32) (0 : Int32)) kd 0) H := hP
  have hD : va_D A (sW cI so g a1 a2 a3 a4 a5 fp fq fr 0 0 0 0 (s_set (s_set ru (0 : Int32) (1 : Int32) (0 : Int32) (0 : Int32)) (1 : Int32) (0 : Int32) (1 : Int32) (0 : Int32)) kd 0) := hD
  exact hret 23 H locs ls _ hP hD hS d_Step_reset_23 (rfl)
set_option maxHeartbeats 4000000 in
set_option maxRecDepth 100000 in
theorem c_Step_addRow (so g a1 a2 a3 a4 a5 : Nat) (fp fq fr : Nat → Int32) (n : Nat) (em : Int32) (top bot : Int64) (ru kd : Nat → Int32) (kf : Int32) (np nq nr : Int32) (hn : n < 4) : wk_kv l y_Step_addRow (Cond.code y_Step_addRow b_Step_addRow 4 none :: BW) rm_Step_addRow D cls (kT cI cJ cS) nz [.ref so, .int np, .int nq, .int nr] (sW cI so g a1 a2 a3 a4 a5 fp fq fr n em top bot ru kd kf) (fun u => ∃ t b, u = sW cI so g a1 a2 a3 a4 a5 (upd fp n np) (upd fq n nq) (upd fr n nr) (n + 1) (g_em fp fq fr n em np nq nr) t b ru kd 0) := by
  refine ws_v (plainFor_of_name (by decide)) (Nat.le_of_ble_eq_true rfl) ?_
  intro p e s m below meth c A ls Q X hret hl hP hD hS
  obtain ⟨H, hH⟩ : ∃ H, H = s.heap := ⟨_, rfl⟩
  obtain ⟨locs, hlo⟩ : ∃ locs : List Loc, locs = [] := ⟨_, rfl⟩
  have hP : va_P D cls (sW cI so g a1 a2 a3 a4 a5 fp fq fr n em top bot ru kd kf) H := by rw [hH]; exact hP
  have hS : va_S A s.heap H locs := by rw [hH, hlo]; exact hS
  suffices hgo : W p l e rm_Step_addRow s m ([.ref so, .int np, .int nq, .int nr] : List Value).toArray below meth c H locs 0 0 Q (F0 m 0 ls ([])) by rw [hH, hlo] at hgo; exact hgo
  clear hH hlo
  have hl : lv_has ls 4 [(0, .ref so), (1, .int np), (2, .int nq), (3, .int nr)] := hl
  refine lv_aload_n X.1.1 X.1.2.1 d_Step_addRow_0 rfl (lv_at hl 0 rfl) ?_
  refine fg_Step_12 X hP 0 rfl rfl d_Step_addRow_1 ?_
  refine lv_iload_n X.1.1 X.1.2.1 d_Step_addRow_4 rfl (lv_at hl 1 rfl) ?_
  refine lv_iload_n X.1.1 X.1.2.1 d_Step_addRow_5 rfl (lv_at hl 2 rfl) ?_
  refine lv_iload_n X.1.1 X.1.2.1 d_Step_addRow_6 rfl (lv_at hl 3 rfl) ?_
  refine wc_Nv [.int np, .int nq, .int nr] 0 0 X nz_nest (c_Guard_add g a1 a2 a3 fp fq fr n em top bot np nq nr (by omega)) (cw_Step_36 X.1.2.2.2.2 X.2.2.1 (by decide)) ([(so, .inr (1, [.ref g, .ref a4, .ref a5, .int kf]))]) ([(a4, .inl (cI, 6, .inl ru)), (a5, .inl (cI, 80, .inl kd))]) (rfl) hP hD hS rfl rfl rfl rfl hl.1 (Nat.le_of_ble_eq_true rfl) (by decide) d_Step_addRow_7 (fun H locs wn hwn hP hD hS => ?_)
  obtain ⟨t9, b9, rfl⟩ := hwn
  have hP : va_P D cls (sW cI so g a1 a2 a3 a4 a5 (upd fp n np) (upd fq n nq) (upd fr n nr) (n + 1) (g_em fp fq fr n em np nq nr) t9 b9 ru kd kf) H := hP
  have hD : va_D A (sW cI so g a1 a2 a3 a4 a5 (upd fp n np) (upd fq n nq) (upd fr n nr) (n + 1) (g_em fp fq fr n em np nq nr) t9 b9 ru kd kf) := hD
  refine lv_aload_n X.1.1 X.1.2.1 d_Step_addRow_10 rfl (lv_at hl 0 rfl) ?_
  refine lv_iconst (v := (0 : Int32)) X.1.1 X.1.2.1 d_Step_addRow_11 (by decide) ?_
  refine fp_Step_25 X hP hD hS 0 rfl rfl rfl rfl d_Step_addRow_12 (fun H locs hP hD hS => ?_)
  have hP : va_P D cls (sW cI so g a1 a2 a3 a4 a5 (upd fp n np) (upd fq n nq) (upd fr n nr) (n + 1) (g_em fp fq fr n em np nq nr) t9 b9 ru kd (0 : Int32)) H := hP
  have hD : va_D A (sW cI so g a1 a2 a3 a4 a5 (upd fp n np) (upd fq n nq) (upd fr n nr) (n + 1) (g_em fp fq fr n em np nq nr) t9 b9 ru kd (0 : Int32)) := hD
  exact hret 15 H locs ls _ hP hD hS d_Step_addRow_15 (⟨_, _, rfl⟩)
set_option maxHeartbeats 4000000 in
set_option maxRecDepth 100000 in
theorem c_Step_next (so g a1 a2 a3 a4 a5 : Nat) (fp fq fr : Nat → Int32) (n : Nat) (em : Int32) (top bot : Int64) (ru kd : Nat → Int32) (kf : Int32) (v : Int32) (x y : Int64) : wk_kl l y_Step_next (Cond.code y_Step_next b_Step_next 7 (some .long) :: BW) rm_Step_next D cls (kT cI cJ cS) nz [.ref so, .int v, .long x, .long y] (sW cI so g a1 a2 a3 a4 a5 fp fq fr n em top bot ru kd kf) (fun u => u = sW cI so g a1 a2 a3 a4 a5 fp fq fr n em top bot ru kd kf) (s_next ru v x y) := by
  refine ws_l (plainFor_of_name (by decide)) (Nat.le_of_ble_eq_true rfl) ?_
  intro p e s m below meth c A ls Q X hret hl hP hD hS
  obtain ⟨H, hH⟩ : ∃ H, H = s.heap := ⟨_, rfl⟩
  obtain ⟨locs, hlo⟩ : ∃ locs : List Loc, locs = [] := ⟨_, rfl⟩
  have hP : va_P D cls (sW cI so g a1 a2 a3 a4 a5 fp fq fr n em top bot ru kd kf) H := by rw [hH]; exact hP
  have hS : va_S A s.heap H locs := by rw [hH, hlo]; exact hS
  suffices hgo : W p l e rm_Step_next s m ([.ref so, .int v, .long x, .long y] : List Value).toArray below meth c H locs 0 0 Q (F0 m 0 ls ([])) by rw [hH, hlo] at hgo; exact hgo
  clear hH hlo
  have hl : lv_has ls 7 [(0, .ref so), (1, .int v), (2, .long x), (4, .long y)] := hl
  refine lv_iload_n X.1.1 X.1.2.1 d_Step_next_0 rfl (lv_at hl 1 rfl) ?_
  refine lv_if_ne (tgt := 8) X.1.1 X.1.2.1 d_Step_next_1 (by decide) (fun h1 => ?_) (fun h1 => ?_)
  · refine lv_iconst (v := (3 : Int32)) X.1.1 X.1.2.1 d_Step_next_8 (by decide) ?_
    refine lv_istore X.1.1 X.1.2.1 d_Step_next_9 hl (by decide) rfl (fun ls hl => ?_)
    have hl : lv_has ls 7 [(6, .int (3 : Int32)), (0, .ref so), (1, .int v), (2, .long x), (4, .long y)] := hl
    refine lv_aload_n X.1.1 X.1.2.1 d_Step_next_11 rfl (lv_at hl 1 rfl) ?_
    refine fg_Step_18 X hP 0 rfl rfl d_Step_next_12 ?_
    refine lv_iload X.1.1 X.1.2.1 d_Step_next_15 (lv_at hl 0 rfl) ?_
    refine wa_ild X.1.1 X.1.2.1 X.2.1 hP 5 0 rfl rfl 3 rfl (by omega) (by decide) d_Step_next_17 ?_
    refine lv_i2l X.1.1 X.1.2.1 d_Step_next_18 rfl ?_
    refine lv_lload_n X.1.1 X.1.2.1 d_Step_next_19 rfl (lv_at hl 3 rfl) ?_
    refine lv_lmul X.1.1 X.1.2.1 d_Step_next_20 ?_
    refine lv_aload_n X.1.1 X.1.2.1 d_Step_next_21 rfl (lv_at hl 1 rfl) ?_
    refine fg_Step_18 X hP 0 rfl rfl d_Step_next_22 ?_
    refine lv_iload X.1.1 X.1.2.1 d_Step_next_25 (lv_at hl 0 rfl) ?_
    refine lv_iconst (v := (1 : Int32)) X.1.1 X.1.2.1 d_Step_next_27 (by decide) ?_
    refine wn_add (a := 3) (b := 1) X.1.1 X.1.2.1 d_Step_next_28 ?_
    refine wa_ild X.1.1 X.1.2.1 X.2.1 hP 5 0 rfl rfl 4 rfl (by omega) (by decide) d_Step_next_29 ?_
    refine lv_i2l X.1.1 X.1.2.1 d_Step_next_30 rfl ?_
    refine lv_lload X.1.1 X.1.2.1 d_Step_next_31 (lv_at hl 4 rfl) ?_
    refine lv_lmul X.1.1 X.1.2.1 d_Step_next_33 ?_
    refine lv_ladd X.1.1 X.1.2.1 d_Step_next_34 ?_
    refine lv_aload_n X.1.1 X.1.2.1 d_Step_next_35 rfl (lv_at hl 1 rfl) ?_
    refine fg_Step_18 X hP 0 rfl rfl d_Step_next_36 ?_
    refine lv_iload X.1.1 X.1.2.1 d_Step_next_39 (lv_at hl 0 rfl) ?_
    refine lv_iconst (v := (2 : Int32)) X.1.1 X.1.2.1 d_Step_next_41 (by decide) ?_
    refine wn_add (a := 3) (b := 2) X.1.1 X.1.2.1 d_Step_next_42 ?_
    refine wa_ild X.1.1 X.1.2.1 X.2.1 hP 5 0 rfl rfl 5 rfl (by omega) (by decide) d_Step_next_43 ?_
    refine lv_i2l X.1.1 X.1.2.1 d_Step_next_44 rfl ?_
    refine lv_ladd X.1.1 X.1.2.1 d_Step_next_45 ?_
    exact hret 46 H locs ls _ _ hP hD hS d_Step_next_46 (by simp [s_next, h1]) (rfl)
  · refine lv_iconst (v := (0 : Int32)) X.1.1 X.1.2.1 d_Step_next_4 (by decide) ?_
    refine lv_goto (tgt := 9) X.1.1 X.1.2.1 d_Step_next_5 (by decide) ?_
    refine lv_istore X.1.1 X.1.2.1 d_Step_next_9 hl (by decide) rfl (fun ls hl => ?_)
    have hl : lv_has ls 7 [(6, .int (0 : Int32)), (0, .ref so), (1, .int v), (2, .long x), (4, .long y)] := hl
    refine lv_aload_n X.1.1 X.1.2.1 d_Step_next_11 rfl (lv_at hl 1 rfl) ?_
    refine fg_Step_18 X hP 0 rfl rfl d_Step_next_12 ?_
    refine lv_iload X.1.1 X.1.2.1 d_Step_next_15 (lv_at hl 0 rfl) ?_
    refine wa_ild X.1.1 X.1.2.1 X.2.1 hP 5 0 rfl rfl 0 rfl (by omega) (by decide) d_Step_next_17 ?_
    refine lv_i2l X.1.1 X.1.2.1 d_Step_next_18 rfl ?_
    refine lv_lload_n X.1.1 X.1.2.1 d_Step_next_19 rfl (lv_at hl 3 rfl) ?_
    refine lv_lmul X.1.1 X.1.2.1 d_Step_next_20 ?_
    refine lv_aload_n X.1.1 X.1.2.1 d_Step_next_21 rfl (lv_at hl 1 rfl) ?_
    refine fg_Step_18 X hP 0 rfl rfl d_Step_next_22 ?_
    refine lv_iload X.1.1 X.1.2.1 d_Step_next_25 (lv_at hl 0 rfl) ?_
    refine lv_iconst (v := (1 : Int32)) X.1.1 X.1.2.1 d_Step_next_27 (by decide) ?_
    refine wn_add (a := 0) (b := 1) X.1.1 X.1.2.1 d_Step_next_28 ?_
    refine wa_ild X.1.1 X.1.2.1 X.2.1 hP 5 0 rfl rfl 1 rfl (by omega) (by decide) d_Step_next_29 ?_
    refine lv_i2l X.1.1 X.1.2.1 d_Step_next_30 rfl ?_
    refine lv_lload X.1.1 X.1.2.1 d_Step_next_31 (lv_at hl 4 rfl) ?_
    refine lv_lmul X.1.1 X.1.2.1 d_Step_next_33 ?_
    refine lv_ladd X.1.1 X.1.2.1 d_Step_next_34 ?_
    refine lv_aload_n X.1.1 X.1.2.1 d_Step_next_35 rfl (lv_at hl 1 rfl) ?_
    refine fg_Step_18 X hP 0 rfl rfl d_Step_next_36 ?_
    refine lv_iload X.1.1 X.1.2.1 d_Step_next_39 (lv_at hl 0 rfl) ?_
    refine lv_iconst (v := (2 : Int32)) X.1.1 X.1.2.1 d_Step_next_41 (by decide) ?_
    refine wn_add (a := 0) (b := 2) X.1.1 X.1.2.1 d_Step_next_42 ?_
    refine wa_ild X.1.1 X.1.2.1 X.2.1 hP 5 0 rfl rfl 2 rfl (by omega) (by decide) d_Step_next_43 ?_
    refine lv_i2l X.1.1 X.1.2.1 d_Step_next_44 rfl ?_
    refine lv_ladd X.1.1 X.1.2.1 d_Step_next_45 ?_
    exact hret 46 H locs ls _ _ hP hD hS d_Step_next_46 (by simp [s_next, h1]) (rfl)
set_option maxHeartbeats 4000000 in
set_option maxRecDepth 100000 in
theorem c_Step_changesByAtMost (so g a1 a2 a3 a4 a5 : Nat) (fp fq fr : Nat → Int32) (n : Nat) (em : Int32) (top bot : Int64) (ru kd : Nat → Int32) (kf : Int32) (u v most : Int32) (hn : n ≤ 4) : wk_ki l y_Step_changesByAtMost (Cond.code y_Step_changesByAtMost b_Step_changesByAtMost 4 (some .boolean) :: BW) rm_Step_changesByAtMost D cls (kT cI cJ cS) nz [.ref so, .int u, .int v, .int most] (sW cI so g a1 a2 a3 a4 a5 fp fq fr n em top bot ru kd kf) (fun u => ∃ t b, u = sW cI so g a1 a2 a3 a4 a5 fp fq fr n em t b ru kd kf) (s_chg fp fq fr n em ru u v most) := by
  refine ws_z (plainFor_of_name (by decide)) (Nat.le_of_ble_eq_true rfl) ?_
  intro p e s m below meth c A ls Q X hret hl hP hD hS
  obtain ⟨H, hH⟩ : ∃ H, H = s.heap := ⟨_, rfl⟩
  obtain ⟨locs, hlo⟩ : ∃ locs : List Loc, locs = [] := ⟨_, rfl⟩
  have hP : va_P D cls (sW cI so g a1 a2 a3 a4 a5 fp fq fr n em top bot ru kd kf) H := by rw [hH]; exact hP
  have hS : va_S A s.heap H locs := by rw [hH, hlo]; exact hS
  suffices hgo : W p l e rm_Step_changesByAtMost s m ([.ref so, .int u, .int v, .int most] : List Value).toArray below meth c H locs 0 0 Q (F0 m 0 ls ([])) by rw [hH, hlo] at hgo; exact hgo
  clear hH hlo
  have hl : lv_has ls 4 [(0, .ref so), (1, .int u), (2, .int v), (3, .int most)] := hl
  refine lv_aload_n X.1.1 X.1.2.1 d_Step_changesByAtMost_0 rfl (lv_at hl 0 rfl) ?_
  refine fg_Step_12 X hP 0 rfl rfl d_Step_changesByAtMost_1 ?_
  refine fg_Step_40 X hP 1 rfl rfl d_Step_changesByAtMost_4 ?_
  refine lv_if_eq (tgt := 12) X.1.1 X.1.2.1 d_Step_changesByAtMost_7 (by decide) (fun h7 => ?_) (fun h7 => ?_)
  · refine lv_aload_n X.1.1 X.1.2.1 d_Step_changesByAtMost_12 rfl (lv_at hl 0 rfl) ?_
    refine fg_Step_12 X hP 0 rfl rfl d_Step_changesByAtMost_13 ?_
    refine lv_iload_n X.1.1 X.1.2.1 d_Step_changesByAtMost_16 rfl (lv_at hl 1 rfl) ?_
    refine lv_aload_n X.1.1 X.1.2.1 d_Step_changesByAtMost_17 rfl (lv_at hl 0 rfl) ?_
    refine fg_Step_18 X hP 0 rfl rfl d_Step_changesByAtMost_18 ?_
    refine lv_iconst (v := (0 : Int32)) X.1.1 X.1.2.1 d_Step_changesByAtMost_21 (by decide) ?_
    refine wa_ild X.1.1 X.1.2.1 X.2.1 hP 5 0 rfl rfl 0 rfl (by omega) (by decide) d_Step_changesByAtMost_22 ?_
    refine lv_imul X.1.1 X.1.2.1 d_Step_changesByAtMost_23 ?_
    refine lv_iload_n X.1.1 X.1.2.1 d_Step_changesByAtMost_24 rfl (lv_at hl 2 rfl) ?_
    refine lv_aload_n X.1.1 X.1.2.1 d_Step_changesByAtMost_25 rfl (lv_at hl 0 rfl) ?_
    refine fg_Step_18 X hP 0 rfl rfl d_Step_changesByAtMost_26 ?_
    refine lv_iconst (v := (3 : Int32)) X.1.1 X.1.2.1 d_Step_changesByAtMost_29 (by decide) ?_
    refine wa_ild X.1.1 X.1.2.1 X.2.1 hP 5 0 rfl rfl 3 rfl (by omega) (by decide) d_Step_changesByAtMost_30 ?_
    refine lv_imul X.1.1 X.1.2.1 d_Step_changesByAtMost_31 ?_
    refine lv_iadd X.1.1 X.1.2.1 d_Step_changesByAtMost_32 ?_
    refine lv_iload_n X.1.1 X.1.2.1 d_Step_changesByAtMost_33 rfl (lv_at hl 1 rfl) ?_
    refine lv_isub X.1.1 X.1.2.1 d_Step_changesByAtMost_34 ?_
    refine lv_iload_n X.1.1 X.1.2.1 d_Step_changesByAtMost_35 rfl (lv_at hl 1 rfl) ?_
    refine lv_aload_n X.1.1 X.1.2.1 d_Step_changesByAtMost_36 rfl (lv_at hl 0 rfl) ?_
    refine fg_Step_18 X hP 0 rfl rfl d_Step_changesByAtMost_37 ?_
    refine lv_iconst (v := (1 : Int32)) X.1.1 X.1.2.1 d_Step_changesByAtMost_40 (by decide) ?_
    refine wa_ild X.1.1 X.1.2.1 X.2.1 hP 5 0 rfl rfl 1 rfl (by omega) (by decide) d_Step_changesByAtMost_41 ?_
    refine lv_imul X.1.1 X.1.2.1 d_Step_changesByAtMost_42 ?_
    refine lv_iload_n X.1.1 X.1.2.1 d_Step_changesByAtMost_43 rfl (lv_at hl 2 rfl) ?_
    refine lv_aload_n X.1.1 X.1.2.1 d_Step_changesByAtMost_44 rfl (lv_at hl 0 rfl) ?_
    refine fg_Step_18 X hP 0 rfl rfl d_Step_changesByAtMost_45 ?_
    refine lv_iconst (v := (4 : Int32)) X.1.1 X.1.2.1 d_Step_changesByAtMost_48 (by decide) ?_
    refine wa_ild X.1.1 X.1.2.1 X.2.1 hP 5 0 rfl rfl 4 rfl (by omega) (by decide) d_Step_changesByAtMost_49 ?_
    refine lv_imul X.1.1 X.1.2.1 d_Step_changesByAtMost_50 ?_
    refine lv_iadd X.1.1 X.1.2.1 d_Step_changesByAtMost_51 ?_
    refine lv_iload_n X.1.1 X.1.2.1 d_Step_changesByAtMost_52 rfl (lv_at hl 2 rfl) ?_
    refine lv_isub X.1.1 X.1.2.1 d_Step_changesByAtMost_53 ?_
    refine wc_Nv [.int (((u * (ru 0)) + (v * (ru 3))) - u), .int (((u * (ru 1)) + (v * (ru 4))) - v)] 0 0 X nz_nest (c_Guard_maximise g a1 a2 a3 fp fq fr n em top bot (((u * (ru 0)) + (v * (ru 3))) - u) (((u * (ru 1)) + (v * (ru 4))) - v) (by omega)) (cw_Step_43 X.1.2.2.2.2 X.2.2.1 (by decide)) ([(so, .inr (1, [.ref g, .ref a4, .ref a5, .int kf]))]) ([(a4, .inl (cI, 6, .inl ru)), (a5, .inl (cI, 80, .inl kd))]) (rfl) hP hD hS rfl rfl rfl rfl hl.1 (Nat.le_of_ble_eq_true rfl) (by decide) d_Step_changesByAtMost_54 (fun H locs wn hwn hP hD hS => ?_)
    subst hwn
    have hP : va_P D cls (sW cI so g a1 a2 a3 a4 a5 fp fq fr n em ((g_max fp fq fr n (((u * (ru 0)) + (v * (ru 3))) - u) (((u * (ru 1)) + (v * (ru 4))) - v)).1) ((g_max fp fq fr n (((u * (ru 0)) + (v * (ru 3))) - u) (((u * (ru 1)) + (v * (ru 4))) - v)).2) ru kd kf) H := hP
    have hD : va_D A (sW cI so g a1 a2 a3 a4 a5 fp fq fr n em ((g_max fp fq fr n (((u * (ru 0)) + (v * (ru 3))) - u) (((u * (ru 1)) + (v * (ru 4))) - v)).1) ((g_max fp fq fr n (((u * (ru 0)) + (v * (ru 3))) - u) (((u * (ru 1)) + (v * (ru 4))) - v)).2) ru kd kf) := hD
    refine lv_aload_n X.1.1 X.1.2.1 d_Step_changesByAtMost_57 rfl (lv_at hl 0 rfl) ?_
    refine fg_Step_12 X hP 0 rfl rfl d_Step_changesByAtMost_58 ?_
    refine lv_iload_n X.1.1 X.1.2.1 d_Step_changesByAtMost_61 rfl (lv_at hl 3 rfl) ?_
    refine lv_iload_n X.1.1 X.1.2.1 d_Step_changesByAtMost_62 rfl (lv_at hl 1 rfl) ?_
    refine lv_aload_n X.1.1 X.1.2.1 d_Step_changesByAtMost_63 rfl (lv_at hl 0 rfl) ?_
    refine fg_Step_18 X hP 0 rfl rfl d_Step_changesByAtMost_64 ?_
    refine lv_iconst (v := (2 : Int32)) X.1.1 X.1.2.1 d_Step_changesByAtMost_67 (by decide) ?_
    refine wa_ild X.1.1 X.1.2.1 X.2.1 hP 5 0 rfl rfl 2 rfl (by omega) (by decide) d_Step_changesByAtMost_68 ?_
    refine lv_imul X.1.1 X.1.2.1 d_Step_changesByAtMost_69 ?_
    refine lv_iload_n X.1.1 X.1.2.1 d_Step_changesByAtMost_70 rfl (lv_at hl 2 rfl) ?_
    refine lv_aload_n X.1.1 X.1.2.1 d_Step_changesByAtMost_71 rfl (lv_at hl 0 rfl) ?_
    refine fg_Step_18 X hP 0 rfl rfl d_Step_changesByAtMost_72 ?_
    refine lv_iconst (v := (5 : Int32)) X.1.1 X.1.2.1 d_Step_changesByAtMost_75 (by decide) ?_
    refine wa_ild X.1.1 X.1.2.1 X.2.1 hP 5 0 rfl rfl 5 rfl (by omega) (by decide) d_Step_changesByAtMost_76 ?_
    refine lv_imul X.1.1 X.1.2.1 d_Step_changesByAtMost_77 ?_
    refine lv_iadd X.1.1 X.1.2.1 d_Step_changesByAtMost_78 ?_
    refine lv_isub X.1.1 X.1.2.1 d_Step_changesByAtMost_79 ?_
    refine lv_i2l X.1.1 X.1.2.1 d_Step_changesByAtMost_80 rfl ?_
    refine wc_Ni [.long ((most - ((u * (ru 2)) + (v * (ru 5)))).toInt64)] 0 0 X nz_nest (c_Guard_maximumIsAtMost g a1 a2 a3 fp fq fr n em ((g_max fp fq fr n (((u * (ru 0)) + (v * (ru 3))) - u) (((u * (ru 1)) + (v * (ru 4))) - v)).1) ((g_max fp fq fr n (((u * (ru 0)) + (v * (ru 3))) - u) (((u * (ru 1)) + (v * (ru 4))) - v)).2) ((most - ((u * (ru 2)) + (v * (ru 5)))).toInt64) ) (cw_Step_47 X.1.2.2.2.2 X.2.2.1 (by decide)) ([(so, .inr (1, [.ref g, .ref a4, .ref a5, .int kf]))]) ([(a4, .inl (cI, 6, .inl ru)), (a5, .inl (cI, 80, .inl kd))]) (rfl) hP hD hS rfl rfl rfl rfl hl.1 (Nat.le_of_ble_eq_true rfl) (by decide) d_Step_changesByAtMost_81 (fun H locs wn hwn hP hD hS => ?_)
    subst hwn
    have hP : va_P D cls (sW cI so g a1 a2 a3 a4 a5 fp fq fr n em ((g_max fp fq fr n (((u * (ru 0)) + (v * (ru 3))) - u) (((u * (ru 1)) + (v * (ru 4))) - v)).1) ((g_max fp fq fr n (((u * (ru 0)) + (v * (ru 3))) - u) (((u * (ru 1)) + (v * (ru 4))) - v)).2) ru kd kf) H := hP
    have hD : va_D A (sW cI so g a1 a2 a3 a4 a5 fp fq fr n em ((g_max fp fq fr n (((u * (ru 0)) + (v * (ru 3))) - u) (((u * (ru 1)) + (v * (ru 4))) - v)).1) ((g_max fp fq fr n (((u * (ru 0)) + (v * (ru 3))) - u) (((u * (ru 1)) + (v * (ru 4))) - v)).2) ru kd kf) := hD
    exact hret 84 H locs ls _ _ hP hD hS d_Step_changesByAtMost_84 (g_atm_b _ _ _) (by simp [s_chg, h7]) (⟨_, _, rfl⟩)
  · refine lv_iconst (v := (1 : Int32)) X.1.1 X.1.2.1 d_Step_changesByAtMost_10 (by decide) ?_
    exact hret 11 H locs ls _ _ hP hD hS d_Step_changesByAtMost_11 (Or.inr rfl) (by simp [s_chg, h7]) (⟨_, _, rfl⟩)
set_option maxHeartbeats 4000000 in
set_option maxRecDepth 100000 in
theorem c_Step_isBounded (so g a1 a2 a3 a4 a5 : Nat) (fp fq fr : Nat → Int32) (n : Nat) (em : Int32) (top bot : Int64) (ru kd : Nat → Int32) (kf : Int32) (u v : Int32) (hn : n ≤ 4) : wk_ki l y_Step_isBounded (Cond.code y_Step_isBounded b_Step_isBounded 3 (some .boolean) :: BW) rm_Step_isBounded D cls (kT cI cJ cS) nz [.ref so, .int u, .int v] (sW cI so g a1 a2 a3 a4 a5 fp fq fr n em top bot ru kd kf) (fun u => ∃ t b, u = sW cI so g a1 a2 a3 a4 a5 fp fq fr n em t b ru kd kf) (s_bnd fp fq fr n em u v) := by
  refine ws_z (plainFor_of_name (by decide)) (Nat.le_of_ble_eq_true rfl) ?_
  intro p e s m below meth c A ls Q X hret hl hP hD hS
  obtain ⟨H, hH⟩ : ∃ H, H = s.heap := ⟨_, rfl⟩
  obtain ⟨locs, hlo⟩ : ∃ locs : List Loc, locs = [] := ⟨_, rfl⟩
  have hP : va_P D cls (sW cI so g a1 a2 a3 a4 a5 fp fq fr n em top bot ru kd kf) H := by rw [hH]; exact hP
  have hS : va_S A s.heap H locs := by rw [hH, hlo]; exact hS
  suffices hgo : W p l e rm_Step_isBounded s m ([.ref so, .int u, .int v] : List Value).toArray below meth c H locs 0 0 Q (F0 m 0 ls ([])) by rw [hH, hlo] at hgo; exact hgo
  clear hH hlo
  have hl : lv_has ls 3 [(0, .ref so), (1, .int u), (2, .int v)] := hl
  refine lv_aload_n X.1.1 X.1.2.1 d_Step_isBounded_0 rfl (lv_at hl 0 rfl) ?_
  refine fg_Step_12 X hP 0 rfl rfl d_Step_isBounded_1 ?_
  refine fg_Step_40 X hP 1 rfl rfl d_Step_isBounded_4 ?_
  refine lv_if_eq (tgt := 12) X.1.1 X.1.2.1 d_Step_isBounded_7 (by decide) (fun h7 => ?_) (fun h7 => ?_)
  · refine lv_aload_n X.1.1 X.1.2.1 d_Step_isBounded_12 rfl (lv_at hl 0 rfl) ?_
    refine fg_Step_12 X hP 0 rfl rfl d_Step_isBounded_13 ?_
    refine lv_iload_n X.1.1 X.1.2.1 d_Step_isBounded_16 rfl (lv_at hl 1 rfl) ?_
    refine lv_ineg X.1.1 X.1.2.1 d_Step_isBounded_17 ?_
    refine lv_iload_n X.1.1 X.1.2.1 d_Step_isBounded_18 rfl (lv_at hl 2 rfl) ?_
    refine lv_ineg X.1.1 X.1.2.1 d_Step_isBounded_19 ?_
    refine wc_Nv [.int (-u), .int (-v)] 0 0 X nz_nest (c_Guard_maximise g a1 a2 a3 fp fq fr n em top bot (-u) (-v) (by omega)) (cw_Step_43 X.1.2.2.2.2 X.2.2.1 (by decide)) ([(so, .inr (1, [.ref g, .ref a4, .ref a5, .int kf]))]) ([(a4, .inl (cI, 6, .inl ru)), (a5, .inl (cI, 80, .inl kd))]) (rfl) hP hD hS rfl rfl rfl rfl hl.1 (Nat.le_of_ble_eq_true rfl) (by decide) d_Step_isBounded_20 (fun H locs wn hwn hP hD hS => ?_)
    subst hwn
    have hP : va_P D cls (sW cI so g a1 a2 a3 a4 a5 fp fq fr n em ((g_max fp fq fr n (-u) (-v)).1) ((g_max fp fq fr n (-u) (-v)).2) ru kd kf) H := hP
    have hD : va_D A (sW cI so g a1 a2 a3 a4 a5 fp fq fr n em ((g_max fp fq fr n (-u) (-v)).1) ((g_max fp fq fr n (-u) (-v)).2) ru kd kf) := hD
    refine lv_aload_n X.1.1 X.1.2.1 d_Step_isBounded_23 rfl (lv_at hl 0 rfl) ?_
    refine fg_Step_12 X hP 0 rfl rfl d_Step_isBounded_24 ?_
    refine wc_Ni [] 0 0 X nz_nest (c_Guard_hasMaximum g a1 a2 a3 fp fq fr n em ((g_max fp fq fr n (-u) (-v)).1) ((g_max fp fq fr n (-u) (-v)).2)  ) (cw_Step_51 X.1.2.2.2.2 X.2.2.1 (by decide)) ([(so, .inr (1, [.ref g, .ref a4, .ref a5, .int kf]))]) ([(a4, .inl (cI, 6, .inl ru)), (a5, .inl (cI, 80, .inl kd))]) (rfl) hP hD hS rfl rfl rfl rfl hl.1 (Nat.le_of_ble_eq_true rfl) (by decide) d_Step_isBounded_27 (fun H locs wn hwn hP hD hS => ?_)
    subst hwn
    have hP : va_P D cls (sW cI so g a1 a2 a3 a4 a5 fp fq fr n em ((g_max fp fq fr n (-u) (-v)).1) ((g_max fp fq fr n (-u) (-v)).2) ru kd kf) H := hP
    have hD : va_D A (sW cI so g a1 a2 a3 a4 a5 fp fq fr n em ((g_max fp fq fr n (-u) (-v)).1) ((g_max fp fq fr n (-u) (-v)).2) ru kd kf) := hD
    exact hret 30 H locs ls _ _ hP hD hS d_Step_isBounded_30 (g_has_b _) (by simp [s_bnd, h7]) (⟨_, _, rfl⟩)
  · refine lv_iconst (v := (1 : Int32)) X.1.1 X.1.2.1 d_Step_isBounded_10 (by decide) ?_
    exact hret 11 H locs ls _ _ hP hD hS d_Step_isBounded_11 (Or.inr rfl) (by simp [s_bnd, h7]) (⟨_, _, rfl⟩)
set_option maxHeartbeats 4000000 in
set_option maxRecDepth 100000 in
theorem c_Step_findKinds (so g a1 a2 a3 a4 a5 : Nat) (fp fq fr : Nat → Int32) (n : Nat) (em : Int32) (top bot : Int64) (ru kd : Nat → Int32) (kf : Int32) (u1 u2 : Nat) (us vs : Nat → Int32) (hn : n ≤ 4) (hk1 : ¬ kf = 0 → kf = 1) (hk0 : ¬ kf = 0 → ∀ x, x < 80 → kd x = s_kind fp fq fr n em ru (us x) (vs x)) : wk_kv l y_Step_findKinds (Cond.code y_Step_findKinds b_Step_findKinds 4 none :: BW) rm_Step_findKinds D cls (kT cI cJ cS) nz [.ref so, .ref u1, .ref u2] (kW cI so g a1 a2 a3 a4 a5 fp fq fr n em top bot ru kd kf u1 u2 us vs) (fun u => ∃ kd2 t b, u = kW cI so g a1 a2 a3 a4 a5 fp fq fr n em t b ru kd2 1 u1 u2 us vs ∧ ∀ x, x < 80 → kd2 x = s_kind fp fq fr n em ru (us x) (vs x)) := by
  refine ws_v (plainFor_of_name (by decide)) (Nat.le_of_ble_eq_true rfl) ?_
  intro p e s m below meth c A ls Q X hret hl hP hD hS
  obtain ⟨H, hH⟩ : ∃ H, H = s.heap := ⟨_, rfl⟩
  obtain ⟨locs, hlo⟩ : ∃ locs : List Loc, locs = [] := ⟨_, rfl⟩
  have hP : va_P D cls (kW cI so g a1 a2 a3 a4 a5 fp fq fr n em top bot ru kd kf u1 u2 us vs) H := by rw [hH]; exact hP
  have hS : va_S A s.heap H locs := by rw [hH, hlo]; exact hS
  suffices hgo : W p l e rm_Step_findKinds s m ([.ref so, .ref u1, .ref u2] : List Value).toArray below meth c H locs 0 0 Q (F0 m 0 ls ([])) by rw [hH, hlo] at hgo; exact hgo
  clear hH hlo
  have hl : lv_has ls 4 [(0, .ref so), (1, .ref u1), (2, .ref u2)] := hl
  refine lv_aload_n X.1.1 X.1.2.1 d_Step_findKinds_0 rfl (lv_at hl 0 rfl) ?_
  refine fg_Step_25 X hP 0 rfl rfl d_Step_findKinds_1 ?_
  refine lv_if_eq (tgt := 8) X.1.1 X.1.2.1 d_Step_findKinds_4 (by decide) (fun h4 => ?_) (fun h4 => ?_)
  · refine lv_aload_n X.1.1 X.1.2.1 d_Step_findKinds_8 rfl (lv_at hl 0 rfl) ?_
    refine lv_iconst (v := (1 : Int32)) X.1.1 X.1.2.1 d_Step_findKinds_9 (by decide) ?_
    refine fp_Step_25 X hP hD hS 0 rfl rfl rfl rfl d_Step_findKinds_10 (fun H locs hP hD hS => ?_)
    have hP : va_P D cls (kW cI so g a1 a2 a3 a4 a5 fp fq fr n em top bot ru kd (1 : Int32) u1 u2 us vs) H := hP
    have hD : va_D A (kW cI so g a1 a2 a3 a4 a5 fp fq fr n em top bot ru kd (1 : Int32) u1 u2 us vs) := hD
    refine lv_iconst (v := (0 : Int32)) X.1.1 X.1.2.1 d_Step_findKinds_13 (by decide) ?_
    refine lv_istore_n X.1.1 X.1.2.1 d_Step_findKinds_14 rfl hl (by decide) rfl (fun ls hl => ?_)
    have hl : lv_has ls 4 [(3, .int (0 : Int32)), (0, .ref so), (1, .ref u1), (2, .ref u2)] := hl
    have lp15 : ∀ (k15 : Nat) (i : Nat) (top : Int64) (bot : Int64) (kd : Nat → Int32) (ls : Array Slot) (H : Heap) (locs : List Loc), i + k15 = 80 → (∀ x, x < i → kd x = s_kind fp fq fr n em ru (us x) (vs x)) → lv_has ls 4 [(3, .int (nI i)), (0, .ref so), (1, .ref u1), (2, .ref u2)] → va_P D cls (kW cI so g a1 a2 a3 a4 a5 fp fq fr n em top bot ru kd 1 u1 u2 us vs) H → va_D A (kW cI so g a1 a2 a3 a4 a5 fp fq fr n em top bot ru kd 1 u1 u2 us vs) → va_S A s.heap H locs → W p l e rm_Step_findKinds s m ([.ref so, .ref u1, .ref u2] : List Value).toArray below meth c H locs 0 0 Q (F0 m 15 ls ([])) := by
      intro k15
      induction k15 with
      | zero =>
        intro i top bot kd ls H locs hik hE hl hP hD hS
        refine lv_iload_n X.1.1 X.1.2.1 d_Step_findKinds_15 rfl (lv_at hl 0 rfl) ?_
        refine lv_bipush (v := (80 : Int32)) X.1.1 X.1.2.1 d_Step_findKinds_16 (by decide) ?_
        refine wn_ge (a := i) (b := 80) (tgt := 95) X.1.1 X.1.2.1 d_Step_findKinds_18 (by decide) (by omega) (by omega) (fun h18 => ?_) (fun h18 => by exfalso; omega)
        exact hret 95 H locs ls _ hP hD hS d_Step_findKinds_95 (⟨kd, _, _, rfl, fun x hx => hE x (by omega)⟩)
      | succ k15 ih15 =>
        intro i top bot kd ls H locs hik hE hl hP hD hS
        refine lv_iload_n X.1.1 X.1.2.1 d_Step_findKinds_15 rfl (lv_at hl 0 rfl) ?_
        refine lv_bipush (v := (80 : Int32)) X.1.1 X.1.2.1 d_Step_findKinds_16 (by decide) ?_
        refine wn_ge (a := i) (b := 80) (tgt := 95) X.1.1 X.1.2.1 d_Step_findKinds_18 (by decide) (by omega) (by omega) (fun h18 => by exfalso; omega) (fun h18 => ?_)
        refine lv_aload_n X.1.1 X.1.2.1 d_Step_findKinds_21 rfl (lv_at hl 1 rfl) ?_
        refine lv_aload_n X.1.1 X.1.2.1 d_Step_findKinds_22 rfl (lv_at hl 2 rfl) ?_
        refine lv_iload_n X.1.1 X.1.2.1 d_Step_findKinds_23 rfl (lv_at hl 0 rfl) ?_
        refine wa_ild X.1.1 X.1.2.1 X.2.1 hP 7 0 rfl rfl i rfl (by omega) (by decide) d_Step_findKinds_24 ?_
        refine lv_aload_n X.1.1 X.1.2.1 d_Step_findKinds_25 rfl (lv_at hl 3 rfl) ?_
        refine lv_iload_n X.1.1 X.1.2.1 d_Step_findKinds_26 rfl (lv_at hl 0 rfl) ?_
        refine wa_ild X.1.1 X.1.2.1 X.2.1 hP 8 0 rfl rfl i rfl (by omega) (by decide) d_Step_findKinds_27 ?_
        refine lv_iconst (v := (0 : Int32)) X.1.1 X.1.2.1 d_Step_findKinds_28 (by decide) ?_
        refine wc_Vi [.int (us i), .int (vs i), .int (0 : Int32)] 1 0 X nz_nest (c_Step_changesByAtMost so g a1 a2 a3 a4 a5 fp fq fr n em top bot ru kd 1 (us i) (vs i) (0 : Int32) (by omega)) (cw_Step_55 X.1.2.2.2.2 X.2.2.1 (by decide)) ([]) ([(u1, .inl (cI, 80, .inl us)), (u2, .inl (cI, 80, .inl vs))]) (rfl) hP hD hS rfl rfl rfl rfl hl.1 (Nat.le_of_ble_eq_true rfl) (by decide) d_Step_findKinds_29 (fun H locs wn hwn hP hD hS => ?_)
        obtain ⟨top1, bot1, rfl⟩ := hwn
        have hP : va_P D cls (kW cI so g a1 a2 a3 a4 a5 fp fq fr n em top1 bot1 ru kd 1 u1 u2 us vs) H := hP
        have hD : va_D A (kW cI so g a1 a2 a3 a4 a5 fp fq fr n em top1 bot1 ru kd 1 u1 u2 us vs) := hD
        refine lv_if_ne (tgt := 45) X.1.1 X.1.2.1 d_Step_findKinds_32 (by decide) (fun h32 => ?_) (fun h32 => ?_)
        · refine lv_aload_n X.1.1 X.1.2.1 d_Step_findKinds_45 rfl (lv_at hl 1 rfl) ?_
          refine lv_aload_n X.1.1 X.1.2.1 d_Step_findKinds_46 rfl (lv_at hl 2 rfl) ?_
          refine lv_iload_n X.1.1 X.1.2.1 d_Step_findKinds_47 rfl (lv_at hl 0 rfl) ?_
          refine wa_ild X.1.1 X.1.2.1 X.2.1 hP 7 0 rfl rfl i rfl (by omega) (by decide) d_Step_findKinds_48 ?_
          refine lv_aload_n X.1.1 X.1.2.1 d_Step_findKinds_49 rfl (lv_at hl 3 rfl) ?_
          refine lv_iload_n X.1.1 X.1.2.1 d_Step_findKinds_50 rfl (lv_at hl 0 rfl) ?_
          refine wa_ild X.1.1 X.1.2.1 X.2.1 hP 8 0 rfl rfl i rfl (by omega) (by decide) d_Step_findKinds_51 ?_
          refine lv_iconst (v := (-1 : Int32)) X.1.1 X.1.2.1 d_Step_findKinds_52 (by decide) ?_
          refine wc_Vi [.int (us i), .int (vs i), .int (-1 : Int32)] 1 0 X nz_nest (c_Step_changesByAtMost so g a1 a2 a3 a4 a5 fp fq fr n em top1 bot1 ru kd 1 (us i) (vs i) (-1 : Int32) (by omega)) (cw_Step_55 X.1.2.2.2.2 X.2.2.1 (by decide)) ([]) ([(u1, .inl (cI, 80, .inl us)), (u2, .inl (cI, 80, .inl vs))]) (rfl) hP hD hS rfl rfl rfl rfl hl.1 (Nat.le_of_ble_eq_true rfl) (by decide) d_Step_findKinds_53 (fun H locs wn hwn hP hD hS => ?_)
          obtain ⟨top2, bot2, rfl⟩ := hwn
          have hP : va_P D cls (kW cI so g a1 a2 a3 a4 a5 fp fq fr n em top2 bot2 ru kd 1 u1 u2 us vs) H := hP
          have hD : va_D A (kW cI so g a1 a2 a3 a4 a5 fp fq fr n em top2 bot2 ru kd 1 u1 u2 us vs) := hD
          refine lv_if_eq (tgt := 82) X.1.1 X.1.2.1 d_Step_findKinds_56 (by decide) (fun h56 => ?_) (fun h56 => ?_)
          · refine lv_aload_n X.1.1 X.1.2.1 d_Step_findKinds_82 rfl (lv_at hl 1 rfl) ?_
            refine fg_Step_22 X hP 0 rfl rfl d_Step_findKinds_83 ?_
            refine lv_iload_n X.1.1 X.1.2.1 d_Step_findKinds_86 rfl (lv_at hl 0 rfl) ?_
            refine lv_iconst (v := (1 : Int32)) X.1.1 X.1.2.1 d_Step_findKinds_87 (by decide) ?_
            refine wa_ist X.1.1 X.1.2.1 X.2.1 hP hD hS 6 0 rfl rfl i rfl (by omega) (by decide) d_Step_findKinds_88 (fun H locs hP hD hS => ?_)
            have hP : va_P D cls (kW cI so g a1 a2 a3 a4 a5 fp fq fr n em top2 bot2 ru (upd kd i (1 : Int32)) 1 u1 u2 us vs) H := hP
            have hD : va_D A (kW cI so g a1 a2 a3 a4 a5 fp fq fr n em top2 bot2 ru (upd kd i (1 : Int32)) 1 u1 u2 us vs) := hD
            refine lv_iinc (k := 0) (v := nI (i + 1)) X.1.1 X.1.2.1 d_Step_findKinds_89 hl rfl (nI_1 i) (by decide) rfl (fun ls hl => ?_)
            have hl : lv_has ls 4 [(3, .int (nI (i + 1))), (0, .ref so), (1, .ref u1), (2, .ref u2)] := hl
            refine lv_goto (tgt := 15) X.1.1 X.1.2.1 d_Step_findKinds_92 (by decide) ?_
            exact ih15 (i + 1) _ _ _ ls H locs (by omega) (lt_s (fun x hx => by rw [pk_un (by omega)]; exact hE x hx) (by rw [pk_us]; simp [s_kind, h18, h32, h56])) (lv_sub hl [0, 1, 2, 3] rfl) hP hD hS
          · refine lv_aload_n X.1.1 X.1.2.1 d_Step_findKinds_59 rfl (lv_at hl 1 rfl) ?_
            refine lv_aload_n X.1.1 X.1.2.1 d_Step_findKinds_60 rfl (lv_at hl 2 rfl) ?_
            refine lv_iload_n X.1.1 X.1.2.1 d_Step_findKinds_61 rfl (lv_at hl 0 rfl) ?_
            refine wa_ild X.1.1 X.1.2.1 X.2.1 hP 7 0 rfl rfl i rfl (by omega) (by decide) d_Step_findKinds_62 ?_
            refine lv_aload_n X.1.1 X.1.2.1 d_Step_findKinds_63 rfl (lv_at hl 3 rfl) ?_
            refine lv_iload_n X.1.1 X.1.2.1 d_Step_findKinds_64 rfl (lv_at hl 0 rfl) ?_
            refine wa_ild X.1.1 X.1.2.1 X.2.1 hP 8 0 rfl rfl i rfl (by omega) (by decide) d_Step_findKinds_65 ?_
            refine wc_Vi [.int (us i), .int (vs i)] 1 0 X nz_nest (c_Step_isBounded so g a1 a2 a3 a4 a5 fp fq fr n em top2 bot2 ru kd 1 (us i) (vs i) (by omega)) (cw_Step_59 X.1.2.2.2.2 X.2.2.1 (by decide)) ([]) ([(u1, .inl (cI, 80, .inl us)), (u2, .inl (cI, 80, .inl vs))]) (rfl) hP hD hS rfl rfl rfl rfl hl.1 (Nat.le_of_ble_eq_true rfl) (by decide) d_Step_findKinds_66 (fun H locs wn hwn hP hD hS => ?_)
            obtain ⟨top3, bot3, rfl⟩ := hwn
            have hP : va_P D cls (kW cI so g a1 a2 a3 a4 a5 fp fq fr n em top3 bot3 ru kd 1 u1 u2 us vs) H := hP
            have hD : va_D A (kW cI so g a1 a2 a3 a4 a5 fp fq fr n em top3 bot3 ru kd 1 u1 u2 us vs) := hD
            refine lv_if_eq (tgt := 82) X.1.1 X.1.2.1 d_Step_findKinds_69 (by decide) (fun h69 => ?_) (fun h69 => ?_)
            · refine lv_aload_n X.1.1 X.1.2.1 d_Step_findKinds_82 rfl (lv_at hl 1 rfl) ?_
              refine fg_Step_22 X hP 0 rfl rfl d_Step_findKinds_83 ?_
              refine lv_iload_n X.1.1 X.1.2.1 d_Step_findKinds_86 rfl (lv_at hl 0 rfl) ?_
              refine lv_iconst (v := (1 : Int32)) X.1.1 X.1.2.1 d_Step_findKinds_87 (by decide) ?_
              refine wa_ist X.1.1 X.1.2.1 X.2.1 hP hD hS 6 0 rfl rfl i rfl (by omega) (by decide) d_Step_findKinds_88 (fun H locs hP hD hS => ?_)
              have hP : va_P D cls (kW cI so g a1 a2 a3 a4 a5 fp fq fr n em top3 bot3 ru (upd kd i (1 : Int32)) 1 u1 u2 us vs) H := hP
              have hD : va_D A (kW cI so g a1 a2 a3 a4 a5 fp fq fr n em top3 bot3 ru (upd kd i (1 : Int32)) 1 u1 u2 us vs) := hD
              refine lv_iinc (k := 0) (v := nI (i + 1)) X.1.1 X.1.2.1 d_Step_findKinds_89 hl rfl (nI_1 i) (by decide) rfl (fun ls hl => ?_)
              have hl : lv_has ls 4 [(3, .int (nI (i + 1))), (0, .ref so), (1, .ref u1), (2, .ref u2)] := hl
              refine lv_goto (tgt := 15) X.1.1 X.1.2.1 d_Step_findKinds_92 (by decide) ?_
              exact ih15 (i + 1) _ _ _ ls H locs (by omega) (lt_s (fun x hx => by rw [pk_un (by omega)]; exact hE x hx) (by rw [pk_us]; simp [s_kind, h32, h56, h69])) (lv_sub hl [0, 1, 2, 3] rfl) hP hD hS
            · refine lv_aload_n X.1.1 X.1.2.1 d_Step_findKinds_72 rfl (lv_at hl 1 rfl) ?_
              refine fg_Step_22 X hP 0 rfl rfl d_Step_findKinds_73 ?_
              refine lv_iload_n X.1.1 X.1.2.1 d_Step_findKinds_76 rfl (lv_at hl 0 rfl) ?_
              refine lv_iconst (v := (2 : Int32)) X.1.1 X.1.2.1 d_Step_findKinds_77 (by decide) ?_
              refine wa_ist X.1.1 X.1.2.1 X.2.1 hP hD hS 6 0 rfl rfl i rfl (by omega) (by decide) d_Step_findKinds_78 (fun H locs hP hD hS => ?_)
              have hP : va_P D cls (kW cI so g a1 a2 a3 a4 a5 fp fq fr n em top3 bot3 ru (upd kd i (2 : Int32)) 1 u1 u2 us vs) H := hP
              have hD : va_D A (kW cI so g a1 a2 a3 a4 a5 fp fq fr n em top3 bot3 ru (upd kd i (2 : Int32)) 1 u1 u2 us vs) := hD
              refine lv_goto (tgt := 89) X.1.1 X.1.2.1 d_Step_findKinds_79 (by decide) ?_
              refine lv_iinc (k := 0) (v := nI (i + 1)) X.1.1 X.1.2.1 d_Step_findKinds_89 hl rfl (nI_1 i) (by decide) rfl (fun ls hl => ?_)
              have hl : lv_has ls 4 [(3, .int (nI (i + 1))), (0, .ref so), (1, .ref u1), (2, .ref u2)] := hl
              refine lv_goto (tgt := 15) X.1.1 X.1.2.1 d_Step_findKinds_92 (by decide) ?_
              exact ih15 (i + 1) _ _ _ ls H locs (by omega) (lt_s (fun x hx => by rw [pk_un (by omega)]; exact hE x hx) (by rw [pk_us]; simp [s_kind, h32, h56, h69])) (lv_sub hl [0, 1, 2, 3] rfl) hP hD hS
        · refine lv_aload_n X.1.1 X.1.2.1 d_Step_findKinds_35 rfl (lv_at hl 1 rfl) ?_
          refine fg_Step_22 X hP 0 rfl rfl d_Step_findKinds_36 ?_
          refine lv_iload_n X.1.1 X.1.2.1 d_Step_findKinds_39 rfl (lv_at hl 0 rfl) ?_
          refine lv_iconst (v := (0 : Int32)) X.1.1 X.1.2.1 d_Step_findKinds_40 (by decide) ?_
          refine wa_ist X.1.1 X.1.2.1 X.2.1 hP hD hS 6 0 rfl rfl i rfl (by omega) (by decide) d_Step_findKinds_41 (fun H locs hP hD hS => ?_)
          have hP : va_P D cls (kW cI so g a1 a2 a3 a4 a5 fp fq fr n em top1 bot1 ru (upd kd i (0 : Int32)) 1 u1 u2 us vs) H := hP
          have hD : va_D A (kW cI so g a1 a2 a3 a4 a5 fp fq fr n em top1 bot1 ru (upd kd i (0 : Int32)) 1 u1 u2 us vs) := hD
          refine lv_goto (tgt := 89) X.1.1 X.1.2.1 d_Step_findKinds_42 (by decide) ?_
          refine lv_iinc (k := 0) (v := nI (i + 1)) X.1.1 X.1.2.1 d_Step_findKinds_89 hl rfl (nI_1 i) (by decide) rfl (fun ls hl => ?_)
          have hl : lv_has ls 4 [(3, .int (nI (i + 1))), (0, .ref so), (1, .ref u1), (2, .ref u2)] := hl
          refine lv_goto (tgt := 15) X.1.1 X.1.2.1 d_Step_findKinds_92 (by decide) ?_
          exact ih15 (i + 1) _ _ _ ls H locs (by omega) (lt_s (fun x hx => by rw [pk_un (by omega)]; exact hE x hx) (by rw [pk_us]; simp [s_kind, h4, h18, h32])) (lv_sub hl [0, 1, 2, 3] rfl) hP hD hS
    exact lp15 80 0 _ _ _ ls H locs (by omega) (fun x hx => absurd hx (by omega)) (lv_sub hl [0, 1, 2, 3] rfl) hP hD hS
  · exact hret 7 H locs ls _ hP hD hS d_Step_findKinds_7 (⟨kd, _, _, by first | rfl | (rw [hk1 h4]), fun x hx => hk0 h4 x hx⟩)
end CT
end
