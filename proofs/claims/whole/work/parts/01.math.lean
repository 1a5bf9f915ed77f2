/-! Duality in the plane over whole numbers: points (X, Y, D) with D > 0 -/
def mz_cr (a b c d : Int) : Int := a * d - b * c
def mz_n (a b : Int) : Int := (a.natAbs : Int) + (b.natAbs : Int)
abbrev mz_G : Type := List (Int × Int × Int)
def mz_ft (G : mz_G) (X Y D : Int) : Prop := ∀ p q r : Int, (p, q, r) ∈ G → p * X + q * Y ≤ r * D
def mz_Feas (G : mz_G) : Prop := ∃ X Y D : Int, 0 < D ∧ mz_ft G X Y D
def mz_RC (p q r a b t d : Int) : Prop := mz_cr p q a b = 0 ∧ 0 < p * a + q * b ∧ t = r * mz_n a b ∧ d = mz_n p q
def mz_PC (p1 q1 r1 p2 q2 r2 a b t d : Int) : Prop := ∃ g : Int, (g = 1 ∨ g = -1) ∧ 0 < g * mz_cr p1 q1 p2 q2 ∧ 0 ≤ g * mz_cr a b p2 q2 ∧ 0 ≤ g * mz_cr p1 q1 a b ∧ t = r1 * (g * mz_cr a b p2 q2) + r2 * (g * mz_cr p1 q1 a b) ∧ d = g * mz_cr p1 q1 p2 q2
def mz_DC (G : mz_G) (a b t d : Int) : Prop := (∃ p q r : Int, (p, q, r) ∈ G ∧ mz_RC p q r a b t d) ∨ ∃ p1 q1 r1 p2 q2 r2 : Int, (p1, q1, r1) ∈ G ∧ (p2, q2, r2) ∈ G ∧ mz_PC p1 q1 r1 p2 q2 r2 a b t d
theorem mz_sq (x : Int) : 0 ≤ x * x := by
  rcases Int.le_total 0 x with h | h
  · exact Int.mul_nonneg h h
  · exact Int.mul_nonneg_of_nonpos_of_nonpos h h
theorem mz_n2 {a b : Int} (h : ¬ (a = 0 ∧ b = 0)) : 0 < a * a + b * b := by
  have h1 := mz_sq a
  have h2 := mz_sq b
  by_cases ha : a = 0
  · have hb : b ≠ 0 := fun z => h ⟨ha, z⟩
    have : b * b ≠ 0 := fun z => hb (by rcases Int.mul_eq_zero.mp z with z | z <;> exact z)
    omega
  · have : a * a ≠ 0 := fun z => ha (by rcases Int.mul_eq_zero.mp z with z | z <;> exact z)
    omega
theorem mz_abs {N k a p : Int} (hN : 0 < N) (hk : 0 < k) (h : N * a = k * p) : N * (a.natAbs : Int) = k * (p.natAbs : Int) := by
  have e := congrArg Int.natAbs h
  rw [Int.natAbs_mul, Int.natAbs_mul] at e
  have e2 : ((N.natAbs * a.natAbs : Nat) : Int) = ((k.natAbs * p.natAbs : Nat) : Int) := by rw [e]
  rw [Int.natCast_mul, Int.natCast_mul, Int.natAbs_of_nonneg (Int.le_of_lt hN), Int.natAbs_of_nonneg (Int.le_of_lt hk)] at e2
  exact e2
theorem mz_i1 {p q a b : Int} (h : p * b = q * a) : (p * p + q * q) * a = (p * a + q * b) * p := by
  have x1 : (p * p + q * q) * a = p * a * p + q * (q * a) := by grind
  have x2 : (p * a + q * b) * p = p * a * p + q * (p * b) := by grind
  rw [x1, x2, h]
theorem mz_i1b {p q a b : Int} (h : p * b = q * a) : (p * p + q * q) * b = (p * a + q * b) * q := by
  have x1 : (p * p + q * q) * b = p * (p * b) + q * b * q := by grind
  have x2 : (p * a + q * b) * q = p * (q * a) + q * b * q := by grind
  rw [x1, x2, h]
theorem mz_i2 {N T S k a p : Int} (hN : 0 < N) (ea : N * a = k * p) (eS : N * S = k * T) : T * a = S * p := by
  have x1 : N * (T * a) = T * (N * a) := by grind
  have x2 : N * (S * p) = (N * S) * p := by grind
  have x3 : T * (k * p) = k * T * p := by grind
  exact Int.eq_of_mul_eq_mul_left (a := N) (by omega) (by rw [x1, x2, ea, eS, x3])
theorem mz_npos {p q : Int} (h : ¬ (p = 0 ∧ q = 0)) : 0 < mz_n p q := by unfold mz_n; omega
/-- parallel and the same way: (|p|+|q|) (a, b) = (|a|+|b|) (p, q) -/
theorem mz_par {p q a b : Int} (h : mz_cr p q a b = 0) (hd : 0 < p * a + q * b) : 0 < mz_n a b ∧ 0 < mz_n p q ∧ mz_n p q * a = mz_n a b * p ∧ mz_n p q * b = mz_n a b * q := by
  have h' : p * b = q * a := by unfold mz_cr at h; omega
  have z1 : ¬ (p = 0 ∧ q = 0) := fun z => by rw [z.1, z.2] at hd; omega
  have z2 : ¬ (a = 0 ∧ b = 0) := fun z => by rw [z.1, z.2] at hd; omega
  have hN := mz_n2 z1
  have ea := mz_i1 h'
  have eb := mz_i1b h'
  have e1 := mz_abs hN hd ea
  have e2 := mz_abs hN hd eb
  have eS : (p * p + q * q) * mz_n a b = (p * a + q * b) * mz_n p q := by unfold mz_n; rw [Int.mul_add, Int.mul_add, e1, e2]
  exact ⟨mz_npos z2, mz_npos z1, mz_i2 hN ea eS, mz_i2 hN eb eS⟩
theorem mz_weak {a b X Y D p1 q1 r1 p2 q2 r2 l1 l2 t d : Int} (h1 : p1 * X + q1 * Y ≤ r1 * D) (h2 : p2 * X + q2 * Y ≤ r2 * D) (hl1 : 0 ≤ l1) (hl2 : 0 ≤ l2) (ha : d * a = l1 * p1 + l2 * p2) (hb : d * b = l1 * q1 + l2 * q2) (ht : t = l1 * r1 + l2 * r2) : d * (a * X + b * Y) ≤ t * D := by
  have i1 := Int.mul_le_mul_of_nonneg_left h1 hl1
  have i2 := Int.mul_le_mul_of_nonneg_left h2 hl2
  have e1 : d * (a * X + b * Y) = (d * a) * X + (d * b) * Y := by grind
  have e3 : (l1 * p1 + l2 * p2) * X + (l1 * q1 + l2 * q2) * Y = l1 * (p1 * X + q1 * Y) + l2 * (p2 * X + q2 * Y) := by grind
  have e2 : (l1 * r1 + l2 * r2) * D = l1 * (r1 * D) + l2 * (r2 * D) := by grind
  rw [e1, ha, hb, e3, ht, e2]
  omega
theorem mz_cra (g p1 q1 p2 q2 a b : Int) : g * mz_cr p1 q1 p2 q2 * a = g * mz_cr a b p2 q2 * p1 + g * mz_cr p1 q1 a b * p2 := by unfold mz_cr; grind
theorem mz_crb (g p1 q1 p2 q2 a b : Int) : g * mz_cr p1 q1 p2 q2 * b = g * mz_cr a b p2 q2 * q1 + g * mz_cr p1 q1 a b * q2 := by unfold mz_cr; grind
theorem mz_wk {G : mz_G} {a b t d : Int} (h : mz_DC G a b t d) : 0 < d ∧ ∀ X Y D : Int, mz_ft G X Y D → d * (a * X + b * Y) ≤ t * D := by
  rcases h with ⟨p, q, r, m, hc, hd, rfl, rfl⟩ | ⟨p1, q1, r1, p2, q2, r2, m1, m2, g, hg, hd, h1, h2, rfl, rfl⟩
  · obtain ⟨hS, hT, ea, eb⟩ := mz_par hc hd
    refine ⟨hT, fun X Y D hf => ?_⟩
    exact mz_weak (hf p q r m) (hf p q r m) (Int.le_of_lt hS) (Int.le_refl 0) (by rw [ea, Int.zero_mul, Int.add_zero]) (by rw [eb, Int.zero_mul, Int.add_zero]) (by rw [Int.mul_comm r, Int.zero_mul, Int.add_zero])
  · refine ⟨hd, fun X Y D hf => ?_⟩
    exact mz_weak (hf _ _ _ m1) (hf _ _ _ m2) h1 h2 (mz_cra g p1 q1 p2 q2 a b) (mz_crb g p1 q1 p2 q2 a b) (by rw [Int.mul_comm r1, Int.mul_comm r2])
/-- of a finite list the one with the greatest fraction -/
theorem mz_f3 {nv nw nx dv dw dx : Int} (hx : 0 < dx) (hw : 0 < dw) (hv : 0 < dv) (h1 : nv * dw ≤ nw * dv) (h2 : nw * dx ≤ nx * dw) : nv * dx ≤ nx * dv := by
  have b1 := Int.mul_le_mul_of_nonneg_left h1 (Int.le_of_lt hx)
  have b2 := Int.mul_le_mul_of_nonneg_left h2 (Int.le_of_lt hv)
  refine Int.le_of_mul_le_mul_left (a := dw) ?_ hw
  have e1 : dw * (nv * dx) = dx * (nv * dw) := by grind
  have e2 : dw * (nx * dv) = dv * (nx * dw) := by grind
  have e3 : dx * (nw * dv) = dv * (nw * dx) := by grind
  omega
theorem mz_best {α : Type} (P : α → Prop) (num den : α → Int) : ∀ (G : List α), (∀ w ∈ G, P w → 0 < den w) → (∃ w ∈ G, P w) → ∃ w ∈ G, P w ∧ ∀ v ∈ G, P v → num v * den w ≤ num w * den v := by
  intro G
  induction G with
  | nil => intro _ h; obtain ⟨w, hw, _⟩ := h; cases hw
  | cons x G ih =>
    intro hden hex
    by_cases hG : ∃ w ∈ G, P w
    · obtain ⟨w, hw, hPw, hbest⟩ := ih (fun w hw => hden w (List.mem_cons_of_mem _ hw)) hG
      by_cases hx : P x
      · rcases Int.le_total (num x * den w) (num w * den x) with hle | hle
        · refine ⟨w, List.mem_cons_of_mem _ hw, hPw, fun v hv hPv => ?_⟩
          rcases List.mem_cons.mp hv with rfl | hv
          · exact hle
          · exact hbest v hv hPv
        · refine ⟨x, List.mem_cons_self, hx, fun v hv hPv => ?_⟩
          rcases List.mem_cons.mp hv with rfl | hv
          · exact Int.le_refl _
          · exact mz_f3 (hden x List.mem_cons_self hx) (hden w (List.mem_cons_of_mem _ hw) hPw) (hden v (List.mem_cons_of_mem _ hv) hPv) (hbest v hv hPv) hle
      · refine ⟨w, List.mem_cons_of_mem _ hw, hPw, fun v hv hPv => ?_⟩
        rcases List.mem_cons.mp hv with rfl | hv
        · exact absurd hPv hx
        · exact hbest v hv hPv
    · have hx : P x := by
        obtain ⟨w, hw, hPw⟩ := hex
        rcases List.mem_cons.mp hw with rfl | hw
        · exact hPw
        · exact absurd ⟨w, hw, hPw⟩ hG
      refine ⟨x, List.mem_cons_self, hx, fun v hv hPv => ?_⟩
      rcases List.mem_cons.mp hv with rfl | hv
      · exact Int.le_refl _
      · exact absurd ⟨v, hv, hPv⟩ hG
theorem mz_l1 {s D c1 c2 k1 k2 r r1 r2 : Int} (hP : s * D - c2 * k1 = -(c1 * k2)) (hv : r * D < r1 * k2 + r2 * k1) (hc1 : 0 < c1) (hm : (r1 * c2 + r2 * c1) * k1 ≤ (r1 * s + r * c1) * D) : False := by
  have n := Int.mul_neg_of_pos_of_neg hc1 (show r * D - (r1 * k2 + r2 * k1) < 0 by omega)
  have e1 : (r1 * s + r * c1) * D - (r1 * c2 + r2 * c1) * k1 = r1 * (s * D - c2 * k1) + c1 * (r * D - r2 * k1) := by clear hm n hv hP hc1; grind
  have e2 : r1 * -(c1 * k2) + c1 * (r * D - r2 * k1) = c1 * (r * D - (r1 * k2 + r2 * k1)) := by clear e1 hm n hv hP hc1; grind
  rw [hP, e2] at e1
  omega
theorem mz_l2 {s D c1 c2 k1 k2 r r1 r2 : Int} (hP : s * D - c2 * k1 = -(c1 * k2)) (hv : r * D < r1 * k2 + r2 * k1) (hc2 : 0 < c2) (hm : (r1 * c2 + r2 * c1) * k2 ≤ (r * c2 + r2 * (-s)) * D) : False := by
  have n := Int.mul_neg_of_pos_of_neg hc2 (show r * D - (r1 * k2 + r2 * k1) < 0 by omega)
  have e1 : (r * c2 + r2 * (-s)) * D - (r1 * c2 + r2 * c1) * k2 = c2 * (r * D - r1 * k2) - r2 * (s * D - c2 * k1) - r2 * (c2 * k1) - r2 * (c1 * k2) := by clear hm n hv hP hc2; grind
  have e2 : c2 * (r * D - r1 * k2) - r2 * -(c1 * k2) - r2 * (c2 * k1) - r2 * (c1 * k2) = c2 * (r * D - (r1 * k2 + r2 * k1)) := by clear e1 hm n hv hP hc2; grind
  rw [hP, e2] at e1
  omega
theorem mz_l3 {D c1 c2 k1 k2 r r1 r2 S T : Int} (e1 : T * c2 = S * k2) (e2 : T * c1 = S * k1) (hv : r * D < r1 * k2 + r2 * k1) (hS : 0 < S) (hm : (r1 * c2 + r2 * c1) * T ≤ (r * S) * D) : False := by
  have n := Int.mul_neg_of_pos_of_neg hS (show r * D - (r1 * k2 + r2 * k1) < 0 by omega)
  have e3 : (r * S) * D - (r1 * c2 + r2 * c1) * T = r * S * D - r1 * (T * c2) - r2 * (T * c1) := by clear hm n hv e1 e2 hS; grind
  have e4 : r * S * D - r1 * (S * k2) - r2 * (S * k1) = S * (r * D - (r1 * k2 + r2 * k1)) := by clear hm n hv e1 e2 e3 hS; grind
  rw [e1, e2, e4] at e3
  omega
theorem mz_l4 {D k1 k2 r r1 r2 D0 v v1 v2 : Int} (hv : r * D < r1 * k2 + r2 * k1) (hD0 : 0 < D0) (hD : 0 < D) (h1 : k1 ≤ 0) (h2 : k2 ≤ 0) (hw1 : v1 ≤ r1 * D0) (hw2 : v2 ≤ r2 * D0) (hw : v ≤ r * D0) (e : D * v = k2 * v1 + k1 * v2) : False := by
  have i1 := Int.mul_le_mul_of_nonpos_left h2 hw1
  have i2 := Int.mul_le_mul_of_nonpos_left h1 hw2
  have i3 := Int.mul_le_mul_of_nonneg_left hw (Int.le_of_lt hD)
  have n := Int.mul_pos hD0 (show 0 < r1 * k2 + r2 * k1 - r * D by omega)
  have e2 : D0 * (r1 * k2 + r2 * k1 - r * D) = k2 * (r1 * D0) + k1 * (r2 * D0) - D * (r * D0) := by clear i1 i2 i3 n e hv hD0 hD h1 h2 hw1 hw2 hw; grind
  omega
theorem mz_vV (g p q p1 q1 r1 p2 q2 r2 : Int) : p * (g * (r1 * q2 - r2 * q1)) + q * (g * (p1 * r2 - p2 * r1)) = r1 * (g * mz_cr p q p2 q2) + r2 * (g * mz_cr p1 q1 p q) := by unfold mz_cr; grind
theorem mz_vP (g a b p q p1 q1 p2 q2 : Int) : (g * mz_cr a b p q) * (g * mz_cr p1 q1 p2 q2) - (g * mz_cr a b p2 q2) * (g * mz_cr p1 q1 p q) = -((g * mz_cr p1 q1 a b) * (g * mz_cr p q p2 q2)) := by unfold mz_cr; grind
theorem mz_sw (g a b p q : Int) : g * mz_cr p q a b = -(g * mz_cr a b p q) := by unfold mz_cr; grind
theorem mz_v3 (g p q p1 q1 p2 q2 X Y : Int) : g * mz_cr p1 q1 p2 q2 * (p * X + q * Y) = g * mz_cr p q p2 q2 * (p1 * X + q1 * Y) + g * mz_cr p1 q1 p q * (p2 * X + q2 * Y) := by unfold mz_cr; grind
theorem mz_v4 (g T a b p2 q2 : Int) : T * (g * mz_cr a b p2 q2) = g * ((T * a) * q2 - (T * b) * p2) := by unfold mz_cr; grind
theorem mz_v5 (g T a b p1 q1 : Int) : T * (g * mz_cr p1 q1 a b) = g * (p1 * (T * b) - q1 * (T * a)) := by unfold mz_cr; grind
theorem mz_v6 (g S p q p2 q2 : Int) : g * ((S * p) * q2 - (S * q) * p2) = S * (g * mz_cr p q p2 q2) := by unfold mz_cr; grind
theorem mz_v7 (g S p q p1 q1 : Int) : g * (p1 * (S * q) - q1 * (S * p)) = S * (g * mz_cr p1 q1 p q) := by unfold mz_cr; grind
theorem mz_v8 {a b p q : Int} (g p1 q1 : Int) (h : p * b - q * a = 0) : (a * a + b * b) * (g * mz_cr p1 q1 p q) = (p * a + q * b) * (g * mz_cr p1 q1 a b) := by
  have e : (a * a + b * b) * (g * mz_cr p1 q1 p q) - (p * a + q * b) * (g * mz_cr p1 q1 a b) = -(g * (p1 * a + q1 * b)) * (p * b - q * a) := by clear h; unfold mz_cr; grind
  rw [h, Int.mul_zero] at e
  omega
theorem mz_v9 {a b p q : Int} (g p2 q2 : Int) (h : p * b - q * a = 0) : (a * a + b * b) * (g * mz_cr p q p2 q2) = (p * a + q * b) * (g * mz_cr a b p2 q2) := by
  have e : (a * a + b * b) * (g * mz_cr p q p2 q2) - (p * a + q * b) * (g * mz_cr a b p2 q2) = (g * (p2 * a + q2 * b)) * (p * b - q * a) := by clear h; unfold mz_cr; grind
  rw [h, Int.mul_zero] at e
  omega
theorem mz_neg1 {x y : Int} (hx : x ≤ 0) (hy : 0 < y) : x * y ≤ 0 := Int.mul_nonpos_of_nonpos_of_nonneg hx (Int.le_of_lt hy)
theorem mz_vertex {G : mz_G} {a b : Int} (hab : ¬ (a = 0 ∧ b = 0)) (hF : mz_Feas G) {p1 q1 r1 p2 q2 r2 g : Int} (m1 : (p1, q1, r1) ∈ G) (m2 : (p2, q2, r2) ∈ G) (hg : g = 1 ∨ g = -1)
    (hd : 0 < g * mz_cr p1 q1 p2 q2) (h1 : 0 < g * mz_cr a b p2 q2) (h2 : 0 < g * mz_cr p1 q1 a b)
    (hmin : ∀ t d, mz_DC G a b t d → (r1 * (g * mz_cr a b p2 q2) + r2 * (g * mz_cr p1 q1 a b)) * d ≤ t * (g * mz_cr p1 q1 p2 q2)) :
    mz_ft G (g * (r1 * q2 - r2 * q1)) (g * (p1 * r2 - p2 * r1)) (g * mz_cr p1 q1 p2 q2) := by
  intro p q r mw
  refine Int.not_lt.mp (fun hv => ?_)
  rw [mz_vV] at hv
  have eP := mz_vP g a b p q p1 q1 p2 q2
  have eS := mz_sw g a b p q
  have hbad : ¬ (g * mz_cr p1 q1 p q ≤ 0 ∧ g * mz_cr p q p2 q2 ≤ 0) := by
    rintro ⟨n1, n2⟩
    obtain ⟨X0, Y0, D0, hD0, hft⟩ := hF
    exact mz_l4 (v := p * X0 + q * Y0) (v1 := p1 * X0 + q1 * Y0) (v2 := p2 * X0 + q2 * Y0) hv hD0 hd n1 n2 (hft _ _ _ m1) (hft _ _ _ m2) (hft _ _ _ mw) (mz_v3 g p q p1 q1 p2 q2 X0 Y0)
  rcases Int.lt_trichotomy (g * mz_cr a b p q) 0 with hs | hs | hs
  · by_cases hk : 0 < g * mz_cr p q p2 q2
    · have hm := hmin _ _ (Or.inr ⟨_, _, _, _, _, _, mw, m2, g, hg, hk, Int.le_of_lt h1, by omega, rfl, rfl⟩)
      rw [eS] at hm
      exact mz_l2 eP hv h1 hm
    · refine hbad ⟨?_, by omega⟩
      refine Int.not_lt.mp (fun hk1 => ?_)
      have x1 := Int.mul_pos h1 hk1
      have x2 := Int.mul_neg_of_neg_of_pos hs hd
      have x3 := mz_neg1 (show g * mz_cr p q p2 q2 ≤ 0 by omega) h2
      rw [Int.mul_comm] at x3
      omega
  · by_cases hdot : 0 < p * a + q * b
    · have hcr : mz_cr p q a b = 0 := by
        rw [hs] at eS
        rcases hg with rfl | rfl <;> omega
      obtain ⟨hS, hT, ea, eb⟩ := mz_par hcr hdot
      have hm := hmin _ _ (Or.inl ⟨_, _, _, mw, hcr, hdot, rfl, rfl⟩)
      refine mz_l3 (S := mz_n a b) (T := mz_n p q) ?_ ?_ hv hS hm
      · rw [mz_v4, ea, eb, mz_v6]
      · rw [mz_v5, ea, eb, mz_v7]
    · have hN := mz_n2 hab
      have hcr : p * b - q * a = 0 := by
        rw [hs] at eS
        have : mz_cr p q a b = 0 := by rcases hg with rfl | rfl <;> omega
        exact this
      have x1 := mz_v8 g p1 q1 hcr
      have x2 := mz_v9 g p2 q2 hcr
      refine hbad ⟨Int.not_lt.mp (fun z => ?_), Int.not_lt.mp (fun z => ?_)⟩
      · have y1 := Int.mul_pos hN z
        have y2 := mz_neg1 (show p * a + q * b ≤ 0 by omega) h2
        omega
      · have y1 := Int.mul_pos hN z
        have y2 := mz_neg1 (show p * a + q * b ≤ 0 by omega) h1
        omega
  · by_cases hk : 0 < g * mz_cr p1 q1 p q
    · have hm := hmin _ _ (Or.inr ⟨_, _, _, _, _, _, m1, mw, g, hg, hk, Int.le_of_lt hs, Int.le_of_lt h2, rfl, rfl⟩)
      exact mz_l1 eP hv h2 hm
    · refine hbad ⟨by omega, ?_⟩
      refine Int.not_lt.mp (fun hk2 => ?_)
      have x1 := Int.mul_pos h2 hk2
      have x2 := Int.mul_pos hs hd
      have x3 := mz_neg1 (show g * mz_cr p1 q1 p q ≤ 0 by omega) h1
      rw [Int.mul_comm] at x3
      omega
