/-! Small numbers: Int32 and Int64 as whole numbers, with a bound -/
def v64 (z : Int64) (Z : Int) (k : Nat) : Prop := z.toInt = Z ∧ Z.natAbs ≤ k
def v32 (z : Int32) (Z : Int) (k : Nat) : Prop := z.toInt = Z ∧ Z.natAbs ≤ k
theorem v64_le {a : Int64} {A : Int} {j k : Nat} (h : v64 a A j) (hk : j ≤ k) : v64 a A k := ⟨h.1, Nat.le_trans h.2 hk⟩
theorem v32_le {a : Int32} {A : Int} {j k : Nat} (h : v32 a A j) (hk : j ≤ k) : v32 a A k := ⟨h.1, Nat.le_trans h.2 hk⟩
theorem v64_mul {a b : Int64} {A B : Int} {j k : Nat} (h1 : v64 a A j) (h2 : v64 b B k) (h : j * k < 9223372036854775808) : v64 (a * b) (A * B) (j * k) := by
  have hb : (A * B).natAbs ≤ j * k := by rw [Int.natAbs_mul]; exact Nat.mul_le_mul h1.2 h2.2
  refine ⟨?_, hb⟩
  rw [Int64.toInt_mul, h1.1, h2.1]
  exact Int.bmod_eq_of_le (by omega) (by omega)
theorem v64_add {a b : Int64} {A B : Int} {j k : Nat} (h1 : v64 a A j) (h2 : v64 b B k) (h : j + k < 9223372036854775808) : v64 (a + b) (A + B) (j + k) := by
  have a1 := h1.2
  have a2 := h2.2
  have hb : (A + B).natAbs ≤ j + k := by omega
  refine ⟨?_, hb⟩
  rw [Int64.toInt_add, h1.1, h2.1]
  exact Int.bmod_eq_of_le (by omega) (by omega)
theorem v64_sub {a b : Int64} {A B : Int} {j k : Nat} (h1 : v64 a A j) (h2 : v64 b B k) (h : j + k < 9223372036854775808) : v64 (a - b) (A - B) (j + k) := by
  have a1 := h1.2
  have a2 := h2.2
  have hb : (A - B).natAbs ≤ j + k := by omega
  refine ⟨?_, hb⟩
  rw [Int64.toInt_sub, h1.1, h2.1]
  exact Int.bmod_eq_of_le (by omega) (by omega)
theorem v64_neg {a : Int64} {A : Int} {j : Nat} (h1 : v64 a A j) (h : j < 9223372036854775808) : v64 (-a) (-A) j := by
  have a1 := h1.2
  refine ⟨?_, by omega⟩
  rw [Int64.toInt_neg, h1.1]
  exact Int.bmod_eq_of_le (by omega) (by omega)
theorem v32_mul {a b : Int32} {A B : Int} {j k : Nat} (h1 : v32 a A j) (h2 : v32 b B k) (h : j * k < 2147483648) : v32 (a * b) (A * B) (j * k) := by
  have hb : (A * B).natAbs ≤ j * k := by rw [Int.natAbs_mul]; exact Nat.mul_le_mul h1.2 h2.2
  refine ⟨?_, hb⟩
  rw [Int32.toInt_mul, h1.1, h2.1]
  exact Int.bmod_eq_of_le (by omega) (by omega)
theorem v32_add {a b : Int32} {A B : Int} {j k : Nat} (h1 : v32 a A j) (h2 : v32 b B k) (h : j + k < 2147483648) : v32 (a + b) (A + B) (j + k) := by
  have a1 := h1.2
  have a2 := h2.2
  have hb : (A + B).natAbs ≤ j + k := by omega
  refine ⟨?_, hb⟩
  rw [Int32.toInt_add, h1.1, h2.1]
  exact Int.bmod_eq_of_le (by omega) (by omega)
theorem v32_sub {a b : Int32} {A B : Int} {j k : Nat} (h1 : v32 a A j) (h2 : v32 b B k) (h : j + k < 2147483648) : v32 (a - b) (A - B) (j + k) := by
  have a1 := h1.2
  have a2 := h2.2
  have hb : (A - B).natAbs ≤ j + k := by omega
  refine ⟨?_, hb⟩
  rw [Int32.toInt_sub, h1.1, h2.1]
  exact Int.bmod_eq_of_le (by omega) (by omega)
theorem v32_neg {a : Int32} {A : Int} {j : Nat} (h1 : v32 a A j) (h : j < 2147483648) : v32 (-a) (-A) j := by
  have a1 := h1.2
  refine ⟨?_, by omega⟩
  rw [Int32.toInt_neg, h1.1]
  exact Int.bmod_eq_of_le (by omega) (by omega)
theorem v32_64 {a : Int32} {A : Int} {j : Nat} (h : v32 a A j) : v64 a.toInt64 A j := ⟨by rw [Int32.toInt_toInt64]; exact h.1, h.2⟩
theorem v64_lt {a b : Int64} {A B : Int} {j k : Nat} (h1 : v64 a A j) (h2 : v64 b B k) : a < b ↔ A < B := by rw [Int64.lt_iff_toInt_lt, h1.1, h2.1]
theorem v64_eq {a b : Int64} {A B : Int} {j k : Nat} (h1 : v64 a A j) (h2 : v64 b B k) : a = b ↔ A = B := by rw [← Int64.toInt_inj, h1.1, h2.1]
theorem v32_lt {a b : Int32} {A B : Int} {j k : Nat} (h1 : v32 a A j) (h2 : v32 b B k) : a < b ↔ A < B := by rw [Int32.lt_iff_toInt_lt, h1.1, h2.1]
theorem v32_eq {a b : Int32} {A B : Int} {j k : Nat} (h1 : v32 a A j) (h2 : v32 b B k) : a = b ↔ A = B := by rw [← Int32.toInt_inj, h1.1, h2.1]
theorem v64_0 : v64 0 0 0 := ⟨rfl, by decide⟩
theorem v64_1 : v64 1 1 1 := ⟨rfl, by decide⟩
theorem v64_m1 : v64 (-1) (-1) 1 := ⟨rfl, by decide⟩
theorem v32_0 : v32 0 0 0 := ⟨rfl, by decide⟩
theorem v32_1 : v32 1 1 1 := ⟨rfl, by decide⟩
theorem v32_of {a : Int32} {k : Nat} (h : a.toInt.natAbs ≤ k) : v32 a a.toInt k := ⟨rfl, h⟩
abbrev tI (f : Nat → Int32) : Nat → Int := fun i => (f i).toInt
/-- the rows of a guard are in their ranges -/
def rk (fp fq fr : Nat → Int32) (n : Nat) : Prop := ∀ i, i < n → (fp i).toInt.natAbs ≤ 9 ∧ (fq i).toInt.natAbs ≤ 9 ∧ (fr i).toInt.natAbs ≤ 99
def V2 (s : Int64 × Int64) (S : Int × Int) : Prop := v64 s.1 S.1 213840 ∧ v64 s.2 S.2 162
theorem g_cross_v {a b c d : Int64} {A B C D : Int} {j k : Nat} (ha : v64 a A j) (hb : v64 b B j) (hc : v64 c C k) (hd : v64 d D k) (h : j * k + j * k < 9223372036854775808) : v64 (g_cross a b c d) (mz_cr A B C D) (j * k + j * k) := by
  unfold g_cross mz_cr
  exact v64_sub (v64_mul ha hd (by omega)) (v64_mul hb hc (by omega)) h
theorem g_abs_v {x : Int32} {X : Int} {k : Nat} (h : v32 x X k) (hk : k < 2147483648) : v32 (g_abs x) (X.natAbs : Int) k := by
  have h2 := h.2
  unfold g_abs
  by_cases c : 0 ≤ x
  · rw [if_pos c]
    have c' : 0 ≤ X := by
      have := Int32.le_iff_toInt_le.mp c
      rw [h.1] at this
      exact this
    exact ⟨by rw [h.1]; omega, by omega⟩
  · rw [if_neg c]
    have c' : ¬ 0 ≤ X := by
      intro z
      apply c
      rw [Int32.le_iff_toInt_le, h.1]
      exact z
    have r := v32_sub v32_0 h (by omega)
    exact ⟨by rw [r.1]; omega, by omega⟩
theorem g_lo_v {s : Int64 × Int64} {S : Int × Int} {t d : Int64} {T D : Int} (hs : V2 s S) (ht : v64 t T 213840) (hd : v64 d D 162) : V2 (g_lo s t d) (mz_lo S T D) := by
  have e0 : s.2 = 0 ↔ S.2 = 0 := v64_eq hs.2 v64_0
  have e1 : t * s.2 < s.1 * d ↔ T * S.2 < S.1 * D := v64_lt (v64_mul ht hs.2 (by decide)) (v64_mul hs.1 hd (by decide))
  unfold g_lo mz_lo
  by_cases c0 : s.2 = 0
  · rw [if_pos c0, if_pos (Or.inl (e0.mp c0))]; exact ⟨ht, hd⟩
  · rw [if_neg c0]
    by_cases c1 : t * s.2 < s.1 * d
    · rw [if_pos c1, if_pos (Or.inr (e1.mp c1))]; exact ⟨ht, hd⟩
    · rw [if_neg c1, if_neg (fun z => z.elim (fun z => c0 (e0.mpr z)) (fun z => c1 (e1.mpr z)))]; exact hs
theorem g_row_v {fp fq fr : Nat → Int32} {n i : Nat} {a b : Int32} {A B : Int} {s : Int64 × Int64} {S : Int × Int} (hr : rk fp fq fr n) (hi : i < n) (ha : v32 a A 60) (hb : v32 b B 60) (hs : V2 s S) : V2 (g_row fp fq fr a b i s) (mz_rs A B (tI fp i) (tI fq i) (tI fr i) S) := by
  obtain ⟨h1, h2, h3⟩ := hr i hi
  have p := v32_of h1
  have q := v32_of h2
  have r := v32_of h3
  have ec : g_cross (fp i).toInt64 (fq i).toInt64 a.toInt64 b.toInt64 = 0 ↔ mz_cr (tI fp i) (tI fq i) A B = 0 := v64_eq (g_cross_v (v32_64 p) (v32_64 q) (v32_64 ha) (v32_64 hb) (by decide)) v64_0
  have ed : 0 < fp i * a + fq i * b ↔ 0 < tI fp i * A + tI fq i * B := v32_lt v32_0 (v32_add (v32_mul p ha (by decide)) (v32_mul q hb (by decide)) (by decide))
  have et := v64_mul (v32_64 r) (v32_64 (v32_add (g_abs_v ha (by decide)) (g_abs_v hb (by decide)) (by decide))) (by decide)
  have eb := v32_64 (v32_add (g_abs_v p (by decide)) (g_abs_v q (by decide)) (by decide))
  unfold g_row mz_rs
  by_cases c1 : g_cross (fp i).toInt64 (fq i).toInt64 a.toInt64 b.toInt64 = 0
  · rw [if_pos c1]
    by_cases c2 : 0 < fp i * a + fq i * b
    · rw [if_pos c2, if_pos ⟨ec.mp c1, ed.mp c2⟩]
      exact g_lo_v hs (v64_le et (by decide)) (v64_le eb (by decide))
    · rw [if_neg c2, if_neg (fun z => c2 (ed.mpr z.2))]; exact hs
  · rw [if_neg c1, if_neg (fun z => c1 (ec.mpr z.1))]; exact hs
theorem g_sg_v {c : Int64} {C : Int} {k : Nat} (h : v64 c C k) : v64 (g_sg c) (mz_sg C) 1 := by
  have e := v64_lt h v64_0
  unfold g_sg mz_sg
  by_cases z : c < 0
  · rw [if_pos z, if_pos (e.mp z)]; exact v64_m1
  · rw [if_neg z, if_neg (fun y => z (e.mpr y))]; exact v64_1
theorem g_pair_v {fp fq fr : Nat → Int32} {n i j : Nat} {a b : Int32} {A B : Int} {s : Int64 × Int64} {S : Int × Int} (hr : rk fp fq fr n) (hi : i < n) (hj : j < n) (ha : v32 a A 60) (hb : v32 b B 60) (hs : V2 s S) : V2 (g_pair fp fq fr a b i j s) (mz_ps A B (tI fp i) (tI fq i) (tI fr i) (tI fp j) (tI fq j) (tI fr j) S) := by
  obtain ⟨h1, h2, h3⟩ := hr i hi
  obtain ⟨k1, k2, k3⟩ := hr j hj
  have c := g_cross_v (v32_64 (v32_of h1)) (v32_64 (v32_of h2)) (v32_64 (v32_of k1)) (v32_64 (v32_of k2)) (by decide)
  have gi := g_cross_v (v32_64 ha) (v32_64 hb) (v32_64 (v32_of k1)) (v32_64 (v32_of k2)) (by decide)
  have gj := g_cross_v (v32_64 (v32_of h1)) (v32_64 (v32_of h2)) (v32_64 ha) (v32_64 hb) (by decide)
  have sg := g_sg_v c
  have ti := v64_mul sg gi (by decide)
  have tj := v64_mul sg gj (by decide)
  have dd := v64_mul sg c (by decide)
  have tt := v64_add (v64_mul (v32_64 (v32_of h3)) ti (by decide)) (v64_mul (v32_64 (v32_of k3)) tj (by decide)) (by decide)
  have e0 := v64_eq c v64_0
  have e1 := v64_lt ti v64_0
  have e2 := v64_lt tj v64_0
  unfold g_pair mz_ps
  by_cases c0 : g_cross (fp i).toInt64 (fq i).toInt64 (fp j).toInt64 (fq j).toInt64 = 0
  · rw [if_pos c0, if_neg (fun z => z.1 (e0.mp c0))]; exact hs
  · rw [if_neg c0]
    by_cases c1 : g_sg (g_cross (fp i).toInt64 (fq i).toInt64 (fp j).toInt64 (fq j).toInt64) * g_cross a.toInt64 b.toInt64 (fp j).toInt64 (fq j).toInt64 < 0
    · rw [if_pos c1, if_neg (fun z => absurd (e1.mp c1) (Int.not_lt.mpr z.2.1))]; exact hs
    · rw [if_neg c1]
      by_cases c2 : g_sg (g_cross (fp i).toInt64 (fq i).toInt64 (fp j).toInt64 (fq j).toInt64) * g_cross (fp i).toInt64 (fq i).toInt64 a.toInt64 b.toInt64 < 0
      · rw [if_pos c2, if_neg (fun z => absurd (e2.mp c2) (Int.not_lt.mpr z.2.2))]; exact hs
      · rw [if_neg c2, if_pos ⟨fun z => c0 (e0.mpr z), Int.not_lt.mp (fun z => c1 (e1.mpr z)), Int.not_lt.mp (fun z => c2 (e2.mpr z))⟩]
        exact g_lo_v hs (v64_le tt (by decide)) (v64_le dd (by decide))
theorem g_in_v {fp fq fr : Nat → Int32} {n i : Nat} {a b : Int32} {A B : Int} (hr : rk fp fq fr n) (hi : i < n) (ha : v32 a A 60) (hb : v32 b B 60) : ∀ (k j : Nat) (s : Int64 × Int64) (S : Int × Int), j + k ≤ n → V2 s S → V2 (g_in fp fq fr a b i k j s) (mz_in (tI fp) (tI fq) (tI fr) A B i k j S) := by
  intro k
  induction k with
  | zero => intro j s S _ h; exact h
  | succ k ih => intro j s S hj h; exact ih (j + 1) _ _ (by omega) (g_pair_v hr hi (by omega) ha hb h)
theorem g_out_v {fp fq fr : Nat → Int32} {n : Nat} {a b : Int32} {A B : Int} (hr : rk fp fq fr n) (ha : v32 a A 60) (hb : v32 b B 60) : ∀ (k i : Nat) (s : Int64 × Int64) (S : Int × Int), i + k ≤ n → V2 s S → V2 (g_out fp fq fr a b k i s) (mz_out (tI fp) (tI fq) (tI fr) A B k i S) := by
  intro k
  induction k with
  | zero => intro i s S _ h; exact h
  | succ k ih => intro i s S hi h; exact ih (i + 1) _ _ (by omega) (g_in_v hr (by omega) ha hb k (i + 1) _ _ (by omega) (g_row_v hr (by omega) ha hb h))
theorem g_max_v {fp fq fr : Nat → Int32} {n : Nat} {a b : Int32} {A B : Int} (hr : rk fp fq fr n) (ha : v32 a A 60) (hb : v32 b B 60) : V2 (g_max fp fq fr n a b) (mz_ca (tI fp) (tI fq) (tI fr) n A B) := by
  have ea := v32_eq ha v32_0
  have eb := v32_eq hb v32_0
  have hz : V2 (0, 0) (0, 0) := ⟨v64_le v64_0 (by decide), v64_le v64_0 (by decide)⟩
  unfold g_max mz_ca
  by_cases c1 : a = 0
  · rw [if_pos c1]
    by_cases c2 : b = 0
    · rw [if_pos c2, if_pos ⟨ea.mp c1, eb.mp c2⟩]
      exact ⟨v64_le v64_0 (by decide), v64_le v64_1 (by decide)⟩
    · rw [if_neg c2, if_neg (fun z => c2 (eb.mpr z.2))]
      exact g_out_v hr ha hb n 0 _ _ (by omega) hz
  · rw [if_neg c1, if_neg (fun z => c1 (ea.mpr z.1))]
    exact g_out_v hr ha hb n 0 _ _ (by omega) hz
