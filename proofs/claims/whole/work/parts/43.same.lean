/-! The class's data and the reference's, side by side -/
theorem mz_in_cg {P Q R P' Q' R' : Nat → Int} {n : Nat} (h : ∀ i, i < n → P i = P' i ∧ Q i = Q' i ∧ R i = R' i) (a b : Int) {i : Nat} (hi : i < n) : ∀ (k j : Nat) (s : Int × Int), j + k ≤ n → mz_in P Q R a b i k j s = mz_in P' Q' R' a b i k j s := by
  intro k
  induction k with
  | zero => intro j s _; rfl
  | succ k ih =>
    intro j s hj
    obtain ⟨a1, a2, a3⟩ := h i hi
    obtain ⟨b1, b2, b3⟩ := h j (by omega)
    show mz_in P Q R a b i k (j + 1) (mz_ps a b (P i) (Q i) (R i) (P j) (Q j) (R j) s) = mz_in P' Q' R' a b i k (j + 1) (mz_ps a b (P' i) (Q' i) (R' i) (P' j) (Q' j) (R' j) s)
    rw [ih (j + 1) _ (by omega), a1, a2, a3, b1, b2, b3]
theorem mz_out_cg {P Q R P' Q' R' : Nat → Int} {n : Nat} (h : ∀ i, i < n → P i = P' i ∧ Q i = Q' i ∧ R i = R' i) (a b : Int) : ∀ (k i : Nat) (s : Int × Int), i + k ≤ n → mz_out P Q R a b k i s = mz_out P' Q' R' a b k i s := by
  intro k
  induction k with
  | zero => intro i s _; rfl
  | succ k ih =>
    intro i s hi
    obtain ⟨a1, a2, a3⟩ := h i (by omega)
    show mz_out P Q R a b k (i + 1) (mz_in P Q R a b i k (i + 1) (mz_rs a b (P i) (Q i) (R i) s)) = mz_out P' Q' R' a b k (i + 1) (mz_in P' Q' R' a b i k (i + 1) (mz_rs a b (P' i) (Q' i) (R' i) s))
    rw [mz_in_cg h a b (show i < n by omega) k (i + 1) _ (by omega), ih (i + 1) _ (by omega), a1, a2, a3]
theorem mz_ca_cg {P Q R P' Q' R' : Nat → Int} {n : Nat} (h : ∀ i, i < n → P i = P' i ∧ Q i = Q' i ∧ R i = R' i) (a b : Int) : mz_ca P Q R n a b = mz_ca P' Q' R' n a b := by
  unfold mz_ca
  rw [mz_out_cg h a b n 0 _ (by omega)]
theorem mz_L_cg {P Q R P' Q' R' : Nat → Int} {n : Nat} (h : ∀ i, i < n → P i = P' i ∧ Q i = Q' i ∧ R i = R' i) : mz_L P Q R n = mz_L P' Q' R' n := by
  unfold mz_L
  refine List.map_congr_left (fun i hi => ?_)
  obtain ⟨a, b, c⟩ := h i (List.mem_range.mp hi)
  rw [a, b, c]
def rl (up : Nat → Int32) (b : Nat) : Prop := ((up b).toInt.natAbs ≤ 3 ∧ (up (b + 1)).toInt.natAbs ≤ 3 ∧ (up (b + 2)).toInt.natAbs ≤ 20) ∧ (up (b + 3)).toInt.natAbs ≤ 3 ∧ (up (b + 4)).toInt.natAbs ≤ 3 ∧ (up (b + 5)).toInt.natAbs ≤ 20
abbrev mzL (fp fq fr : Nat → Int32) (b0 n : Nat) : mz_G := mz_L (tI (sh b0 fp)) (tI (sh b0 fq)) (tI (sh b0 fr)) n
def Rq (d : bDt) (fp fq fr up : Nat → Int32) (t n : Nat) : Prop :=
  d.2.1.1 = n ∧ n ≤ 4 ∧ (∀ j, j < n → d.1.1 j = fp (4 * t + j) ∧ d.1.2.1 j = fq (4 * t + j) ∧ d.1.2.2 j = fr (4 * t + j)) ∧ rk (sh (4 * t) fp) (sh (4 * t) fq) (sh (4 * t) fr) n ∧ (∀ k, k < 6 → d.2.2 k = up (6 * t + k)) ∧ rl up (6 * t) ∧ (d.2.1.2 = 0 ∨ d.2.1.2 = 1) ∧ (d.2.1.2 = 0 ↔ mz_Feas (mzL fp fq fr (4 * t) n))
section RQ
variable {d : bDt} {fp fq fr up : Nat → Int32} {t n : Nat}
theorem q_rk (h : Rq d fp fq fr up t n) : rk d.1.1 d.1.2.1 d.1.2.2 n := by
  obtain ⟨-, -, h3, h4, -⟩ := h
  intro i hi
  obtain ⟨a, b, c⟩ := h3 i hi
  rw [a, b, c]
  exact h4 i hi
theorem q_max (h : Rq d fp fq fr up t n) {u v : Int32} {U V : Int} (hu : v32 u U 60) (hv : v32 v V 60) : V2 (g_max d.1.1 d.1.2.1 d.1.2.2 d.2.1.1 u v) (mz_ca (tI (sh (4 * t) fp)) (tI (sh (4 * t) fq)) (tI (sh (4 * t) fr)) n U V) := by
  have r := g_max_v (q_rk h) hu hv
  obtain ⟨h1, -, h3, -⟩ := h
  rw [h1]
  rw [mz_ca_cg (P' := tI (sh (4 * t) fp)) (Q' := tI (sh (4 * t) fq)) (R' := tI (sh (4 * t) fr)) (fun i hi => by
    obtain ⟨a, b, c⟩ := h3 i hi
    exact ⟨congrArg Int32.toInt a, congrArg Int32.toInt b, congrArg Int32.toInt c⟩) U V] at r
  exact r
theorem q_emp (h : Rq d fp fq fr up t n) : d.2.1.2 = 0 ↔ m_emp fp fq fr (4 * t) n = 0 := h.2.2.2.2.2.2.2.trans (m_emp_v h.2.2.2.1).symm
theorem q_said (h : Rq d fp fq fr up t n) {u v : Int32} {U V : Int} (hu : v32 u U 60) (hv : v32 v V 60) : (g_max d.1.1 d.1.2.1 d.1.2.2 d.2.1.1 u v).2 = 0 ↔ m_said fp fq (4 * t) n u v = 0 := by
  rw [m_said_v h.2.2.2.1 hu hv]
  exact v64_eq (q_max h hu hv).2 v64_0
theorem q_both (h : Rq d fp fq fr up t n) {u v : Int32} {U V : Int} (hu : v32 u U 60) (hv : v32 v V 60) (he : d.2.1.2 = 0) (hs : ¬ m_said fp fq (4 * t) n u v = 0) : ∃ T1 D1 T2 D2 : Int, 0 < D1 ∧ 0 < D2 ∧ T1 * D2 = T2 * D1 ∧ v64 (g_max d.1.1 d.1.2.1 d.1.2.2 d.2.1.1 u v).1 T1 213840 ∧ v64 (g_max d.1.1 d.1.2.1 d.1.2.2 d.2.1.1 u v).2 D1 162 ∧ v64 (m_lk fp fq fr (4 * t) n u v).2.1 T2 213840 ∧ v64 (m_lk fp fq fr (4 * t) n u v).2.2 D2 162 := by
  have a := q_max h hu hv
  have b := m_lk_v h.2.2.2.1 hu hv
  have hF := h.2.2.2.2.2.2.2.mp he
  rw [m_said_v h.2.2.2.1 hu hv] at hs
  obtain ⟨x1, x2, x3, -⟩ := mz_ca_eq hF hs
  exact ⟨_, _, _, _, x1, x2, x3, a.1, a.2, b.2.1, b.2.2⟩
theorem v64_u {a b : Int64} {A : Int} {j k : Nat} (h1 : v64 a A j) (h2 : v64 b A k) : a = b := Int64.toInt_inj.mp (h1.1.trans h2.1.symm)
theorem q_rnd (h : Rq d fp fq fr up t n) {u v : Int32} {U V : Int} (hu : v32 u U 60) (hv : v32 v V 60) (he : d.2.1.2 = 0) (hs : ¬ m_said fp fq (4 * t) n u v = 0) : g_rnd (g_max d.1.1 d.1.2.1 d.1.2.2 d.2.1.1 u v).1 (g_max d.1.1 d.1.2.1 d.1.2.2 d.2.1.1 u v).2 = m_dn (m_lk fp fq fr (4 * t) n u v).2.1 (m_lk fp fq fr (4 * t) n u v).2.2 := by
  have hz : ¬ (g_max d.1.1 d.1.2.1 d.1.2.2 d.2.1.1 u v).2 = 0 := fun z => hs ((q_said h hu hv).mp z)
  obtain ⟨T1, D1, T2, D2, x1, x2, x3, a1, a2, b1, b2⟩ := q_both h hu hv he hs
  unfold g_rnd
  rw [if_neg hz]
  have r1 := fd_v a1 a2 x1
  have r2 := dn_v b1 b2 x2
  rw [fd_eq x1 x2 x3] at r1
  exact v64_u r1 r2
theorem q_b (h : Rq d fp fq fr up t n) {u v : Int32} {U V : Int} (hu : v32 u U 60) (hv : v32 v V 60) (he : d.2.1.2 = 0) (hs : ¬ m_said fp fq (4 * t) n u v = 0) : ∃ Z : Int, v64 (g_rnd (g_max d.1.1 d.1.2.1 d.1.2.2 d.2.1.1 u v).1 (g_max d.1.1 d.1.2.1 d.1.2.2 d.2.1.1 u v).2) Z 213841 := by
  obtain ⟨T1, D1, T2, D2, x1, x2, x3, a1, a2, b1, b2⟩ := q_both h hu hv he hs
  rw [q_rnd h hu hv he hs]
  exact ⟨_, dn_v b1 b2 x2⟩
theorem q_lt (h : Rq d fp fq fr up t n) {u v : Int32} {U V : Int} (hu : v32 u U 60) (hv : v32 v V 60) (he : d.2.1.2 = 0) (hs : ¬ m_said fp fq (4 * t) n u v = 0) {x : Int64} {X : Int} (hx : v64 x X 1000) : x * (g_max d.1.1 d.1.2.1 d.1.2.2 d.2.1.1 u v).2 < (g_max d.1.1 d.1.2.1 d.1.2.2 d.2.1.1 u v).1 ↔ x * (m_lk fp fq fr (4 * t) n u v).2.2 < (m_lk fp fq fr (4 * t) n u v).2.1 := by
  obtain ⟨T1, D1, T2, D2, x1, x2, x3, a1, a2, b1, b2⟩ := q_both h hu hv he hs
  rw [v64_lt (v64_mul hx a2 (by decide)) a1, v64_lt (v64_mul hx b2 (by decide)) b1]
  have e1 : X * D1 < T1 ↔ X * D1 * D2 < T1 * D2 := (Int.mul_lt_mul_right x2).symm
  have e2 : X * D2 < T2 ↔ X * D2 * D1 < T2 * D1 := (Int.mul_lt_mul_right x1).symm
  rw [e1, e2, x3, Int.mul_assoc, Int.mul_assoc, Int.mul_comm D1 D2]
/-! bounds of an argument -/
theorem qw_eq {k6 : Int64} {k3 : Int32} {K : Int} (u : Int32) (a1 : k6.toInt = K) (a2 : (-k6).toInt = -K) (b1 : k3.toInt = K) (b2 : (-k3).toInt = -K) : r_w u.toInt64 k6 = m_wi u k3 := by
  have e1 : u.toInt64 < -k6 ↔ u < -k3 := by rw [Int64.lt_iff_toInt_lt, Int32.lt_iff_toInt_lt, Int32.toInt_toInt64, a2, b2]
  have e2 : k6 < u.toInt64 ↔ k3 < u := by rw [Int64.lt_iff_toInt_lt, Int32.lt_iff_toInt_lt, Int32.toInt_toInt64, a1, b1]
  unfold r_w m_wi
  by_cases c1 : u < -k3
  · rw [if_pos c1, if_pos (e1.mpr c1)]
  · rw [if_neg c1, if_neg (fun z => c1 (e1.mp z))]
    by_cases c2 : k3 < u
    · rw [if_pos c2, if_pos (e2.mpr c2)]
    · rw [if_neg c2, if_neg (fun z => c2 (e2.mp z))]
theorem qw_in {k3 u : Int32} {K : Nat} (b1 : k3.toInt = K) (b2 : (-k3).toInt = -(K : Int)) (h : ¬ m_wi u k3 = 0) : v32 u u.toInt K := by
  refine ⟨rfl, ?_⟩
  unfold m_wi at h
  by_cases c1 : u < -k3
  · rw [if_pos c1] at h; exact absurd rfl h
  · rw [if_neg c1] at h
    by_cases c2 : k3 < u
    · rw [if_pos c2] at h; exact absurd rfl h
    · rw [Int32.lt_iff_toInt_lt, b2] at c1
      rw [Int32.lt_iff_toInt_lt, b1] at c2
      omega
theorem i32_0 (w : Int32) : 0 - w = -w := by grind
theorem i32_1 (w : Int32) : -1 - w = -(w + 1) := by grind
/-! the answers -/
theorem q_gr (h : Rq d fp fq fr up t n) (u v : Int32) : r_gr d u v = m_gr fp fq fr (4 * t) n u v := by
  unfold r_gr m_gr
  rw [qw_eq (k6 := 60) (k3 := 60) (K := 60) u rfl rfl rfl rfl, qw_eq (k6 := 60) (k3 := 60) (K := 60) v rfl rfl rfl rfl]
  by_cases c1 : m_wi u 60 = 0
  · rw [if_pos c1, if_pos c1]
  · rw [if_neg c1, if_neg c1]
    by_cases c2 : m_wi v 60 = 0
    · rw [if_pos c2, if_pos c2]
    · rw [if_neg c2, if_neg c2]
      have hu := qw_in (K := 60) rfl rfl c1
      have hv := qw_in (K := 60) rfl rfl c2
      by_cases c3 : d.2.1.2 = 0
      · rw [if_pos c3, if_pos ((q_emp h).mp c3)]
        by_cases c4 : m_said fp fq (4 * t) n u v = 0
        · rw [if_pos c4]
          unfold g_rnd
          rw [if_pos ((q_said h hu hv).mpr c4)]
        · rw [if_neg c4]
          exact q_rnd h hu hv c3 c4
      · rw [if_neg c3, if_neg (fun z => c3 ((q_emp h).mpr z))]
theorem q_nev (h : Rq d fp fq fr up t n) {a b w x : Int32} {A B X : Int} (ha : v32 a A 60) (hb : v32 b B 60) (hx : v32 x X 1000) (e : x = -w) : (if d.2.1.2 = 0 then g_atm (g_max d.1.1 d.1.2.1 d.1.2.2 d.2.1.1 a b).1 (g_max d.1.1 d.1.2.1 d.1.2.2 d.2.1.1 a b).2 x.toInt64 else 1) = m_nev fp fq fr (4 * t) n a b w := by
  unfold m_nev
  by_cases c3 : d.2.1.2 = 0
  · rw [if_pos c3, if_pos ((q_emp h).mp c3)]
    unfold g_atm
    by_cases c4 : m_said fp fq (4 * t) n a b = 0
    · rw [if_pos c4, if_pos ((q_said h ha hb).mpr c4)]
    · rw [if_neg c4, if_neg (fun z => c4 ((q_said h ha hb).mp z)), ← e]
      have el := q_lt h ha hb c3 c4 (v32_64 hx)
      by_cases c5 : x.toInt64 * (m_lk fp fq fr (4 * t) n a b).2.2 < (m_lk fp fq fr (4 * t) n a b).2.1
      · rw [if_pos c5, if_pos (el.mpr c5)]
      · rw [if_neg c5, if_neg (fun z => c5 (el.mp z))]
  · rw [if_neg c3, if_neg (fun z => c3 ((q_emp h).mpr z))]
theorem q_args (h : Rq d fp fq fr up t n) {u v : Int32} {U V : Int} (hu : v32 u U 4) (hv : v32 v V 4) : (∃ A B W : Int, v32 (u * up (6 * t) + v * up (6 * t + 3) - u) A 60 ∧ v32 (u * up (6 * t + 1) + v * up (6 * t + 4) - v) B 60 ∧ v32 (u * up (6 * t + 2) + v * up (6 * t + 5)) W 160) ∧ d.2.2 0 = up (6 * t) ∧ d.2.2 1 = up (6 * t + 1) ∧ d.2.2 2 = up (6 * t + 2) ∧ d.2.2 3 = up (6 * t + 3) ∧ d.2.2 4 = up (6 * t + 4) ∧ d.2.2 5 = up (6 * t + 5) := by
  obtain ⟨-, -, -, -, h5, ⟨⟨r0, r1, r2⟩, r3, r4, r5⟩, -⟩ := h
  refine ⟨⟨_, _, _, v32_le (v32_sub (v32_add (v32_mul hu (v32_of r0) (by decide)) (v32_mul hv (v32_of r3) (by decide)) (by decide)) hu (by decide)) (by decide), v32_le (v32_sub (v32_add (v32_mul hu (v32_of r1) (by decide)) (v32_mul hv (v32_of r4) (by decide)) (by decide)) hv (by decide)) (by decide), v32_add (v32_mul hu (v32_of r2) (by decide)) (v32_mul hv (v32_of r5) (by decide)) (by decide)⟩, ?_⟩
  exact ⟨h5 0 (by omega), h5 1 (by omega), h5 2 (by omega), h5 3 (by omega), h5 4 (by omega), h5 5 (by omega)⟩
theorem q_chg0 (h : Rq d fp fq fr up t n) {u v : Int32} {U V : Int} (hu : v32 u U 4) (hv : v32 v V 4) : s_chg d.1.1 d.1.2.1 d.1.2.2 d.2.1.1 d.2.1.2 d.2.2 u v 0 = m_has fp fq fr up t n u v 0 := by
  obtain ⟨⟨A, B, W, ha, hb, hw⟩, e0, e1, e2, e3, e4, e5⟩ := q_args h hu hv
  unfold s_chg m_has
  rw [e0, e1, e2, e3, e4, e5, if_neg (show ¬ (0 : Int32) = 2 by decide), if_pos (show (0 : Int32) = 0 from rfl)]
  exact q_nev h ha hb (v32_le (v32_sub v32_0 hw (by decide)) (by decide)) (i32_0 _)
theorem q_chg1 (h : Rq d fp fq fr up t n) {u v : Int32} {U V : Int} (hu : v32 u U 4) (hv : v32 v V 4) : s_chg d.1.1 d.1.2.1 d.1.2.2 d.2.1.1 d.2.1.2 d.2.2 u v (-1) = m_has fp fq fr up t n u v 1 := by
  obtain ⟨⟨A, B, W, ha, hb, hw⟩, e0, e1, e2, e3, e4, e5⟩ := q_args h hu hv
  unfold s_chg m_has
  rw [e0, e1, e2, e3, e4, e5, if_neg (show ¬ (1 : Int32) = 2 by decide), if_neg (show ¬ (1 : Int32) = 0 by decide)]
  exact q_nev h ha hb (v32_le (v32_sub (v32_neg v32_1 (by decide)) hw (by decide)) (by decide)) (i32_1 _)
theorem q_bnd (h : Rq d fp fq fr up t n) {u v : Int32} {U V : Int} (hu : v32 u U 4) (hv : v32 v V 4) : s_bnd d.1.1 d.1.2.1 d.1.2.2 d.2.1.1 d.2.1.2 u v = m_has fp fq fr up t n u v 2 := by
  have a := v32_le (v32_neg hu (by decide)) (show 4 ≤ 60 by decide)
  have b := v32_le (v32_neg hv (by decide)) (show 4 ≤ 60 by decide)
  unfold s_bnd m_has
  rw [if_pos rfl]
  unfold m_bd
  by_cases c3 : d.2.1.2 = 0
  · rw [if_pos c3, if_pos ((q_emp h).mp c3)]
    unfold g_has
    by_cases c4 : m_said fp fq (4 * t) n (-u) (-v) = 0
    · rw [if_pos c4, if_pos ((q_said h a b).mpr c4)]
    · rw [if_neg c4, if_neg (fun z => c4 ((q_said h a b).mp z))]
  · rw [if_neg c3, if_neg (fun z => c3 ((q_emp h).mpr z))]
theorem q_h3 (h : Rq d fp fq fr up t n) {u v : Int32} {U V : Int} (hu : v32 u U 4) (hv : v32 v V 4) (what : Int32) : r_h3 d u v what = m_ho2 fp fq fr up t n u v what := by
  unfold r_h3 m_ho2
  by_cases c0 : what = 0
  · subst c0
    rw [if_pos rfl, if_neg (by decide), if_neg (by decide)]
    exact q_chg0 h hu hv
  · rw [if_neg c0]
    by_cases c1 : what = 1
    · subst c1
      rw [if_pos rfl, if_neg (by decide), if_neg (by decide)]
      exact q_chg1 h hu hv
    · rw [if_neg c1]
      by_cases c2 : what = 2
      · subst c2
        rw [if_pos rfl, if_neg (by decide), if_neg (by decide)]
        exact q_bnd h hu hv
      · rw [if_neg c2]
        rcases ts_3 c0 c1 c2 with z | z
        · rw [if_pos (Int32.lt_iff_toInt_lt.mpr z)]
        · by_cases c3 : what < 0
          · rw [if_pos c3]
          · rw [if_neg c3, if_pos (show (2 : Int32) < what from Int32.lt_iff_toInt_lt.mpr z)]
theorem q_ho (h : Rq d fp fq fr up t n) (u v what : Int32) : r_ho d u v what = m_ho fp fq fr up t n u v what := by
  unfold r_ho m_ho
  rw [qw_eq (k6 := 4) (k3 := 4) (K := 4) u rfl rfl rfl rfl, qw_eq (k6 := 4) (k3 := 4) (K := 4) v rfl rfl rfl rfl]
  by_cases c1 : m_wi u 4 = 0
  · rw [if_pos c1, if_pos c1]
  · rw [if_neg c1, if_neg c1]
    by_cases c2 : m_wi v 4 = 0
    · rw [if_pos c2, if_pos c2]
    · rw [if_neg c2, if_neg c2, q_h3 h (qw_in (K := 4) rfl rfl c1) (qw_in (K := 4) rfl rfl c2) what]
/-! the least whole number below the values, and a run -/
theorem q_fl (h : Rq d fp fq fr up t n) {u v : Int32} {U V : Int} (hu : v32 u U 4) (hv : v32 v V 4) (he : d.2.1.2 = 0) (hb : ¬ m_has fp fq fr up t n u v 2 = 0) : c_fl d u v = m_lo fp fq fr t n u v ∧ ∃ Z : Int, v64 (c_fl d u v) Z 213841 := by
  have a := v32_le (v32_neg hu (by decide)) (show 4 ≤ 60 by decide)
  have b := v32_le (v32_neg hv (by decide)) (show 4 ≤ 60 by decide)
  unfold m_has at hb
  rw [if_pos rfl] at hb
  unfold m_bd at hb
  rw [if_pos ((q_emp h).mp he)] at hb
  have hs : ¬ m_said fp fq (4 * t) n (-u) (-v) = 0 := fun z => by rw [if_pos z] at hb; exact hb rfl
  unfold c_fl m_lo
  rw [if_neg hs]
  refine ⟨by rw [q_rnd h a b he hs], ?_⟩
  obtain ⟨Z, hZ⟩ := q_b h a b he hs
  exact ⟨_, v64_neg hZ (by decide)⟩
theorem g_al_sh {f1 f2 f3 fp fq fr : Nat → Int32} {b0 T : Nat} (h : ∀ j, j < T → f1 j = fp (b0 + j) ∧ f2 j = fq (b0 + j) ∧ f3 j = fr (b0 + j)) (x y : Int64) : ∀ k j, j + k ≤ T → g_al f1 f2 f3 x y k j = g_al fp fq fr x y k (b0 + j) := by
  intro k
  induction k with
  | zero => intro j _; rfl
  | succ k ih =>
    intro j hj
    obtain ⟨a, b, c⟩ := h j (by omega)
    have r := ih (j + 1) (by omega)
    unfold g_al
    rw [a, b, c, r]
    rfl
theorem q_nx (h : Rq d fp fq fr up t n) (x y : Int64) : r_nx d x y = m_nx up (6 * t) x y := by
  have h5 := h.2.2.2.2.1
  unfold r_nx s_next m_nx
  rw [if_pos rfl, h5 0 (by omega), h5 1 (by omega), h5 2 (by omega), Nat.add_zero]
theorem q_ny (h : Rq d fp fq fr up t n) (x y : Int64) : r_ny d x y = m_ny up (6 * t) x y := by
  have h5 := h.2.2.2.2.1
  unfold r_ny s_next m_ny
  rw [if_neg (by decide), h5 3 (by omega), h5 4 (by omega), h5 5 (by omega)]
theorem far_w (z : Int64) : r_w z 1000000000000 = 0 ↔ ¬ m_far z = 0 := by
  unfold r_w m_far
  by_cases c1 : z < -1000000000000
  · rw [if_pos c1, if_pos c1]; decide
  · rw [if_neg c1, if_neg c1]
    by_cases c2 : 1000000000000 < z
    · rw [if_pos c2, if_pos c2]; decide
    · rw [if_neg c2, if_neg c2]; decide
theorem q_fr (h : Rq d fp fq fr up t n) (x y : Int64) : r_fr d x y = m_fr fp fq fr up t n x y := by
  have e := g_al_sh (T := n) h.2.2.1 x y n 0 (by omega)
  rw [Nat.add_zero] at e
  unfold r_fr m_fr
  rw [h.1, e, q_nx h, q_ny h]
  by_cases c0 : g_al fp fq fr x y n (4 * t) = 0
  · rw [if_pos c0, if_pos c0]
  · rw [if_neg c0, if_neg c0]
    by_cases c1 : m_far (m_nx up (6 * t) x y) = 0
    · rw [if_pos c1, if_neg (fun z => (far_w _).mp z c1)]
      by_cases c2 : m_far (m_ny up (6 * t) x y) = 0
      · rw [if_pos c2, if_neg (fun z => (far_w _).mp z c2)]
      · rw [if_neg c2, if_pos ((far_w _).mpr c2)]
    · rw [if_neg c1, if_pos ((far_w _).mpr c1)]
end RQ
