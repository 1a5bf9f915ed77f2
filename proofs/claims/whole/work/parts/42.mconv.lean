/-! Rounding down -/
theorem fd_u {X Y q : Int} (hY : 0 < Y) (h1 : q * Y ≤ X) (h2 : X < q * Y + Y) : X / Y = q := by
  refine ((Int.ediv_emod_unique (a := X) (b := Y) (r := X - q * Y) (q := q) hY).mpr ⟨?_, by omega, by omega⟩).1
  rw [Int.mul_comm Y q]
  omega
theorem fd_t {X Y : Int} (hY : 0 < Y) : (0 ≤ X ∧ X.tdiv Y * Y ≤ X ∧ X < X.tdiv Y * Y + Y) ∨ (X < 0 ∧ X ≤ X.tdiv Y * Y ∧ X.tdiv Y * Y - Y < X) := by
  by_cases h : 0 ≤ X
  · refine Or.inl ⟨h, ?_⟩
    rw [Int.tdiv_eq_ediv_of_nonneg h]
    have e := Int.mul_ediv_add_emod X Y
    have m0 := Int.emod_nonneg X (show Y ≠ 0 by omega)
    have m1 := Int.emod_lt_of_pos X hY
    rw [Int.mul_comm] at e
    omega
  · refine Or.inr ⟨by omega, ?_⟩
    have e1 : X.tdiv Y = -((-X) / Y) := by
      rw [← Int.tdiv_eq_ediv_of_nonneg (show 0 ≤ -X by omega), Int.neg_tdiv]
      omega
    rw [e1, Int.neg_mul]
    have e := Int.mul_ediv_add_emod (-X) Y
    have m0 := Int.emod_nonneg (-X) (show Y ≠ 0 by omega)
    have m1 := Int.emod_lt_of_pos (-X) hY
    rw [Int.mul_comm] at e
    omega
theorem v64_div {a b : Int64} {A B : Int} {j k : Nat} (h1 : v64 a A j) (h2 : v64 b B k) (h : j < 9223372036854775808) : v64 (a / b) (A.tdiv B) j := by
  have hb : (A.tdiv B).natAbs ≤ j := by
    rw [Int.natAbs_tdiv]
    exact Nat.le_trans (Nat.div_le_self _ _) h1.2
  refine ⟨?_, hb⟩
  rw [Int64.toInt_div, h1.1, h2.1]
  exact Int.bmod_eq_of_le (by omega) (by omega)
theorem x64 (a b : Int64) : (a ^^^ b).toInt < 0 ↔ ¬ (a.toInt < 0 ↔ b.toInt < 0) := by
  have h1 : (a ^^^ b).toBitVec.msb = decide ((a ^^^ b).toInt < 0) := BitVec.msb_eq_toInt
  have h2 : a.toBitVec.msb = decide (a.toInt < 0) := BitVec.msb_eq_toInt
  have h3 : b.toBitVec.msb = decide (b.toInt < 0) := BitVec.msb_eq_toInt
  rw [Int64.toBitVec_xor, BitVec.msb_xor, h2, h3] at h1
  by_cases c1 : a.toInt < 0 <;> by_cases c2 : b.toInt < 0 <;> by_cases c3 : (a ^^^ b).toInt < 0 <;> simp [c1, c2, c3] at h1 ⊢
theorem fd_v {x y : Int64} {X Y : Int} (hx : v64 x X 213840) (hy : v64 y Y 162) (hY : 0 < Y) : v64 (g_fd x y) (X / Y) 213841 := by
  have hq := v64_div hx hy (by decide)
  have hm := v64_mul hq hy (by decide)
  have hs := v64_sub hq v64_1 (by decide)
  have ee := v64_eq hm hx
  have ex : (x ^^^ y) < 0 ↔ X < 0 := by
    rw [Int64.lt_iff_toInt_lt]
    show (x ^^^ y).toInt < 0 ↔ X < 0
    rw [x64, hx.1, hy.1]
    omega
  unfold g_fd
  rcases fd_t (X := X) hY with ⟨h0, h1, h2⟩ | ⟨h0, h1, h2⟩
  · rw [if_neg (fun z => by have := ex.mp z; omega), fd_u hY h1 h2]
    exact v64_le hq (by decide)
  · rw [if_pos (ex.mpr h0)]
    by_cases c : x / y * y = x
    · have c' := ee.mp c
      rw [if_pos c, fd_u (q := X.tdiv Y) hY (by omega) (by omega)]
      exact v64_le hq (by decide)
    · have c' : ¬ X.tdiv Y * Y = X := fun z => c (ee.mpr z)
      have e : (X.tdiv Y - 1) * Y = X.tdiv Y * Y - Y := by rw [Int.sub_mul, Int.one_mul]
      rw [if_neg c, fd_u (q := X.tdiv Y - 1) hY (by omega) (by omega)]
      exact hs
theorem dn_v {x y : Int64} {X Y : Int} (hx : v64 x X 213840) (hy : v64 y Y 162) (hY : 0 < Y) : v64 (m_dn x y) (X / Y) 213841 := by
  have hq := v64_div hx hy (by decide)
  have hm := v64_mul hq hy (by decide)
  have hs := v64_sub hq v64_1 (by decide)
  have ee := v64_lt (v64_sub hx hm (by decide)) v64_0
  unfold m_dn
  rcases fd_t (X := X) hY with ⟨h0, h1, h2⟩ | ⟨h0, h1, h2⟩
  · rw [if_neg (fun z => by have := ee.mp z; omega), fd_u hY h1 h2]
    exact v64_le hq (by decide)
  · by_cases c : x - x / y * y < 0
    · have c' := ee.mp c
      have e : (X.tdiv Y - 1) * Y = X.tdiv Y * Y - Y := by rw [Int.sub_mul, Int.one_mul]
      rw [if_pos c, fd_u (q := X.tdiv Y - 1) hY (by omega) (by omega)]
      exact hs
    · have c' : ¬ X - X.tdiv Y * Y < 0 := fun z => c (ee.mpr z)
      rw [if_neg c, fd_u (q := X.tdiv Y) hY (by omega) (by omega)]
      exact v64_le hq (by decide)
theorem fd_eq {T1 D1 T2 D2 : Int} (h1 : 0 < D1) (h2 : 0 < D2) (h : T1 * D2 = T2 * D1) : T1 / D1 = T2 / D2 := by
  rw [← Int.mul_ediv_mul_of_pos T1 D1 h2, ← Int.mul_ediv_mul_of_pos T2 D2 h1, Int.mul_comm D2 T1, h, Int.mul_comm D1 T2, Int.mul_comm D2 D1]
/-! The reference's search, as whole numbers -/
abbrev sh (b0 : Nat) (f : Nat → Int32) : Nat → Int32 := fun j => f (b0 + j)
def M3 (s : mS) (S : mz_S) : Prop := (s.1 = 0 ↔ S.1 = false) ∧ v64 s.2.1 S.2.1 213840 ∧ v64 s.2.2 S.2.2 162
theorem m_ck_v {fp fq fr : Nat → Int32} {b0 n : Nat} {x y d : Int64} {X Y D : Int} (hr : rk (sh b0 fp) (sh b0 fq) (sh b0 fr) n) (hx : v64 x X 1782) (hy : v64 y Y 1782) (hd : v64 d D 162) : ∀ k j, j + k ≤ n → m_ck fp fq fr x y d k (b0 + j) = mz_ck (tI (sh b0 fp)) (tI (sh b0 fq)) (tI (sh b0 fr)) X Y D k j := by
  intro k
  induction k with
  | zero => intro j _; rfl
  | succ k ih =>
    intro j hj
    obtain ⟨h1, h2, h3⟩ := hr j (by omega)
    have e := v64_lt (v64_mul (v32_64 (v32_of h3)) hd (by decide)) (v64_add (v64_mul (v32_64 (v32_of h1)) hx (by decide)) (v64_mul (v32_64 (v32_of h2)) hy (by decide)) (by decide))
    have r := ih (j + 1) (by omega)
    unfold m_ck mz_ck
    by_cases c : (fr (b0 + j)).toInt64 * d < (fp (b0 + j)).toInt64 * x + (fq (b0 + j)).toInt64 * y
    · rw [if_pos c, if_pos (e.mp c)]
    · rw [if_neg c, if_neg (fun z => c (e.mpr z))]
      exact r
theorem m_mt_v {fp fq fr : Nat → Int32} {b0 n : Nat} {u v : Int32} {U V : Int} {x y d : Int64} {X Y D : Int} {s : mS} {S : mz_S} (hr : rk (sh b0 fp) (sh b0 fq) (sh b0 fr) n) (hu : v32 u U 60) (hv : v32 v V 60) (hx : v64 x X 1782) (hy : v64 y Y 1782) (hd : v64 d D 162) (hs : M3 s S) : M3 (m_mt fp fq fr b0 n u v x y d s) (mz_mt (tI (sh b0 fp)) (tI (sh b0 fq)) (tI (sh b0 fr)) n U V X Y D S) := by
  have ec := m_ck_v hr hx hy hd n 0 (by omega)
  rw [Nat.add_zero] at ec
  have hval := v64_add (v64_mul (v32_64 hu) hx (by decide)) (v64_mul (v32_64 hv) hy (by decide)) (by decide)
  have hn : M3 (1, u.toInt64 * x + v.toInt64 * y, d) (true, U * X + V * Y, D) := ⟨⟨fun z => absurd z (show ¬ (1 : Int32) = 0 by decide), fun z => by cases z⟩, v64_le hval (by decide), hd⟩
  have el := v64_lt (v64_mul hs.2.1 hd (by decide)) (v64_mul hval hs.2.2 (by decide))
  unfold m_mt mz_mt
  rw [ec]
  by_cases c : mz_ck (tI (sh b0 fp)) (tI (sh b0 fq)) (tI (sh b0 fr)) X Y D n 0 = true
  · rw [if_pos c, if_pos c]
    by_cases c0 : s.1 = 0
    · rw [if_pos c0, if_pos (Or.inl (hs.1.mp c0))]; exact hn
    · rw [if_neg c0]
      by_cases c1 : s.2.1 * d < (u.toInt64 * x + v.toInt64 * y) * s.2.2
      · rw [if_pos c1, if_pos (Or.inr (el.mp c1))]; exact hn
      · rw [if_neg c1, if_neg (fun z => z.elim (fun z => c0 (hs.1.mpr z)) (fun z => c1 (el.mpr z)))]; exact hs
  · rw [if_neg c, if_neg c]; exact hs
theorem v64_sgn {d : Int64} {D : Int} {k : Nat} {x : Int64} {X : Int} {j : Nat} (hd : v64 d D k) (hx : v64 x X j) (h : j < 9223372036854775808) : v64 (if d < 0 then -x else x) (if D < 0 then -X else X) j := by
  have e := v64_lt hd v64_0
  by_cases c : d < 0
  · rw [if_pos c, if_pos (e.mp c)]; exact v64_neg hx h
  · rw [if_neg c, if_neg (fun z => c (e.mpr z))]; exact hx
theorem m_mn_v {fp fq fr : Nat → Int32} {b0 n : Nat} {u v : Int32} {U V : Int} {x y d : Int64} {X Y D : Int} {s : mS} {S : mz_S} (hr : rk (sh b0 fp) (sh b0 fq) (sh b0 fr) n) (hu : v32 u U 60) (hv : v32 v V 60) (hx : v64 x X 1782) (hy : v64 y Y 1782) (hd : v64 d D 162) (hs : M3 s S) : M3 (m_mn fp fq fr b0 n u v x y d s) (mz_mn (tI (sh b0 fp)) (tI (sh b0 fq)) (tI (sh b0 fr)) n U V X Y D S) :=
  m_mt_v hr hu hv (v64_sgn hd hx (by decide)) (v64_sgn hd hy (by decide)) (v64_sgn hd hd (by decide)) hs
theorem m_fo_v {fp fq fr : Nat → Int32} {b0 n : Nat} {u v : Int32} {U V : Int} {s : mS} {S : mz_S} (hr : rk (sh b0 fp) (sh b0 fq) (sh b0 fr) n) (hu : v32 u U 60) (hv : v32 v V 60) {i : Nat} (hi : i < n) (hs : M3 s S) : M3 (m_fo fp fq fr b0 n u v (b0 + i) s) (mz_fo (tI (sh b0 fp)) (tI (sh b0 fq)) (tI (sh b0 fr)) n U V i S) := by
  obtain ⟨h1, h2, h3⟩ := hr i hi
  have p := v32_of h1
  have q := v32_of h2
  have r := v32_of h3
  have n2 := v32_add (v32_mul p p (by decide)) (v32_mul q q (by decide)) (by decide)
  have e := v32_lt v32_0 n2
  unfold m_fo mz_fo
  by_cases c : 0 < fp (b0 + i) * fp (b0 + i) + fq (b0 + i) * fq (b0 + i)
  · rw [if_pos c, if_pos (e.mp c)]
    exact m_mn_v hr hu hv (v64_le (v32_64 (v32_mul p r (by decide))) (by decide)) (v64_le (v32_64 (v32_mul q r (by decide))) (by decide)) (v64_le (v32_64 n2) (by decide)) hs
  · rw [if_neg c, if_neg (fun z => c (e.mpr z))]; exact hs
theorem m_co_v {fp fq fr : Nat → Int32} {b0 n : Nat} {u v : Int32} {U V : Int} {s : mS} {S : mz_S} (hr : rk (sh b0 fp) (sh b0 fq) (sh b0 fr) n) (hu : v32 u U 60) (hv : v32 v V 60) {i j : Nat} (hi : i < n) (hj : j < n) (hs : M3 s S) : M3 (m_co fp fq fr b0 n u v (b0 + i) (b0 + j) s) (mz_co (tI (sh b0 fp)) (tI (sh b0 fq)) (tI (sh b0 fr)) n U V i j S) := by
  obtain ⟨h1, h2, h3⟩ := hr i hi
  obtain ⟨k1, k2, k3⟩ := hr j hj
  have p := v32_of h1
  have q := v32_of h2
  have r := v32_of h3
  have p' := v32_of k1
  have q' := v32_of k2
  have r' := v32_of k3
  have dd := v32_sub (v32_mul p q' (by decide)) (v32_mul p' q (by decide)) (by decide)
  have xx := v32_sub (v32_mul r q' (by decide)) (v32_mul r' q (by decide)) (by decide)
  have yy := v32_sub (v32_mul p r' (by decide)) (v32_mul p' r (by decide)) (by decide)
  have e := v32_eq dd v32_0
  unfold m_co mz_co
  by_cases c : fp (b0 + i) * fq (b0 + j) - fp (b0 + j) * fq (b0 + i) = 0
  · rw [if_pos c, if_neg (fun z => z (e.mp c))]; exact hs
  · rw [if_neg c, if_pos (fun z => c (e.mpr z))]
    exact m_mn_v hr hu hv (v64_le (v32_64 xx) (by decide)) (v64_le (v32_64 yy) (by decide)) (v64_le (v32_64 dd) (by decide)) hs
theorem m_li_v {fp fq fr : Nat → Int32} {b0 n : Nat} {u v : Int32} {U V : Int} (hr : rk (sh b0 fp) (sh b0 fq) (sh b0 fr) n) (hu : v32 u U 60) (hv : v32 v V 60) {i : Nat} (hi : i < n) : ∀ (k j : Nat) (s : mS) (S : mz_S), j + k ≤ n → M3 s S → M3 (m_li fp fq fr b0 n u v (b0 + i) k (b0 + j) s) (mz_li (tI (sh b0 fp)) (tI (sh b0 fq)) (tI (sh b0 fr)) n U V i k j S) := by
  intro k
  induction k with
  | zero => intro j s S _ h; exact h
  | succ k ih => intro j s S hj h; exact ih (j + 1) _ _ (by omega) (m_co_v hr hu hv hi (by omega) h)
theorem m_lu_v {fp fq fr : Nat → Int32} {b0 n : Nat} {u v : Int32} {U V : Int} (hr : rk (sh b0 fp) (sh b0 fq) (sh b0 fr) n) (hu : v32 u U 60) (hv : v32 v V 60) : ∀ (k i : Nat) (s : mS) (S : mz_S), i + k ≤ n → M3 s S → M3 (m_lu fp fq fr b0 n u v k (b0 + i) s) (mz_lu (tI (sh b0 fp)) (tI (sh b0 fq)) (tI (sh b0 fr)) n U V k i S) := by
  intro k
  induction k with
  | zero => intro i s S _ h; exact h
  | succ k ih =>
    intro i s S hi h
    have a := m_li_v hr hu hv (show i < n by omega) i 0 _ _ (by omega) (m_fo_v hr hu hv (show i < n by omega) h)
    have e : m_lu fp fq fr b0 n u v (k + 1) (b0 + i) s = m_lu fp fq fr b0 n u v k (b0 + (i + 1)) (m_li fp fq fr b0 n u v (b0 + i) i (b0 + 0) (m_fo fp fq fr b0 n u v (b0 + i) s)) := by
      show m_lu fp fq fr b0 n u v k (b0 + i + 1) (m_li fp fq fr b0 n u v (b0 + i) (b0 + i - b0) b0 (m_fo fp fq fr b0 n u v (b0 + i) s)) = _
      rw [show b0 + i - b0 = i by omega]
      rfl
    rw [e]
    exact ih (i + 1) _ _ (by omega) a
theorem m_lk_v {fp fq fr : Nat → Int32} {b0 n : Nat} {u v : Int32} {U V : Int} (hr : rk (sh b0 fp) (sh b0 fq) (sh b0 fr) n) (hu : v32 u U 60) (hv : v32 v V 60) : M3 (m_lk fp fq fr b0 n u v) (mz_lk (tI (sh b0 fp)) (tI (sh b0 fq)) (tI (sh b0 fr)) n U V) := by
  unfold m_lk mz_lk
  refine m_lu_v hr hu hv n 0 _ _ (by omega) (m_mn_v hr hu hv (v64_le v64_0 (by decide)) (v64_le v64_0 (by decide)) (v64_le v64_1 (by decide)) ⟨⟨fun _ => rfl, fun _ => rfl⟩, v64_le v64_0 (by decide), v64_le v64_1 (by decide)⟩)
theorem m_emp_v {fp fq fr : Nat → Int32} {b0 n : Nat} (hr : rk (sh b0 fp) (sh b0 fq) (sh b0 fr) n) : m_emp fp fq fr b0 n = 0 ↔ mz_Feas (mz_L (tI (sh b0 fp)) (tI (sh b0 fq)) (tI (sh b0 fr)) n) := by
  have h := m_lk_v hr (v32_le v32_0 (show 0 ≤ 60 by decide)) (v32_le v32_0 (show 0 ≤ 60 by decide))
  rw [← mz_lk_some _ _ _ n 0 0]
  unfold m_emp
  by_cases c : (m_lk fp fq fr b0 n 0 0).1 = 0
  · rw [if_pos c, h.1.mp c]
    exact ⟨fun z => absurd z (by decide), fun z => by cases z⟩
  · rw [if_neg c]
    refine ⟨fun _ => ?_, fun _ => rfl⟩
    cases e : (mz_lk (tI (sh b0 fp)) (tI (sh b0 fq)) (tI (sh b0 fr)) n 0 0).1 with
    | true => rfl
    | false => exact absurd (h.1.mpr e) c
/-! The reference's ways -/
theorem m_wy_v {fp fq fr : Nat → Int32} {b0 n : Nat} {dx dy : Int32} {X Y : Int} (hr : rk (sh b0 fp) (sh b0 fq) (sh b0 fr) n) (hx : v32 dx X 60) (hy : v32 dy Y 60) : ∀ (k j : Nat) (z : Int32), j + k ≤ n → (¬ m_wy fp fq dx dy k (b0 + j) z = 0 ↔ ¬ z = 0 ∧ ∀ l, j ≤ l → l < j + k → tI (sh b0 fp) l * X + tI (sh b0 fq) l * Y ≤ 0) := by
  intro k
  induction k with
  | zero => intro j z _; exact ⟨fun h => ⟨h, fun l h1 h2 => by omega⟩, fun h => h.1⟩
  | succ k ih =>
    intro j z hj
    have r := ih (j + 1) (m_ws fp fq dx dy (b0 + j) z) (by omega)
    obtain ⟨h1, h2, h3⟩ := hr j (by omega)
    have e := v32_lt v32_0 (v32_add (v32_mul (v32_of h1) hx (by decide)) (v32_mul (v32_of h2) hy (by decide)) (by decide))
    have er : m_wy fp fq dx dy (k + 1) (b0 + j) z = m_wy fp fq dx dy k (b0 + (j + 1)) (m_ws fp fq dx dy (b0 + j) z) := rfl
    rw [er, r]
    have es : ¬ m_ws fp fq dx dy (b0 + j) z = 0 ↔ ¬ z = 0 ∧ tI (sh b0 fp) j * X + tI (sh b0 fq) j * Y ≤ 0 := by
      unfold m_ws
      by_cases c : z = 0
      · rw [if_pos c]; exact ⟨fun w => absurd rfl w, fun w => absurd c w.1⟩
      · rw [if_neg c]
        by_cases c1 : 0 < fp (b0 + j) * dx + fq (b0 + j) * dy
        · rw [if_pos c1]; exact ⟨fun w => absurd rfl w, fun w => absurd (e.mp c1) (Int.not_lt.mpr w.2)⟩
        · rw [if_neg c1]; exact ⟨fun _ => ⟨c, Int.not_lt.mp (fun w => c1 (e.mpr w))⟩, fun _ => by decide⟩
    rw [es]
    constructor
    · rintro ⟨⟨a, b⟩, c⟩
      refine ⟨a, fun l l1 l2 => ?_⟩
      by_cases el : l = j
      · subst el; exact b
      · exact c l (by omega) (by omega)
    · rintro ⟨a, c⟩
      exact ⟨⟨a, c j (by omega) (by omega)⟩, fun l l1 l2 => c l (by omega) (by omega)⟩
theorem m_way_v {fp fq fr : Nat → Int32} {b0 n : Nat} {dx dy u v : Int32} {X Y U V : Int} (hr : rk (sh b0 fp) (sh b0 fq) (sh b0 fr) n) (hx : v32 dx X 60) (hy : v32 dy Y 60) (hu : v32 u U 60) (hv : v32 v V 60) : ¬ m_way fp fq b0 n dx dy u v = 0 ↔ mz_Wy (mz_L (tI (sh b0 fp)) (tI (sh b0 fq)) (tI (sh b0 fr)) n) U V X Y := by
  have r := m_wy_v hr hx hy n 0 (if 0 < u * dx + v * dy then 1 else 0) (by omega)
  have e := v32_lt v32_0 (v32_add (v32_mul hu hx (by decide)) (v32_mul hv hy (by decide)) (by decide))
  unfold m_way mz_Wy
  rw [Nat.add_zero] at r
  rw [r]
  have e0 : ¬ (if 0 < u * dx + v * dy then (1 : Int32) else 0) = 0 ↔ 0 < U * X + V * Y := by
    by_cases c : 0 < u * dx + v * dy
    · rw [if_pos c]; exact ⟨fun _ => e.mp c, fun _ => by decide⟩
    · rw [if_neg c]; exact ⟨fun w => absurd rfl w, fun w => absurd (e.mpr w) c⟩
  rw [e0]
  refine and_congr_right (fun _ => ⟨fun h p q r hm => ?_, fun h l _ h2 => ?_⟩)
  · obtain ⟨l, hl, rfl, rfl, rfl⟩ := mz_L_mem.mp hm
    have := h l (by omega) (by omega)
    rw [Int.mul_zero]
    exact this
  · have := h _ _ _ (mz_L_mem.mpr ⟨l, by omega, rfl, rfl, rfl⟩)
    rw [Int.mul_zero] at this
    exact this
theorem m_en_v {fp fq : Nat → Int32} {b0 n : Nat} {u v : Int32} : ∀ (k j : Nat) (z : Int32), (¬ m_en fp fq b0 n u v k (b0 + j) z = 0 ↔ ¬ z = 0 ∨ ∃ l, j ≤ l ∧ l < j + k ∧ (¬ m_way fp fq b0 n (-(fq (b0 + l))) (fp (b0 + l)) u v = 0 ∨ ¬ m_way fp fq b0 n (fq (b0 + l)) (-(fp (b0 + l))) u v = 0 ∨ ¬ m_way fp fq b0 n (-(fp (b0 + l))) (-(fq (b0 + l))) u v = 0)) := by
  intro k
  induction k with
  | zero =>
    intro j z
    refine ⟨fun h => Or.inl h, fun h => ?_⟩
    rcases h with h | ⟨l, h1, h2, -⟩
    · exact h
    · omega
  | succ k ih =>
    intro j z
    have r := ih (j + 1) (m_es fp fq b0 n u v (b0 + j) z)
    have er : m_en fp fq b0 n u v (k + 1) (b0 + j) z = m_en fp fq b0 n u v k (b0 + (j + 1)) (m_es fp fq b0 n u v (b0 + j) z) := rfl
    rw [er, r]
    have es : ¬ m_es fp fq b0 n u v (b0 + j) z = 0 ↔ ¬ z = 0 ∨ (¬ m_way fp fq b0 n (-(fq (b0 + j))) (fp (b0 + j)) u v = 0 ∨ ¬ m_way fp fq b0 n (fq (b0 + j)) (-(fp (b0 + j))) u v = 0 ∨ ¬ m_way fp fq b0 n (-(fp (b0 + j))) (-(fq (b0 + j))) u v = 0) := by
      unfold m_es
      by_cases c : z = 0
      · rw [if_pos c]
        by_cases c1 : m_way fp fq b0 n (-(fq (b0 + j))) (fp (b0 + j)) u v = 0
        · rw [if_pos c1]
          by_cases c2 : m_way fp fq b0 n (fq (b0 + j)) (-(fp (b0 + j))) u v = 0
          · rw [if_pos c2]
            by_cases c3 : m_way fp fq b0 n (-(fp (b0 + j))) (-(fq (b0 + j))) u v = 0
            · rw [if_pos c3]
              exact ⟨fun w => absurd rfl w, fun w => by
                rcases w with w | w | w | w
                · exact absurd c w
                · exact absurd c1 w
                · exact absurd c2 w
                · exact absurd c3 w⟩
            · rw [if_neg c3]; exact ⟨fun _ => Or.inr (Or.inr (Or.inr c3)), fun _ => by decide⟩
          · rw [if_neg c2]; exact ⟨fun _ => Or.inr (Or.inr (Or.inl c2)), fun _ => by decide⟩
        · rw [if_neg c1]; exact ⟨fun _ => Or.inr (Or.inl c1), fun _ => by decide⟩
      · rw [if_neg c]; exact ⟨fun _ => Or.inl c, fun _ => by decide⟩
    rw [es]
    constructor
    · rintro ((a | a) | ⟨l, h1, h2, h3⟩)
      · exact Or.inl a
      · exact Or.inr ⟨j, by omega, by omega, a⟩
      · exact Or.inr ⟨l, by omega, by omega, h3⟩
    · rintro (a | ⟨l, h1, h2, h3⟩)
      · exact Or.inl (Or.inl a)
      · by_cases el : l = j
        · subst el; exact Or.inl (Or.inr h3)
        · exact Or.inr ⟨l, by omega, by omega, h3⟩
theorem m_end_v {fp fq fr : Nat → Int32} {b0 n : Nat} {u v : Int32} {U V : Int} (hr : rk (sh b0 fp) (sh b0 fq) (sh b0 fr) n) (hu : v32 u U 60) (hv : v32 v V 60) : ¬ m_end fp fq b0 n u v = 0 ↔ mz_End (mz_L (tI (sh b0 fp)) (tI (sh b0 fq)) (tI (sh b0 fr)) n) U V := by
  have r := m_en_v (fp := fp) (fq := fq) (b0 := b0) (n := n) (u := u) (v := v) n 0 (m_way fp fq b0 n u v u v)
  unfold m_end mz_End
  rw [Nat.add_zero] at r
  rw [r, m_way_v hr hu hv hu hv]
  refine or_congr_right ⟨?_, ?_⟩
  · rintro ⟨l, -, h2, h3⟩
    obtain ⟨h1, h2', h3'⟩ := hr l (by omega)
    have p := v32_le (v32_of h1) (show 9 ≤ 60 by decide)
    have q := v32_le (v32_of h2') (show 9 ≤ 60 by decide)
    have p' := v32_neg p (by decide)
    have q' := v32_neg q (by decide)
    rw [m_way_v hr q' p hu hv, m_way_v hr q p' hu hv, m_way_v hr p' q' hu hv] at h3
    exact ⟨_, _, _, mz_L_mem.mpr ⟨l, by omega, rfl, rfl, rfl⟩, h3⟩
  · rintro ⟨p0, q0, r0, hm, h3⟩
    obtain ⟨l, hl, rfl, rfl, rfl⟩ := mz_L_mem.mp hm
    refine ⟨l, by omega, by omega, ?_⟩
    obtain ⟨h1, h2', h3'⟩ := hr l (by omega)
    have p := v32_le (v32_of h1) (show 9 ≤ 60 by decide)
    have q := v32_le (v32_of h2') (show 9 ≤ 60 by decide)
    have p' := v32_neg p (by decide)
    have q' := v32_neg q (by decide)
    rw [m_way_v hr q' p hu hv, m_way_v hr q p' hu hv, m_way_v hr p' q' hu hv]
    exact h3
theorem m_said_v {fp fq fr : Nat → Int32} {b0 n : Nat} {u v : Int32} {U V : Int} (hr : rk (sh b0 fp) (sh b0 fq) (sh b0 fr) n) (hu : v32 u U 60) (hv : v32 v V 60) : m_said fp fq b0 n u v = 0 ↔ (mz_ca (tI (sh b0 fp)) (tI (sh b0 fq)) (tI (sh b0 fr)) n U V).2 = 0 := by
  rw [mz_ca_end, ← m_end_v hr hu hv]
  unfold m_said
  by_cases c : m_end fp fq b0 n u v = 0
  · rw [if_pos c]; exact ⟨fun z => absurd z (by decide), fun z => absurd c z⟩
  · rw [if_neg c]; exact ⟨fun _ => c, fun _ => rfl⟩
