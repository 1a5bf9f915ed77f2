/-! The class's search for the least bound, and the reference's search among points, over whole numbers -/
def mz_lo (s : Int × Int) (t d : Int) : Int × Int := if s.2 = 0 ∨ t * s.2 < s.1 * d then (t, d) else s
def mz_rs (a b p q r : Int) (s : Int × Int) : Int × Int := if mz_cr p q a b = 0 ∧ 0 < p * a + q * b then mz_lo s (r * mz_n a b) (mz_n p q) else s
def mz_sg (c : Int) : Int := if c < 0 then -1 else 1
def mz_ps (a b p1 q1 r1 p2 q2 r2 : Int) (s : Int × Int) : Int × Int :=
  if mz_cr p1 q1 p2 q2 ≠ 0 ∧ 0 ≤ mz_sg (mz_cr p1 q1 p2 q2) * mz_cr a b p2 q2 ∧ 0 ≤ mz_sg (mz_cr p1 q1 p2 q2) * mz_cr p1 q1 a b then
    mz_lo s (r1 * (mz_sg (mz_cr p1 q1 p2 q2) * mz_cr a b p2 q2) + r2 * (mz_sg (mz_cr p1 q1 p2 q2) * mz_cr p1 q1 a b)) (mz_sg (mz_cr p1 q1 p2 q2) * mz_cr p1 q1 p2 q2)
  else s
def mz_in (P Q R : Nat → Int) (a b : Int) (i : Nat) : Nat → Nat → Int × Int → Int × Int
  | 0, _, s => s
  | k + 1, j, s => mz_in P Q R a b i k (j + 1) (mz_ps a b (P i) (Q i) (R i) (P j) (Q j) (R j) s)
def mz_out (P Q R : Nat → Int) (a b : Int) : Nat → Nat → Int × Int → Int × Int
  | 0, _, s => s
  | k + 1, i, s => mz_out P Q R a b k (i + 1) (mz_in P Q R a b i k (i + 1) (mz_rs a b (P i) (Q i) (R i) s))
def mz_L (P Q R : Nat → Int) (n : Nat) : mz_G := (List.range n).map (fun i => (P i, Q i, R i))
theorem mz_L_mem {P Q R : Nat → Int} {n : Nat} {p q r : Int} : (p, q, r) ∈ mz_L P Q R n ↔ ∃ i, i < n ∧ P i = p ∧ Q i = q ∧ R i = r := by
  unfold mz_L
  simp [List.mem_map, List.mem_range, Prod.mk.injEq]
def mz_I (C : Int → Int → Prop) (s : Int × Int) : Prop := (∀ t d, C t d → 0 < d) ∧ ((s.2 = 0 ∧ ∀ t d, ¬ C t d) ∨ (0 < s.2 ∧ C s.1 s.2 ∧ ∀ t d, C t d → s.1 * d ≤ t * s.2))
theorem mz_I_congr {C C' : Int → Int → Prop} {s : Int × Int} (h : mz_I C s) (e : ∀ t d, C t d ↔ C' t d) : mz_I C' s := by
  obtain ⟨h0, h1⟩ := h
  refine ⟨fun t d z => h0 t d ((e t d).mpr z), ?_⟩
  rcases h1 with ⟨x, y⟩ | ⟨x, y, z⟩
  · exact Or.inl ⟨x, fun t d w => y t d ((e t d).mpr w)⟩
  · exact Or.inr ⟨x, (e _ _).mp y, fun t d w => z t d ((e t d).mpr w)⟩
theorem mz_lo_I {C : Int → Int → Prop} {s : Int × Int} {t d : Int} (h : mz_I C s) (hd : 0 < d) : mz_I (fun t' d' => C t' d' ∨ (t' = t ∧ d' = d)) (mz_lo s t d) := by
  obtain ⟨h0, h1⟩ := h
  refine ⟨fun t' d' z => ?_, Or.inr ?_⟩
  · rcases z with z | ⟨-, rfl⟩
    · exact h0 t' d' z
    · exact hd
  · rcases h1 with ⟨x, y⟩ | ⟨x, y, z⟩
    · have e : mz_lo s t d = (t, d) := by unfold mz_lo; rw [if_pos (Or.inl x)]
      rw [e]
      refine ⟨hd, Or.inr ⟨rfl, rfl⟩, fun t' d' w => ?_⟩
      rcases w with w | ⟨rfl, rfl⟩
      · exact absurd w (y t' d')
      · exact Int.le_refl _
    · by_cases hlt : t * s.2 < s.1 * d
      · have e : mz_lo s t d = (t, d) := by unfold mz_lo; rw [if_pos (Or.inr hlt)]
        rw [e]
        refine ⟨hd, Or.inr ⟨rfl, rfl⟩, fun t' d' w => ?_⟩
        rcases w with w | ⟨rfl, rfl⟩
        · exact mz_f3 (h0 t' d' w) x hd (Int.le_of_lt hlt) (z t' d' w)
        · exact Int.le_refl _
      · have e : mz_lo s t d = s := by
          unfold mz_lo
          rw [if_neg]
          rintro (w | w)
          · omega
          · exact hlt w
        rw [e]
        refine ⟨x, Or.inl y, fun t' d' w => ?_⟩
        rcases w with w | ⟨rfl, rfl⟩
        · exact z t' d' w
        · omega
/-- what a step adds: E is the kind of bound that it looks for -/
def mz_T (E : Int → Int → Prop) (s s' : Int × Int) : Prop := ∀ C : Int → Int → Prop, mz_I C s → ∃ C' : Int → Int → Prop, mz_I C' s' ∧ ∀ t d, C' t d ↔ C t d ∨ E t d
theorem mz_T_refl {E : Int → Int → Prop} (h : ∀ t d, ¬ E t d) (s : Int × Int) : mz_T E s s := fun C hC => ⟨C, hC, fun t d => ⟨Or.inl, fun z => by rcases z with z | z; exact z; exact absurd z (h t d)⟩⟩
theorem mz_T_trans {E F G : Int → Int → Prop} {s1 s2 s3 : Int × Int} (h1 : mz_T E s1 s2) (h2 : mz_T F s2 s3) (h : ∀ t d, G t d ↔ E t d ∨ F t d) : mz_T G s1 s3 := by
  intro C hC
  obtain ⟨C1, a1, b1⟩ := h1 C hC
  obtain ⟨C2, a2, b2⟩ := h2 C1 a1
  refine ⟨C2, a2, fun t d => ?_⟩
  rw [b2, b1, h, or_assoc]
theorem mz_T_lo {E : Int → Int → Prop} {s : Int × Int} {t d : Int} (hd : 0 < d) (h : ∀ t' d', E t' d' ↔ t' = t ∧ d' = d) : mz_T E s (mz_lo s t d) := fun C hC => ⟨_, mz_lo_I hC hd, fun t' d' => by rw [h]⟩
theorem mz_T_rs (a b p q r : Int) (s : Int × Int) : mz_T (mz_RC p q r a b) s (mz_rs a b p q r s) := by
  unfold mz_rs
  by_cases hc : mz_cr p q a b = 0 ∧ 0 < p * a + q * b
  · rw [if_pos hc]
    refine mz_T_lo (mz_par hc.1 hc.2).2.1 (fun t d => ?_)
    exact ⟨fun z => ⟨z.2.2.1, z.2.2.2⟩, fun z => ⟨hc.1, hc.2, z.1, z.2⟩⟩
  · rw [if_neg hc]
    exact mz_T_refl (fun t d z => hc ⟨z.1, z.2.1⟩) s
theorem mz_sg1 (c : Int) : mz_sg c = 1 ∨ mz_sg c = -1 := by
  unfold mz_sg
  split <;> omega
theorem mz_sgp {c : Int} (h : c ≠ 0) : 0 < mz_sg c * c := by
  unfold mz_sg
  split <;> omega
theorem mz_sgu {c g : Int} (hg : g = 1 ∨ g = -1) (h : 0 < g * c) : g = mz_sg c := by
  unfold mz_sg
  rcases hg with rfl | rfl <;> split <;> omega
theorem mz_T_ps (a b p1 q1 r1 p2 q2 r2 : Int) (s : Int × Int) : mz_T (mz_PC p1 q1 r1 p2 q2 r2 a b) s (mz_ps a b p1 q1 r1 p2 q2 r2 s) := by
  unfold mz_ps
  by_cases hc : mz_cr p1 q1 p2 q2 ≠ 0 ∧ 0 ≤ mz_sg (mz_cr p1 q1 p2 q2) * mz_cr a b p2 q2 ∧ 0 ≤ mz_sg (mz_cr p1 q1 p2 q2) * mz_cr p1 q1 a b
  · rw [if_pos hc]
    refine mz_T_lo (mz_sgp hc.1) (fun t d => ⟨fun z => ?_, fun z => ?_⟩)
    · obtain ⟨g, hg, h0, h1, h2, ht, hd⟩ := z
      have e := mz_sgu hg h0
      subst e
      exact ⟨ht, hd⟩
    · exact ⟨_, mz_sg1 _, mz_sgp hc.1, hc.2.1, hc.2.2, z.1, z.2⟩
  · rw [if_neg hc]
    refine mz_T_refl (fun t d z => hc ?_) s
    obtain ⟨g, hg, h0, h1, h2, ht, hd⟩ := z
    have e := mz_sgu hg h0
    subst e
    refine ⟨fun z => ?_, h1, h2⟩
    rw [z, Int.mul_zero] at h0
    omega
theorem mz_T_in (P Q R : Nat → Int) (a b : Int) (i : Nat) : ∀ (k j : Nat) (s : Int × Int), mz_T (fun t d => ∃ l, j ≤ l ∧ l < j + k ∧ mz_PC (P i) (Q i) (R i) (P l) (Q l) (R l) a b t d) s (mz_in P Q R a b i k j s) := by
  intro k
  induction k with
  | zero => intro j s; exact mz_T_refl (fun t d z => by obtain ⟨l, h1, h2, -⟩ := z; omega) s
  | succ k ih =>
    intro j s
    refine mz_T_trans (mz_T_ps a b (P i) (Q i) (R i) (P j) (Q j) (R j) s) (ih (j + 1) _) (fun t d => ⟨fun z => ?_, fun z => ?_⟩)
    · obtain ⟨l, h1, h2, h3⟩ := z
      by_cases e : l = j
      · subst e; exact Or.inl h3
      · exact Or.inr ⟨l, by omega, by omega, h3⟩
    · rcases z with z | ⟨l, h1, h2, h3⟩
      · exact ⟨j, by omega, by omega, z⟩
      · exact ⟨l, by omega, by omega, h3⟩
theorem mz_T_out (P Q R : Nat → Int) (a b : Int) : ∀ (k i : Nat) (s : Int × Int), mz_T (fun t d => (∃ l, i ≤ l ∧ l < i + k ∧ mz_RC (P l) (Q l) (R l) a b t d) ∨ ∃ l m, i ≤ l ∧ l < m ∧ m < i + k ∧ mz_PC (P l) (Q l) (R l) (P m) (Q m) (R m) a b t d) s (mz_out P Q R a b k i s) := by
  intro k
  induction k with
  | zero => intro i s; exact mz_T_refl (fun t d z => by rcases z with ⟨l, h1, h2, -⟩ | ⟨l, m, h1, h2, h3, -⟩ <;> omega) s
  | succ k ih =>
    intro i s
    refine mz_T_trans (mz_T_trans (mz_T_rs a b (P i) (Q i) (R i) s) (mz_T_in P Q R a b i k (i + 1) _) (fun t d => Iff.rfl)) (ih (i + 1) _) (fun t d => ⟨fun z => ?_, fun z => ?_⟩)
    · rcases z with ⟨l, h1, h2, h3⟩ | ⟨l, m, h1, h2, h3, h4⟩
      · by_cases e : l = i
        · subst e; exact Or.inl (Or.inl h3)
        · exact Or.inr (Or.inl ⟨l, by omega, by omega, h3⟩)
      · by_cases e : l = i
        · subst e; exact Or.inl (Or.inr ⟨m, by omega, by omega, h4⟩)
        · exact Or.inr (Or.inr ⟨l, m, by omega, by omega, by omega, h4⟩)
    · rcases z with (z | ⟨m, h1, h2, h3⟩) | (⟨l, h1, h2, h3⟩ | ⟨l, m, h1, h2, h3, h4⟩)
      · exact Or.inl ⟨i, by omega, by omega, z⟩
      · exact Or.inr ⟨i, m, by omega, by omega, by omega, h3⟩
      · exact Or.inl ⟨l, by omega, by omega, h3⟩
      · exact Or.inr ⟨l, m, by omega, by omega, by omega, h4⟩
theorem mz_PC_sw {p1 q1 r1 p2 q2 r2 a b t d : Int} (h : mz_PC p1 q1 r1 p2 q2 r2 a b t d) : mz_PC p2 q2 r2 p1 q1 r1 a b t d := by
  obtain ⟨g, hg, h0, h1, h2, ht, hd⟩ := h
  have e0 : -g * mz_cr p2 q2 p1 q1 = g * mz_cr p1 q1 p2 q2 := by unfold mz_cr; grind
  have e1 : -g * mz_cr a b p1 q1 = g * mz_cr p1 q1 a b := by unfold mz_cr; grind
  have e2 : -g * mz_cr p2 q2 a b = g * mz_cr a b p2 q2 := by unfold mz_cr; grind
  refine ⟨-g, by omega, by rw [e0]; exact h0, by rw [e1]; exact h2, by rw [e2]; exact h1, ?_, by rw [e0]; exact hd⟩
  rw [e1, e2, ht, Int.add_comm]
theorem mz_PC_ne {p q r r' a b t d : Int} (h : mz_PC p q r p q r' a b t d) : False := by
  obtain ⟨g, hg, h0, h1, h2, ht, hd⟩ := h
  have e : mz_cr p q p q = 0 := by unfold mz_cr; rw [Int.mul_comm]; omega
  rw [e, Int.mul_zero] at h0
  omega
/-- the class's search -/
theorem mz_cm (P Q R : Nat → Int) (n : Nat) (a b : Int) : mz_I (mz_DC (mz_L P Q R n) a b) (mz_out P Q R a b n 0 (0, 0)) := by
  obtain ⟨C', h1, h2⟩ := mz_T_out P Q R a b n 0 (0, 0) (fun _ _ => False) ⟨fun _ _ z => z.elim, Or.inl ⟨rfl, fun _ _ z => z⟩⟩
  refine mz_I_congr h1 (fun t d => ?_)
  rw [h2]
  constructor
  · rintro (z | ⟨l, -, h3, h4⟩ | ⟨l, m, -, h3, h5, h4⟩)
    · exact z.elim
    · exact Or.inl ⟨_, _, _, mz_L_mem.mpr ⟨l, by omega, rfl, rfl, rfl⟩, h4⟩
    · exact Or.inr ⟨_, _, _, _, _, _, mz_L_mem.mpr ⟨l, by omega, rfl, rfl, rfl⟩, mz_L_mem.mpr ⟨m, by omega, rfl, rfl, rfl⟩, h4⟩
  · rintro (⟨p, q, r, hm, h⟩ | ⟨p1, q1, r1, p2, q2, r2, hm1, hm2, h⟩)
    · obtain ⟨l, hl, rfl, rfl, rfl⟩ := mz_L_mem.mp hm
      exact Or.inr (Or.inl ⟨l, by omega, by omega, h⟩)
    · obtain ⟨l, hl, rfl, rfl, rfl⟩ := mz_L_mem.mp hm1
      obtain ⟨m, hm, rfl, rfl, rfl⟩ := mz_L_mem.mp hm2
      rcases Nat.lt_trichotomy l m with z | z | z
      · exact Or.inr (Or.inr ⟨l, m, by omega, z, by omega, h⟩)
      · subst z; exact (mz_PC_ne h).elim
      · exact Or.inr (Or.inr ⟨m, l, by omega, z, by omega, mz_PC_sw h⟩)
/-! the reference -/
def mz_ck (P Q R : Nat → Int) (X Y D : Int) : Nat → Nat → Bool
  | 0, _ => true
  | k + 1, i => if R i * D < P i * X + Q i * Y then false else mz_ck P Q R X Y D k (i + 1)
theorem mz_ck_iff (P Q R : Nat → Int) (X Y D : Int) : ∀ (k i : Nat), mz_ck P Q R X Y D k i = true ↔ ∀ l, i ≤ l → l < i + k → P l * X + Q l * Y ≤ R l * D := by
  intro k
  induction k with
  | zero => intro i; exact ⟨fun _ l h1 h2 => by omega, fun _ => rfl⟩
  | succ k ih =>
    intro i
    unfold mz_ck
    by_cases h : R i * D < P i * X + Q i * Y
    · rw [if_pos h]
      exact ⟨fun z => (by cases z), fun z => absurd (z i (by omega) (by omega)) (by omega)⟩
    · rw [if_neg h, ih (i + 1)]
      refine ⟨fun z l h1 h2 => ?_, fun z l h1 h2 => z l (by omega) (by omega)⟩
      by_cases e : l = i
      · subst e; omega
      · exact z l (by omega) (by omega)
theorem mz_ck_ft (P Q R : Nat → Int) (n : Nat) (X Y D : Int) : mz_ck P Q R X Y D n 0 = true ↔ mz_ft (mz_L P Q R n) X Y D := by
  rw [mz_ck_iff]
  constructor
  · intro h p q r hm
    obtain ⟨l, hl, rfl, rfl, rfl⟩ := mz_L_mem.mp hm
    exact h l (by omega) (by omega)
  · intro h l _ h2
    exact h _ _ _ (mz_L_mem.mpr ⟨l, by omega, rfl, rfl, rfl⟩)
abbrev mz_S : Type := Bool × Int × Int
def mz_mt (P Q R : Nat → Int) (n : Nat) (u v X Y D : Int) (s : mz_S) : mz_S :=
  if mz_ck P Q R X Y D n 0 = true then (if s.1 = false ∨ s.2.1 * D < (u * X + v * Y) * s.2.2 then (true, u * X + v * Y, D) else s) else s
def mz_mn (P Q R : Nat → Int) (n : Nat) (u v X Y D : Int) (s : mz_S) : mz_S := mz_mt P Q R n u v (if D < 0 then -X else X) (if D < 0 then -Y else Y) (if D < 0 then -D else D) s
def mz_fo (P Q R : Nat → Int) (n : Nat) (u v : Int) (i : Nat) (s : mz_S) : mz_S :=
  if 0 < P i * P i + Q i * Q i then mz_mn P Q R n u v (P i * R i) (Q i * R i) (P i * P i + Q i * Q i) s else s
def mz_co (P Q R : Nat → Int) (n : Nat) (u v : Int) (i j : Nat) (s : mz_S) : mz_S :=
  if P i * Q j - P j * Q i ≠ 0 then mz_mn P Q R n u v (R i * Q j - R j * Q i) (P i * R j - P j * R i) (P i * Q j - P j * Q i) s else s
def mz_li (P Q R : Nat → Int) (n : Nat) (u v : Int) (i : Nat) : Nat → Nat → mz_S → mz_S
  | 0, _, s => s
  | k + 1, j, s => mz_li P Q R n u v i k (j + 1) (mz_co P Q R n u v i j s)
def mz_lu (P Q R : Nat → Int) (n : Nat) (u v : Int) : Nat → Nat → mz_S → mz_S
  | 0, _, s => s
  | k + 1, i, s => mz_lu P Q R n u v k (i + 1) (mz_li P Q R n u v i i 0 (mz_fo P Q R n u v i s))
def mz_lk (P Q R : Nat → Int) (n : Nat) (u v : Int) : mz_S := mz_lu P Q R n u v n 0 (mz_mn P Q R n u v 0 0 1 (false, 0, 1))
def mz_J (u v : Int) (C : Int → Int → Int → Prop) (s : mz_S) : Prop := (∀ X Y D, C X Y D → 0 < D) ∧ ((s.1 = false ∧ ∀ X Y D, ¬ C X Y D) ∨ (s.1 = true ∧ 0 < s.2.2 ∧ (∃ X Y, C X Y s.2.2 ∧ s.2.1 = u * X + v * Y) ∧ ∀ X Y D, C X Y D → (u * X + v * Y) * s.2.2 ≤ s.2.1 * D))
def mz_U (u v : Int) (E : Int → Int → Int → Prop) (s s' : mz_S) : Prop := ∀ C : Int → Int → Int → Prop, mz_J u v C s → ∃ C' : Int → Int → Int → Prop, mz_J u v C' s' ∧ ∀ X Y D, C' X Y D ↔ C X Y D ∨ E X Y D
theorem mz_U_refl {u v : Int} {E : Int → Int → Int → Prop} (h : ∀ X Y D, ¬ E X Y D) (s : mz_S) : mz_U u v E s s := fun C hC => ⟨C, hC, fun X Y D => ⟨Or.inl, fun z => by rcases z with z | z; exact z; exact absurd z (h X Y D)⟩⟩
theorem mz_U_trans {u v : Int} {E F G : Int → Int → Int → Prop} {s1 s2 s3 : mz_S} (h1 : mz_U u v E s1 s2) (h2 : mz_U u v F s2 s3) (h : ∀ X Y D, G X Y D ↔ E X Y D ∨ F X Y D) : mz_U u v G s1 s3 := by
  intro C hC
  obtain ⟨C1, a1, b1⟩ := h1 C hC
  obtain ⟨C2, a2, b2⟩ := h2 C1 a1
  refine ⟨C2, a2, fun X Y D => ?_⟩
  rw [b2, b1, h, or_assoc]
theorem mz_U_mt (P Q R : Nat → Int) (n : Nat) (u v X Y D : Int) (hD : 0 < D) (s : mz_S) : mz_U u v (fun X' Y' D' => (X' = X ∧ Y' = Y ∧ D' = D) ∧ mz_ft (mz_L P Q R n) X' Y' D') s (mz_mt P Q R n u v X Y D s) := by
  unfold mz_mt
  by_cases hc : mz_ck P Q R X Y D n 0 = true
  · rw [if_pos hc]
    have hf := (mz_ck_ft P Q R n X Y D).mp hc
    intro C hC
    obtain ⟨h0, h1⟩ := hC
    refine ⟨fun X' Y' D' => C X' Y' D' ∨ (X' = X ∧ Y' = Y ∧ D' = D) ∧ mz_ft (mz_L P Q R n) X' Y' D', ?_, fun _ _ _ => Iff.rfl⟩
    have hpos : ∀ X' Y' D', (C X' Y' D' ∨ (X' = X ∧ Y' = Y ∧ D' = D) ∧ mz_ft (mz_L P Q R n) X' Y' D') → 0 < D' := by
      intro X' Y' D' z
      rcases z with z | ⟨⟨rfl, rfl, rfl⟩, -⟩
      · exact h0 _ _ _ z
      · exact hD
    refine ⟨hpos, Or.inr ?_⟩
    rcases h1 with ⟨x, y⟩ | ⟨x, x2, x3, z⟩
    · rw [if_pos (Or.inl x)]
      refine ⟨rfl, hD, ⟨X, Y, Or.inr ⟨⟨rfl, rfl, rfl⟩, hf⟩, rfl⟩, fun X' Y' D' w => ?_⟩
      rcases w with w | ⟨⟨rfl, rfl, rfl⟩, -⟩
      · exact absurd w (y _ _ _)
      · exact Int.le_refl _
    · by_cases hlt : s.2.1 * D < (u * X + v * Y) * s.2.2
      · rw [if_pos (Or.inr hlt)]
        refine ⟨rfl, hD, ⟨X, Y, Or.inr ⟨⟨rfl, rfl, rfl⟩, hf⟩, rfl⟩, fun X' Y' D' w => ?_⟩
        rcases w with w | ⟨⟨rfl, rfl, rfl⟩, -⟩
        · exact mz_f3 hD x2 (h0 _ _ _ w) (z _ _ _ w) (Int.le_of_lt hlt)
        · exact Int.le_refl _
      · rw [if_neg (fun w => w.elim (fun w => by rw [x] at w; cases w) hlt)]
        obtain ⟨X0, Y0, c0, e0⟩ := x3
        refine ⟨x, x2, ⟨X0, Y0, Or.inl c0, e0⟩, fun X' Y' D' w => ?_⟩
        rcases w with w | ⟨⟨rfl, rfl, rfl⟩, -⟩
        · exact z _ _ _ w
        · omega
  · rw [if_neg hc]
    refine mz_U_refl (fun X' Y' D' z => hc ?_) s
    obtain ⟨⟨rfl, rfl, rfl⟩, hf⟩ := z
    exact (mz_ck_ft P Q R n X' Y' D').mpr hf
theorem mz_mn_pos (P Q R : Nat → Int) (n : Nat) (u v X Y D : Int) (hD : 0 < D) (s : mz_S) : mz_mn P Q R n u v X Y D s = mz_mt P Q R n u v X Y D s := by
  unfold mz_mn
  rw [if_neg (by omega), if_neg (by omega), if_neg (by omega)]
theorem mz_mn_sg (P Q R : Nat → Int) (n : Nat) (u v X Y D : Int) (s : mz_S) : mz_mn P Q R n u v X Y D s = mz_mt P Q R n u v (mz_sg D * X) (mz_sg D * Y) (mz_sg D * D) s := by
  unfold mz_mn mz_sg
  by_cases h : D < 0
  · simp only [if_pos h, Int.neg_mul, Int.one_mul]
  · simp only [if_neg h, Int.one_mul]
def mz_Ef (P Q R : Nat → Int) (n : Nat) (i : Nat) (X Y D : Int) : Prop := (0 < P i * P i + Q i * Q i ∧ X = P i * R i ∧ Y = Q i * R i ∧ D = P i * P i + Q i * Q i) ∧ mz_ft (mz_L P Q R n) X Y D
def mz_Ec (P Q R : Nat → Int) (n : Nat) (i j : Nat) (X Y D : Int) : Prop := (∃ g : Int, (g = 1 ∨ g = -1) ∧ 0 < g * mz_cr (P i) (Q i) (P j) (Q j) ∧ X = g * (R i * Q j - R j * Q i) ∧ Y = g * (P i * R j - P j * R i) ∧ D = g * mz_cr (P i) (Q i) (P j) (Q j)) ∧ mz_ft (mz_L P Q R n) X Y D
theorem mz_U_fo (P Q R : Nat → Int) (n : Nat) (u v : Int) (i : Nat) (s : mz_S) : mz_U u v (mz_Ef P Q R n i) s (mz_fo P Q R n u v i s) := by
  unfold mz_fo
  by_cases h : 0 < P i * P i + Q i * Q i
  · rw [if_pos h, mz_mn_pos _ _ _ _ _ _ _ _ _ h]
    refine mz_U_trans (mz_U_mt P Q R n u v _ _ _ h s) (mz_U_refl (E := fun _ _ _ => False) (fun _ _ _ z => z) _) (fun X Y D => ?_)
    unfold mz_Ef
    exact ⟨fun z => Or.inl ⟨⟨z.1.2.1, z.1.2.2.1, z.1.2.2.2⟩, z.2⟩, fun z => by
      rcases z with z | z
      · exact ⟨⟨h, z.1.1, z.1.2.1, z.1.2.2⟩, z.2⟩
      · exact z.elim⟩
  · rw [if_neg h]
    exact mz_U_refl (fun X Y D z => h z.1.1) s
theorem mz_crc (p q p' q' : Int) : p * q' - p' * q = mz_cr p q p' q' := by unfold mz_cr; rw [Int.mul_comm p' q]
theorem mz_U_co (P Q R : Nat → Int) (n : Nat) (u v : Int) (i j : Nat) (s : mz_S) : mz_U u v (mz_Ec P Q R n i j) s (mz_co P Q R n u v i j s) := by
  unfold mz_co
  rw [mz_crc]
  by_cases h : mz_cr (P i) (Q i) (P j) (Q j) ≠ 0
  · rw [if_pos h, mz_mn_sg]
    refine mz_U_trans (mz_U_mt P Q R n u v _ _ _ (mz_sgp h) s) (mz_U_refl (E := fun _ _ _ => False) (fun _ _ _ z => z) _) (fun X Y D => ?_)
    unfold mz_Ec
    constructor
    · rintro ⟨⟨g, hg, h0, hX, hY, hD⟩, hf⟩
      have e := mz_sgu hg h0
      subst e
      exact Or.inl ⟨⟨hX, hY, hD⟩, hf⟩
    · rintro (⟨⟨hX, hY, hD⟩, hf⟩ | z)
      · exact ⟨⟨_, mz_sg1 _, mz_sgp h, hX, hY, hD⟩, hf⟩
      · exact z.elim
  · rw [if_neg h]
    refine mz_U_refl (fun X Y D z => h ?_) s
    obtain ⟨⟨g, hg, h0, -⟩, -⟩ := z
    intro e
    rw [e, Int.mul_zero] at h0
    omega
theorem mz_U_li (P Q R : Nat → Int) (n : Nat) (u v : Int) (i : Nat) : ∀ (k j : Nat) (s : mz_S), mz_U u v (fun X Y D => ∃ l, j ≤ l ∧ l < j + k ∧ mz_Ec P Q R n i l X Y D) s (mz_li P Q R n u v i k j s) := by
  intro k
  induction k with
  | zero => intro j s; exact mz_U_refl (fun X Y D z => by obtain ⟨l, h1, h2, -⟩ := z; omega) s
  | succ k ih =>
    intro j s
    refine mz_U_trans (mz_U_co P Q R n u v i j s) (ih (j + 1) _) (fun X Y D => ⟨fun z => ?_, fun z => ?_⟩)
    · obtain ⟨l, h1, h2, h3⟩ := z
      by_cases e : l = j
      · subst e; exact Or.inl h3
      · exact Or.inr ⟨l, by omega, by omega, h3⟩
    · rcases z with z | ⟨l, h1, h2, h3⟩
      · exact ⟨j, by omega, by omega, z⟩
      · exact ⟨l, by omega, by omega, h3⟩
theorem mz_U_lu (P Q R : Nat → Int) (n : Nat) (u v : Int) : ∀ (k i : Nat) (s : mz_S), mz_U u v (fun X Y D => (∃ l, i ≤ l ∧ l < i + k ∧ mz_Ef P Q R n l X Y D) ∨ ∃ l m, i ≤ l ∧ l < i + k ∧ m < l ∧ mz_Ec P Q R n l m X Y D) s (mz_lu P Q R n u v k i s) := by
  intro k
  induction k with
  | zero => intro i s; exact mz_U_refl (fun X Y D z => by rcases z with ⟨l, h1, h2, -⟩ | ⟨l, m, h1, h2, -⟩ <;> omega) s
  | succ k ih =>
    intro i s
    refine mz_U_trans (mz_U_trans (mz_U_fo P Q R n u v i s) (mz_U_li P Q R n u v i i 0 _) (fun X Y D => Iff.rfl)) (ih (i + 1) _) (fun X Y D => ⟨fun z => ?_, fun z => ?_⟩)
    · rcases z with ⟨l, h1, h2, h3⟩ | ⟨l, m, h1, h2, h3, h4⟩
      · by_cases e : l = i
        · subst e; exact Or.inl (Or.inl h3)
        · exact Or.inr (Or.inl ⟨l, by omega, by omega, h3⟩)
      · by_cases e : l = i
        · subst e; exact Or.inl (Or.inr ⟨m, by omega, by omega, h4⟩)
        · exact Or.inr (Or.inr ⟨l, m, by omega, by omega, h3, h4⟩)
    · rcases z with (z | ⟨m, h1, h2, h3⟩) | (⟨l, h1, h2, h3⟩ | ⟨l, m, h1, h2, h3, h4⟩)
      · exact Or.inl ⟨i, by omega, by omega, z⟩
      · exact Or.inr ⟨i, m, by omega, by omega, by omega, h3⟩
      · exact Or.inl ⟨l, by omega, by omega, h3⟩
      · exact Or.inr ⟨l, m, by omega, by omega, h3, h4⟩
/-- the reference's search -/
theorem mz_lm (P Q R : Nat → Int) (n : Nat) (u v : Int) : mz_J u v (fun X Y D => mz_MP (mz_L P Q R n) X Y D ∧ mz_ft (mz_L P Q R n) X Y D) (mz_lk P Q R n u v) := by
  unfold mz_lk
  rw [mz_mn_pos _ _ _ _ _ _ _ _ _ (show (0 : Int) < 1 by omega)]
  obtain ⟨C', h1, h2⟩ := mz_U_trans (mz_U_mt P Q R n u v 0 0 1 (by omega) (false, 0, 1)) (mz_U_lu P Q R n u v n 0 _) (fun X Y D => Iff.rfl) (fun _ _ _ => False) ⟨fun _ _ _ z => z.elim, Or.inl ⟨rfl, fun _ _ _ z => z⟩⟩
  have e : ∀ X Y D, C' X Y D ↔ (mz_MP (mz_L P Q R n) X Y D ∧ mz_ft (mz_L P Q R n) X Y D) := by
    intro X Y D
    rw [h2]
    constructor
    · rintro (z | ⟨h3, h4⟩ | ⟨l, -, h5, h3, h4⟩ | ⟨l, m, -, h5, h6, ⟨g, hg, h0, hX, hY, hD⟩, h4⟩)
      · exact z.elim
      · exact ⟨Or.inl h3, h4⟩
      · exact ⟨Or.inr (Or.inl ⟨P l, Q l, R l, mz_L_mem.mpr ⟨l, by omega, rfl, rfl, rfl⟩, h3⟩), h4⟩
      · exact ⟨Or.inr (Or.inr ⟨P l, Q l, R l, P m, Q m, R m, g, mz_L_mem.mpr ⟨l, by omega, rfl, rfl, rfl⟩, mz_L_mem.mpr ⟨m, by omega, rfl, rfl, rfl⟩, hg, h0, hX, hY, hD⟩), h4⟩
    · rintro ⟨h3 | ⟨p, q, r, hm, h3⟩ | ⟨p1, q1, r1, p2, q2, r2, g, hm1, hm2, hg, h0, hX, hY, hD⟩, h4⟩
      · exact Or.inr (Or.inl ⟨h3, h4⟩)
      · obtain ⟨l, hl, rfl, rfl, rfl⟩ := mz_L_mem.mp hm
        exact Or.inr (Or.inr (Or.inl ⟨l, by omega, by omega, h3, h4⟩))
      · obtain ⟨l, hl, rfl, rfl, rfl⟩ := mz_L_mem.mp hm1
        obtain ⟨m, hm, rfl, rfl, rfl⟩ := mz_L_mem.mp hm2
        rcases Nat.lt_trichotomy l m with z | z | z
        · refine Or.inr (Or.inr (Or.inr ⟨m, l, by omega, by omega, z, ⟨-g, by omega, ?_, ?_, ?_, ?_⟩, h4⟩))
          · have : -g * mz_cr (P m) (Q m) (P l) (Q l) = g * mz_cr (P l) (Q l) (P m) (Q m) := by unfold mz_cr; grind
            rw [this]; exact h0
          · rw [hX]; grind
          · rw [hY]; grind
          · rw [hD]; unfold mz_cr; grind
        · subst z
          have e : mz_cr (P l) (Q l) (P l) (Q l) = 0 := by unfold mz_cr; rw [Int.mul_comm]; omega
          rw [e, Int.mul_zero] at h0
          omega
        · exact Or.inr (Or.inr (Or.inr ⟨l, m, by omega, by omega, z, ⟨g, hg, h0, hX, hY, hD⟩, h4⟩))
  obtain ⟨a0, a1⟩ := h1
  refine ⟨fun X Y D z => a0 X Y D ((e X Y D).mpr z), ?_⟩
  rcases a1 with ⟨x, y⟩ | ⟨x, x2, ⟨X0, Y0, c0, e0⟩, z⟩
  · exact Or.inl ⟨x, fun X Y D w => y X Y D ((e X Y D).mpr w)⟩
  · exact Or.inr ⟨x, x2, ⟨X0, Y0, (e _ _ _).mp c0, e0⟩, fun X Y D w => z X Y D ((e X Y D).mpr w)⟩
/-! what the two searches have in common -/
theorem mz_feasMP {G : mz_G} (hmin : ∀ a b : Int, (∀ t d, ¬ mz_DC G a b t d) ∨ ∃ t d, mz_DC G a b t d ∧ ∀ t' d', mz_DC G a b t' d' → t * d' ≤ t' * d) (hF : mz_Feas G) : ∃ X Y D, mz_MP G X Y D ∧ mz_ft G X Y D := by
  by_cases h0 : mz_ft G 0 0 1
  · exact ⟨0, 0, 1, Or.inl ⟨rfl, rfl, rfl⟩, h0⟩
  · obtain ⟨p, q, r, m, h⟩ : ∃ p q r : Int, (p, q, r) ∈ G ∧ r < 0 := by
      by_cases hx : ∃ p q r : Int, (p, q, r) ∈ G ∧ r < 0
      · exact hx
      · refine absurd (fun p q r hw => ?_) h0
        have : ¬ r < 0 := fun z => hx ⟨p, q, r, hw, z⟩
        omega
    have hpq : ¬ (p = 0 ∧ q = 0) := by
      rintro ⟨rfl, rfl⟩
      obtain ⟨X, Y, D, hD, hf⟩ := hF
      have h1 := hf _ _ _ m
      have h2 := Int.mul_neg_of_neg_of_pos h hD
      omega
    have hdc : mz_DC G p q (r * mz_n p q) (mz_n p q) := Or.inl ⟨p, q, r, m, by unfold mz_cr; rw [Int.mul_comm]; omega, mz_n2 hpq, rfl, rfl⟩
    rcases hmin p q with z | ⟨t, d, h1, h2⟩
    · exact absurd hdc (z _ _)
    · obtain ⟨X, Y, D, a, b, -⟩ := mz_strong hpq hF h1 h2
      exact ⟨X, Y, D, a, b⟩
theorem mz_minEx (P Q R : Nat → Int) (n : Nat) (a b : Int) : (∀ t d, ¬ mz_DC (mz_L P Q R n) a b t d) ∨ ∃ t d, mz_DC (mz_L P Q R n) a b t d ∧ ∀ t' d', mz_DC (mz_L P Q R n) a b t' d' → t * d' ≤ t' * d := by
  rcases (mz_cm P Q R n a b).2 with h | ⟨-, h1, h2⟩
  · exact Or.inl h.2
  · exact Or.inr ⟨_, _, h1, h2⟩
/-- the reference finds a point exactly where there is one -/
theorem mz_lk_some (P Q R : Nat → Int) (n : Nat) (u v : Int) : (mz_lk P Q R n u v).1 = true ↔ mz_Feas (mz_L P Q R n) := by
  rcases (mz_lm P Q R n u v).2 with ⟨x, y⟩ | ⟨x, x2, ⟨X, Y, c, -⟩, -⟩
  · constructor
    · intro z; rw [x] at z; cases z
    · intro z
      obtain ⟨X, Y, D, h⟩ := mz_feasMP (mz_minEx P Q R n) z
      exact absurd h (y X Y D)
  · exact ⟨fun _ => ⟨X, Y, _, x2, c.2⟩, fun _ => x⟩
def mz_ca (P Q R : Nat → Int) (n : Nat) (a b : Int) : Int × Int := if a = 0 ∧ b = 0 then (0, 1) else mz_out P Q R a b n 0 (0, 0)
def mz_Wy (G : mz_G) (u v x y : Int) : Prop := 0 < u * x + v * y ∧ mz_ft G x y 0
def mz_End (G : mz_G) (u v : Int) : Prop := mz_Wy G u v u v ∨ ∃ p q r : Int, (p, q, r) ∈ G ∧ (mz_Wy G u v (-q) p ∨ mz_Wy G u v q (-p) ∨ mz_Wy G u v (-p) (-q))
theorem mz_ca_end (P Q R : Nat → Int) (n : Nat) (a b : Int) : (mz_ca P Q R n a b).2 = 0 ↔ mz_End (mz_L P Q R n) a b := by
  unfold mz_ca
  by_cases hab : a = 0 ∧ b = 0
  · rw [if_pos hab]
    obtain ⟨rfl, rfl⟩ := hab
    constructor
    · intro z; exact absurd z (by decide)
    · rintro (⟨h, -⟩ | ⟨p, q, r, -, ⟨h, -⟩ | ⟨h, -⟩ | ⟨h, -⟩⟩) <;> omega
  · rw [if_neg hab]
    have hI := mz_cm P Q R n a b
    constructor
    · intro z
      rcases hI.2 with ⟨-, h⟩ | ⟨h, -⟩
      · rcases mz_way hab h with ⟨h1, h2⟩ | ⟨p, q, r, e, m, he, h1, h2⟩
        · exact Or.inl ⟨h2, h1⟩
        · refine Or.inr ⟨p, q, r, m, ?_⟩
          rcases he with rfl | rfl
          · rw [Int.one_mul, Int.one_mul] at h1 h2
            exact Or.inr (Or.inl ⟨h1, h2⟩)
          · rw [Int.neg_mul, Int.one_mul, Int.neg_mul, Int.one_mul, Int.neg_neg] at h1 h2
            exact Or.inl ⟨h1, h2⟩
      · omega
    · intro z
      rcases hI.2 with h | ⟨h0, h, -⟩
      · exact h.1
      · exfalso
        obtain ⟨hd, hw⟩ := mz_wk h
        have key : ∀ x y, ¬ mz_Wy (mz_L P Q R n) a b x y := by
          rintro x y ⟨h1, h2⟩
          have h3 := hw x y 0 h2
          have h4 := Int.mul_pos hd h1
          rw [Int.mul_zero] at h3
          omega
        rcases z with z | ⟨p, q, r, -, z | z | z⟩
        · exact key _ _ z
        · exact key _ _ z
        · exact key _ _ z
        · exact key _ _ z
/-- both searches find the same fraction -/
theorem mz_ca_eq {P Q R : Nat → Int} {n : Nat} (hF : mz_Feas (mz_L P Q R n)) {a b : Int} (h : (mz_ca P Q R n a b).2 ≠ 0) :
    0 < (mz_ca P Q R n a b).2 ∧ 0 < (mz_lk P Q R n a b).2.2 ∧ (mz_ca P Q R n a b).1 * (mz_lk P Q R n a b).2.2 = (mz_lk P Q R n a b).2.1 * (mz_ca P Q R n a b).2 ∧ ∃ X Y D, 0 < D ∧ mz_ft (mz_L P Q R n) X Y D ∧ (mz_ca P Q R n a b).2 * (a * X + b * Y) = (mz_ca P Q R n a b).1 * D ∧ ∀ X Y D, 0 < D → mz_ft (mz_L P Q R n) X Y D → (mz_ca P Q R n a b).2 * (a * X + b * Y) ≤ (mz_ca P Q R n a b).1 * D := by
  have hs := (mz_lk_some P Q R n a b).mpr hF
  rcases (mz_lm P Q R n a b).2 with ⟨x, -⟩ | ⟨-, hB, ⟨X, Y, c, e⟩, hmax⟩
  · rw [hs] at x; cases x
  unfold mz_ca at h ⊢
  by_cases hab : a = 0 ∧ b = 0
  · rw [if_pos hab] at h ⊢
    dsimp only at h ⊢
    obtain ⟨rfl, rfl⟩ := hab
    refine ⟨by omega, hB, ?_, X, Y, _, hB, c.2, by omega, fun X Y D _ _ => by omega⟩
    rw [e]
    omega
  · rw [if_neg hab] at h ⊢
    rcases (mz_cm P Q R n a b).2 with z | ⟨h0, h1, h2⟩
    · exact absurd z.1 h
    · obtain ⟨hd, hw⟩ := mz_wk h1
      obtain ⟨X1, Y1, D1, m1, f1, e1⟩ := mz_strong hab hF h1 h2
      have p1 := mz_MPpos m1
      have w0 := hw X Y _ c.2
      have m0 := hmax X1 Y1 D1 ⟨m1, f1⟩
      rw [← e] at w0
      refine ⟨h0, hB, ?_, X1, Y1, D1, p1, f1, e1, fun X Y D _ hf => hw X Y D hf⟩
      generalize (mz_lk P Q R n a b).2.2 = B at *
      generalize (mz_lk P Q R n a b).2.1 = T at *
      generalize (mz_out P Q R a b n 0 (0, 0)).1 = t at *
      generalize (mz_out P Q R a b n 0 (0, 0)).2 = d at *
      have c1 := Int.mul_comm T d
      refine Int.le_antisymm ?_ (by omega)
      refine Int.le_of_mul_le_mul_left (a := D1) ?_ p1
      have x1 := Int.mul_le_mul_of_nonneg_left m0 (Int.le_of_lt h0)
      have x2 : D1 * (t * B) = (t * D1) * B := by rw [Int.mul_left_comm, ← Int.mul_assoc]
      have x3 : d * ((a * X1 + b * Y1) * B) = (d * (a * X1 + b * Y1)) * B := by rw [Int.mul_assoc]
      have x4 : D1 * (T * d) = d * (T * D1) := by rw [Int.mul_left_comm, Int.mul_comm D1 d, Int.mul_left_comm]
      rw [x2, ← e1, ← x3, x4]
      exact x1
/-- a row more: what the class looks at -/
theorem mz_add {P Q R : Nat → Int} {n : Nat} (hF : mz_Feas (mz_L P Q R n)) : mz_Feas (mz_L P Q R (n + 1)) ↔ ¬ ((mz_ca P Q R n (-P n) (-Q n)).2 ≠ 0 ∧ (mz_ca P Q R n (-P n) (-Q n)).1 < -R n * (mz_ca P Q R n (-P n) (-Q n)).2) := by
  have hsplit : ∀ X Y D, mz_ft (mz_L P Q R (n + 1)) X Y D ↔ mz_ft (mz_L P Q R n) X Y D ∧ P n * X + Q n * Y ≤ R n * D := by
    intro X Y D
    constructor
    · intro h
      refine ⟨fun p q r hm => ?_, h _ _ _ (mz_L_mem.mpr ⟨n, by omega, rfl, rfl, rfl⟩)⟩
      obtain ⟨l, hl, rfl, rfl, rfl⟩ := mz_L_mem.mp hm
      exact h _ _ _ (mz_L_mem.mpr ⟨l, by omega, rfl, rfl, rfl⟩)
    · rintro ⟨h1, h2⟩ p q r hm
      obtain ⟨l, hl, rfl, rfl, rfl⟩ := mz_L_mem.mp hm
      by_cases e : l = n
      · subst e; exact h2
      · exact h1 _ _ _ (mz_L_mem.mpr ⟨l, by omega, rfl, rfl, rfl⟩)
  have hng : ∀ X Y : Int, -P n * X + -Q n * Y = -(P n * X + Q n * Y) := fun X Y => by rw [Int.neg_mul, Int.neg_mul]; omega
  by_cases hz : (mz_ca P Q R n (-P n) (-Q n)).2 = 0
  · refine ⟨fun _ z => z.1 hz, fun _ => ?_⟩
    have hE := (mz_ca_end P Q R n (-P n) (-Q n)).mp hz
    obtain ⟨x, y, h1, h2⟩ : ∃ x y, mz_Wy (mz_L P Q R n) (-P n) (-Q n) x y := by
      rcases hE with z | ⟨p, q, r, -, z | z | z⟩
      · exact ⟨_, _, z⟩
      · exact ⟨_, _, z⟩
      · exact ⟨_, _, z⟩
      · exact ⟨_, _, z⟩
    obtain ⟨X, Y, D, hD, hf⟩ := hF
    rw [hng] at h1
    -- far enough along that way
    refine ⟨X + ((P n * X + Q n * Y - R n * D).natAbs : Int) * x, Y + ((P n * X + Q n * Y - R n * D).natAbs : Int) * y, D, hD, (hsplit _ _ _).mpr ⟨fun p q r hm => ?_, ?_⟩⟩
    · have k1 := hf p q r hm
      have k2 := h2 p q r hm
      rw [Int.mul_zero] at k2
      generalize hK : ((P n * X + Q n * Y - R n * D).natAbs : Int) = K
      have hK0 : 0 ≤ K := by omega
      have k3 := Int.mul_nonpos_of_nonneg_of_nonpos hK0 k2
      have e : p * (X + K * x) + q * (Y + K * y) = p * X + q * Y + K * (p * x + q * y) := by clear hK hK0 k1 k2 k3 h1 h2; grind
      omega
    · generalize hK : ((P n * X + Q n * Y - R n * D).natAbs : Int) = K
      have hK0 : 0 ≤ K := by omega
      have e : P n * (X + K * x) + Q n * (Y + K * y) = P n * X + Q n * Y + K * (P n * x + Q n * y) := by clear hK hK0 h1 h2; grind
      have k3 := Int.mul_le_mul_of_nonneg_left (show P n * x + Q n * y ≤ -1 by omega) hK0
      omega
  · obtain ⟨hd, -, -, X, Y, D, hD, hf, e, hw⟩ := mz_ca_eq hF hz
    generalize (mz_ca P Q R n (-P n) (-Q n)).2 = d at *
    generalize (mz_ca P Q R n (-P n) (-Q n)).1 = t at *
    constructor
    · rintro ⟨X1, Y1, D1, hD1, hf1⟩ ⟨-, h2⟩
      obtain ⟨g1, g2⟩ := (hsplit _ _ _).mp hf1
      have g3 := hw X1 Y1 D1 hD1 g1
      rw [hng] at g3
      have g4 := Int.mul_le_mul_of_nonneg_left g2 (Int.le_of_lt hd)
      have g5 := Int.mul_lt_mul_of_pos_right h2 hD1
      have e2 : -R n * d * D1 = -(d * (R n * D1)) := by clear hw e g1 g2 g3 g4 g5 h2; grind
      rw [Int.mul_neg] at g3
      omega
    · intro h
      have h' : ¬ t < -R n * d := fun z => h ⟨hz, z⟩
      refine ⟨X, Y, D, hD, (hsplit _ _ _).mpr ⟨hf, ?_⟩⟩
      refine Int.le_of_mul_le_mul_left (a := d) ?_ hd
      have g5 := Int.mul_le_mul_of_nonneg_right (show -R n * d ≤ t by omega) (Int.le_of_lt hD)
      have e2 : -R n * d * D = -(d * (R n * D)) := by clear hw e g5 h h'; grind
      rw [hng, Int.mul_neg] at e
      omega
