/-! The levels of the class and of the reference are the same -/
def uvOK (us vs : Nat → Int32) : Prop := (∀ f, f < 80 → (∃ i j, i < 9 ∧ j < 9 ∧ us f = mu i ∧ vs f = mu j) ∧ ¬ (us f = 0 ∧ vs f = 0)) ∧ (∀ i j, i < 9 → j < 9 → ¬ (mu i = 0 ∧ mu j = 0) → ∃ f, f < 80 ∧ us f = mu i ∧ vs f = mu j) ∧ (∀ f g, f < 80 → g < 80 → (m_bf (us f) (vs f) (us g) (vs g) = 0 ↔ g ≤ f))
def QR (ds : List bDt) (fp fq fr up : Nat → Int32) (dn : Nat → Nat) (nc : Nat) : Prop := ∀ t, t < nc → Rq (dAt ds t) fp fq fr up t (dn t)
theorem mu_4 : ∀ i, i < 9 → (mu i).toInt.natAbs ≤ 4 := by decide
theorem uv_4 {us vs : Nat → Int32} (h : uvOK us vs) {f : Nat} (hf : f < 80) : v32 (us f) (us f).toInt 4 ∧ v32 (vs f) (vs f).toInt 4 := by
  obtain ⟨⟨i, j, hi, hj, e1, e2⟩, -⟩ := h.1 f hf
  exact ⟨⟨rfl, by rw [e1]; exact mu_4 i hi⟩, ⟨rfl, by rw [e2]; exact mu_4 j hj⟩⟩
theorem kd_v {d : bDt} {fp fq fr up : Nat → Int32} {t n : Nat} (h : Rq d fp fq fr up t n) {u v : Int32} {U V : Int} (hu : v32 u U 4) (hv : v32 v V 4) : (dKind d u v = 0 ↔ m_has fp fq fr up t n u v 0 = 0) ∧ (¬ m_has fp fq fr up t n u v 0 = 0 → (dKind d u v = 2 ↔ ¬ m_has fp fq fr up t n u v 1 = 0 ∧ ¬ m_has fp fq fr up t n u v 2 = 0)) := by
  unfold dKind s_kind
  rw [q_chg0 h hu hv, q_chg1 h hu hv, q_bnd h hu hv]
  by_cases c0 : m_has fp fq fr up t n u v 0 = 0
  · rw [if_pos c0]; exact ⟨⟨fun _ => c0, fun _ => rfl⟩, fun z => absurd c0 z⟩
  · rw [if_neg c0]
    by_cases c1 : m_has fp fq fr up t n u v 1 = 0
    · rw [if_pos c1]; exact ⟨⟨fun z => absurd z (by decide), fun z => absurd z c0⟩, fun _ => ⟨fun z => absurd z (by decide), fun z => absurd c1 z.1⟩⟩
    · rw [if_neg c1]
      by_cases c2 : m_has fp fq fr up t n u v 2 = 0
      · rw [if_pos c2]; exact ⟨⟨fun z => absurd z (by decide), fun z => absurd z c0⟩, fun _ => ⟨fun z => absurd z (by decide), fun z => absurd c2 z.2⟩⟩
      · rw [if_neg c2]; exact ⟨⟨fun z => absurd z (by decide), fun z => absurd z c0⟩, fun _ => ⟨fun _ => ⟨c1, c2⟩, fun _ => rfl⟩⟩
def gdL (ol : Nat → Int32) (nc ll : Nat) : Prop := ∀ t, t < nc → ol t = -1 ∨ ∃ j, j < ll ∧ ol t = nI j
theorem gd_neg {ol : Nat → Int32} {nc ll : Nat} (h : gdL ol nc ll) (hl : ll ≤ 6) {t : Nat} (ht : t < nc) : ol t = -1 ↔ ol t < 0 := by
  rcases h t ht with z | ⟨j, hj, z⟩
  · rw [z]; decide
  · rw [z]
    exact ⟨fun e => absurd (show nI j < 0 by rw [e]; decide) (nI_pos (by omega)), fun e => absurd e (nI_pos (by omega))⟩
theorem cr_eq {lo ol K : Nat → Int32} {hs : Nat → Int32 → Int32} {nc : Nat} (h1 : ∀ t, t < nc → (lo t = -1 ↔ ol t < 0)) (h2 : ∀ t, t < nc → (K t = 0 ↔ hs t 0 = 0) ∧ (¬ hs t 0 = 0 → (K t = 2 ↔ ¬ hs t 1 = 0 ∧ ¬ hs t 2 = 0))) : ∀ k t n, t + k ≤ nc → c_cr lo K k t n = m_rm ol hs k t n := by
  intro k
  induction k with
  | zero => intro t n _; rfl
  | succ k ih =>
    intro t n ht
    have e1 := h1 t (by omega)
    obtain ⟨e2, e3⟩ := h2 t (by omega)
    simp only [c_cr, m_rm]
    by_cases c1 : ol t < 0
    · rw [if_pos c1, if_pos (e1.mpr c1)]
      by_cases c2 : hs t 0 = 0
      · rw [if_pos c2, if_pos (e2.mpr c2)]
      · rw [if_neg c2, if_neg (fun z => c2 (e2.mp z)), ih _ _ (by omega)]
        have e4 := e3 c2
        by_cases c3 : hs t 1 = 0
        · rw [if_pos c3, if_neg (fun z => (e4.mp z).1 c3)]
        · rw [if_neg c3]
          by_cases c4 : hs t 2 = 0
          · rw [if_pos c4, if_neg (fun z => (e4.mp z).2 c4)]
          · rw [if_neg c4, if_pos (e4.mpr ⟨c3, c4⟩)]
    · rw [if_neg c1, if_neg (fun z => c1 (e1.mp z)), ih _ _ (by omega)]
theorem lf_eq {lo ol : Nat → Int32} {nc : Nat} (h1 : ∀ t, t < nc → (lo t = -1 ↔ ol t < 0)) : ∀ k t n, t + k ≤ nc → c_lf lo k t n = m_lf ol k t n := by
  intro k
  induction k with
  | zero => intro t n _; rfl
  | succ k ih =>
    intro t n ht
    have e1 := h1 t (by omega)
    simp only [c_lf, m_lf]
    rw [ih _ _ (by omega)]
    by_cases c1 : ol t < 0
    · rw [if_pos c1, if_pos (e1.mpr c1)]
    · rw [if_neg c1, if_neg (fun z => c1 (e1.mp z))]
theorem rm_pos {ol : Nat → Int32} {hs : Nat → Int32 → Int32} : ∀ k t n, ¬ m_rm ol hs k t n = 0 → ∀ j, t ≤ j → j < t + k → ol j < 0 → ¬ hs j 0 = 0 := by
  intro k
  induction k with
  | zero => intro t n _ j h1 h2; omega
  | succ k ih =>
    intro t n h j h1 h2 h3
    simp only [m_rm] at h
    by_cases c1 : ol t < 0
    · rw [if_pos c1] at h
      by_cases c2 : hs t 0 = 0
      · rw [if_pos c2] at h; exact absurd rfl h
      · rw [if_neg c2] at h
        by_cases e : j = t
        · subst e; exact c2
        · exact ih _ _ h j (by omega) (by omega) h3
    · rw [if_neg c1] at h
      by_cases e : j = t
      · subst e; exact absurd h3 c1
      · exact ih _ _ h j (by omega) (by omega) h3
/-! the best function -/
theorem c_bf_cg {C C' : Nat → Nat} (h : ∀ f, f < 80 → C f = C' f) : ∀ k f z, f + k ≤ 80 → c_bf C k f z = c_bf C' k f z := by
  intro k
  induction k with
  | zero => intro f z _; rfl
  | succ k ih =>
    intro f z hf
    simp only [c_bf]
    rw [h f (by omega), ih _ _ (by omega)]
def cbI (C : Nat → Nat) (f : Nat) (z : Int32 × Nat) : Prop := (z = (-1, 0) ∧ ∀ g, g < f → C g = 0) ∨ ∃ g, g < f ∧ z = (nI g, C g) ∧ 0 < C g ∧ (∀ h, h < f → C h ≤ C g) ∧ ∀ h, h < g → C h < C g
theorem cb_inv (C : Nat → Nat) : ∀ k f z, cbI C f z → cbI C (f + k) (c_bf C k f z) := by
  intro k
  induction k with
  | zero => intro f z h; exact h
  | succ k ih =>
    intro f z h
    have e : f + (k + 1) = f + 1 + k := by omega
    rw [e]
    refine ih (f + 1) _ ?_
    rcases h with ⟨rfl, h0⟩ | ⟨g, hg, rfl, h0, h1, h2⟩
    · by_cases c : 0 < C f
      · rw [if_pos (show (-1, 0).2 < C f from c)]
        refine Or.inr ⟨f, by omega, rfl, c, fun h hh => ?_, fun h hh => by rw [h0 h hh]; exact c⟩
        by_cases e : h = f
        · subst e; exact Nat.le_refl _
        · rw [h0 h (by omega)]; omega
      · rw [if_neg (show ¬ (-1, 0).2 < C f from c)]
        refine Or.inl ⟨rfl, fun h hh => ?_⟩
        by_cases e : h = f
        · subst e; omega
        · exact h0 h (by omega)
    · by_cases c : C g < C f
      · rw [if_pos (show (nI g, C g).2 < C f from c)]
        refine Or.inr ⟨f, by omega, rfl, by omega, fun h hh => ?_, fun h hh => ?_⟩
        · by_cases e : h = f
          · subst e; exact Nat.le_refl _
          · have := h1 h (by omega); omega
        · have := h1 h hh; omega
      · rw [if_neg (show ¬ (nI g, C g).2 < C f from c)]
        refine Or.inr ⟨g, by omega, rfl, h0, fun h hh => ?_, h2⟩
        by_cases e : h = f
        · subst e; omega
        · exact h1 h (by omega)
def mbI (us vs : Nat → Int32) (C : Nat → Nat) (Sn : Nat → Prop) (b : mB) : Prop := (∀ f, f < 80 → Sn f → C f ≤ b.1) ∧ (¬ b.1 = 0 → ∃ g, g < 80 ∧ Sn g ∧ b = (C g, us g, vs g) ∧ ∀ f, f < 80 → Sn f → C f = C g → g ≤ f)
theorem mb_st {us vs : Nat → Int32} (huv : uvOK us vs) {R : Int32 → Int32 → Nat} {Sn Sn' : Nat → Prop} {b : mB} (h : mbI us vs (fun f => R (us f) (vs f)) Sn b) {f : Nat} (hf : f < 80) (hS : ∀ g, g < 80 → (Sn' g ↔ Sn g ∨ g = f)) : mbI us vs (fun f => R (us f) (vs f)) Sn' (m_st (R (us f) (vs f)) (us f) (vs f) b) := by
  obtain ⟨h1, h2⟩ := h
  unfold m_st
  by_cases c1 : b.1 < R (us f) (vs f)
  · rw [if_pos c1]
    refine ⟨fun g hg hs => ?_, fun _ => ⟨f, hf, (hS f hf).mpr (Or.inr rfl), rfl, fun g hg hs e => ?_⟩⟩
    · rcases (hS g hg).mp hs with z | rfl
      · have := h1 g hg z
        show R (us g) (vs g) ≤ R (us f) (vs f)
        have this : R (us g) (vs g) ≤ b.1 := this
        omega
      · exact Nat.le_refl _
    · rcases (hS g hg).mp hs with z | rfl
      · have this : R (us g) (vs g) ≤ b.1 := h1 g hg z
        have e : R (us g) (vs g) = R (us f) (vs f) := e
        omega
      · exact Nat.le_refl _
  · rw [if_neg c1]
    have hle : ∀ g, g < 80 → Sn' g → R (us g) (vs g) ≤ b.1 := fun g hg hs => by
      rcases (hS g hg).mp hs with z | rfl
      · exact h1 g hg z
      · omega
    by_cases c2 : R (us f) (vs f) = 0
    · rw [if_pos c2]
      refine ⟨hle, fun hb => ?_⟩
      obtain ⟨g, hg, hs, e, hm⟩ := h2 hb
      refine ⟨g, hg, (hS g hg).mpr (Or.inl hs), e, fun f' hf' hs' e' => ?_⟩
      rcases (hS f' hf').mp hs' with z | rfl
      · exact hm f' hf' z e'
      · have e' : R (us f') (vs f') = R (us g) (vs g) := e'
        exact absurd (show b.1 = 0 by rw [e]; show R (us g) (vs g) = 0; omega) hb
    · rw [if_neg c2]
      by_cases c3 : R (us f) (vs f) = b.1
      · rw [if_pos c3]
        obtain ⟨g, hg, hs, e, hm⟩ := h2 (by omega)
        have eb : b.1 = R (us g) (vs g) := by rw [e]
        have e2 : b.2.1 = us g := by rw [e]
        have e3 : b.2.2 = vs g := by rw [e]
        rw [e2, e3]
        by_cases c4 : m_bf (us f) (vs f) (us g) (vs g) = 0
        · rw [if_pos c4]
          refine ⟨hle, fun _ => ⟨g, hg, (hS g hg).mpr (Or.inl hs), e, fun f' hf' hs' e' => ?_⟩⟩
          rcases (hS f' hf').mp hs' with z | rfl
          · exact hm f' hf' z e'
          · exact (huv.2.2 f' g hf' hg).mp c4
        · rw [if_neg c4]
          have hfg : ¬ g ≤ f := fun z => c4 ((huv.2.2 f g hf hg).mpr z)
          refine ⟨fun g' hg' hs' => ?_, fun _ => ⟨f, hf, (hS f hf).mpr (Or.inr rfl), rfl, fun f' hf' hs' e' => ?_⟩⟩
          · show R (us g') (vs g') ≤ R (us f) (vs f)
            rw [c3]; exact hle g' hg' hs'
          · rcases (hS f' hf').mp hs' with z | rfl
            · have e' : R (us f') (vs f') = R (us f) (vs f) := e'
              have := hm f' hf' z (show R (us f') (vs f') = R (us g) (vs g) by omega)
              omega
            · exact Nat.le_refl _
      · rw [if_neg c3]
        refine ⟨hle, fun hb => ?_⟩
        obtain ⟨g, hg, hs, e, hm⟩ := h2 hb
        have eb : b.1 = R (us g) (vs g) := by rw [e]
        refine ⟨g, hg, (hS g hg).mpr (Or.inl hs), e, fun f' hf' hs' e' => ?_⟩
        rcases (hS f' hf').mp hs' with z | rfl
        · exact hm f' hf' z e'
        · have e' : R (us f') (vs f') = R (us g) (vs g) := e'
          omega
theorem uv_inj {us vs : Nat → Int32} (huv : uvOK us vs) {f g : Nat} (hf : f < 80) (hg : g < 80) (h1 : us f = us g) (h2 : vs f = vs g) : f = g := by
  have a := (huv.2.2 f g hf hg)
  have b := (huv.2.2 g f hg hf)
  have c := (huv.2.2 g g hg hg)
  rw [h1, h2] at a b
  have z := c.mpr (Nat.le_refl _)
  have x := a.mp z
  have y := b.mp z
  omega
theorem mb_bi {us vs : Nat → Int32} (huv : uvOK us vs) {R : Int32 → Int32 → Nat} (hR : R 0 0 = 0) {i : Nat} (hi : i < 9) : ∀ (k j : Nat) (Sn : Nat → Prop) (b : mB), j + k ≤ 9 → mbI us vs (fun f => R (us f) (vs f)) Sn b → mbI us vs (fun f => R (us f) (vs f)) (fun f => Sn f ∨ (us f = mu i ∧ ∃ j', j ≤ j' ∧ j' < j + k ∧ vs f = mu j')) (m_bi R (mu i) k j b) := by
  intro k
  induction k with
  | zero =>
    intro j Sn b _ h
    obtain ⟨h1, h2⟩ := h
    have e : ∀ f, (Sn f ∨ (us f = mu i ∧ ∃ j', j ≤ j' ∧ j' < j + 0 ∧ vs f = mu j')) ↔ Sn f := fun f => ⟨fun z => by
      rcases z with z | ⟨-, j', a, b, -⟩
      · exact z
      · omega, Or.inl⟩
    refine ⟨fun f hf hs => h1 f hf ((e f).mp hs), fun hb => ?_⟩
    obtain ⟨g, hg, hs, e', hm⟩ := h2 hb
    exact ⟨g, hg, (e g).mpr hs, e', fun f hf hs => hm f hf ((e f).mp hs)⟩
  | succ k ih =>
    intro j Sn b hj h
    have key : mbI us vs (fun f => R (us f) (vs f)) (fun f => Sn f ∨ (us f = mu i ∧ vs f = mu j)) (m_st (R (mu i) (mu j)) (mu i) (mu j) b) := by
      by_cases c : mu i = 0 ∧ mu j = 0
      · rw [c.1, c.2, hR, m_st_0]
        have e : ∀ f, f < 80 → ((Sn f ∨ (us f = 0 ∧ vs f = 0)) ↔ Sn f) := fun f hf => ⟨fun z => by
          rcases z with z | z
          · exact z
          · exact absurd z (huv.1 f hf).2, Or.inl⟩
        obtain ⟨h1, h2⟩ := h
        refine ⟨fun f hf hs => h1 f hf ((e f hf).mp hs), fun hb => ?_⟩
        obtain ⟨g, hg, hs, e', hm⟩ := h2 hb
        exact ⟨g, hg, (e g hg).mpr hs, e', fun f hf hs => hm f hf ((e f hf).mp hs)⟩
      · obtain ⟨f, hf, e1, e2⟩ := huv.2.1 i j hi (by omega) c
        rw [← e1, ← e2]
        refine mb_st huv h hf (fun g hg => ⟨fun z => ?_, fun z => ?_⟩)
        · rcases z with z | ⟨a, b⟩
          · exact Or.inl z
          · exact Or.inr (uv_inj huv hg hf a b)
        · rcases z with z | rfl
          · exact Or.inl z
          · exact Or.inr ⟨rfl, rfl⟩
    have r := ih (j + 1) _ _ (by omega) key
    have e : ∀ f, ((Sn f ∨ (us f = mu i ∧ vs f = mu j)) ∨ (us f = mu i ∧ ∃ j', j + 1 ≤ j' ∧ j' < j + 1 + k ∧ vs f = mu j')) ↔ (Sn f ∨ (us f = mu i ∧ ∃ j', j ≤ j' ∧ j' < j + (k + 1) ∧ vs f = mu j')) := fun f => ⟨fun z => by
      rcases z with (z | ⟨a, b⟩) | ⟨a, j', x, y, b⟩
      · exact Or.inl z
      · exact Or.inr ⟨a, j, by omega, by omega, b⟩
      · exact Or.inr ⟨a, j', by omega, by omega, b⟩, fun z => by
      rcases z with z | ⟨a, j', x, y, b⟩
      · exact Or.inl (Or.inl z)
      · by_cases ej : j' = j
        · subst ej; exact Or.inl (Or.inr ⟨a, b⟩)
        · exact Or.inr ⟨a, j', by omega, by omega, b⟩⟩
    obtain ⟨h1, h2⟩ := r
    refine ⟨fun f hf hs => h1 f hf ((e f).mpr hs), fun hb => ?_⟩
    obtain ⟨g, hg, hs, e', hm⟩ := h2 hb
    exact ⟨g, hg, (e g).mp hs, e', fun f hf hs => hm f hf ((e f).mpr hs)⟩
theorem mb_bo {us vs : Nat → Int32} (huv : uvOK us vs) {R : Int32 → Int32 → Nat} (hR : R 0 0 = 0) : ∀ (k i : Nat) (Sn : Nat → Prop) (b : mB), i + k ≤ 9 → mbI us vs (fun f => R (us f) (vs f)) Sn b → mbI us vs (fun f => R (us f) (vs f)) (fun f => Sn f ∨ ∃ i', i ≤ i' ∧ i' < i + k ∧ us f = mu i') (m_bo R k i b) := by
  intro k
  induction k with
  | zero =>
    intro i Sn b _ h
    obtain ⟨h1, h2⟩ := h
    have e : ∀ f, (Sn f ∨ ∃ i', i ≤ i' ∧ i' < i + 0 ∧ us f = mu i') ↔ Sn f := fun f => ⟨fun z => by
      rcases z with z | ⟨j', a, b, -⟩
      · exact z
      · omega, Or.inl⟩
    refine ⟨fun f hf hs => h1 f hf ((e f).mp hs), fun hb => ?_⟩
    obtain ⟨g, hg, hs, e', hm⟩ := h2 hb
    exact ⟨g, hg, (e g).mpr hs, e', fun f hf hs => hm f hf ((e f).mp hs)⟩
  | succ k ih =>
    intro i Sn b hi h
    have r := ih (i + 1) _ _ (by omega) (mb_bi huv hR (show i < 9 by omega) 9 0 Sn b (by omega) h)
    have e : ∀ f, f < 80 → (((Sn f ∨ (us f = mu i ∧ ∃ j', 0 ≤ j' ∧ j' < 0 + 9 ∧ vs f = mu j')) ∨ ∃ i', i + 1 ≤ i' ∧ i' < i + 1 + k ∧ us f = mu i') ↔ (Sn f ∨ ∃ i', i ≤ i' ∧ i' < i + (k + 1) ∧ us f = mu i')) := fun f hf => ⟨fun z => by
      rcases z with (z | ⟨a, -⟩) | ⟨i', x, y, a⟩
      · exact Or.inl z
      · exact Or.inr ⟨i, by omega, by omega, a⟩
      · exact Or.inr ⟨i', by omega, by omega, a⟩, fun z => by
      rcases z with z | ⟨i', x, y, a⟩
      · exact Or.inl (Or.inl z)
      · by_cases ei : i' = i
        · subst ei
          obtain ⟨⟨i2, j2, hi2, hj2, e1, e2⟩, -⟩ := huv.1 f hf
          exact Or.inl (Or.inr ⟨a, j2, by omega, by omega, e2⟩)
        · exact Or.inr ⟨i', by omega, by omega, a⟩⟩
    obtain ⟨h1, h2⟩ := r
    refine ⟨fun f hf hs => h1 f hf ((e f hf).mpr hs), fun hb => ?_⟩
    obtain ⟨g, hg, hs, e', hm⟩ := h2 hb
    exact ⟨g, hg, (e g hg).mp hs, e', fun f hf hs => hm f hf ((e f hf).mpr hs)⟩
theorem best_eq {us vs : Nat → Int32} (huv : uvOK us vs) {R : Int32 → Int32 → Nat} (hR : R 0 0 = 0) (x y : Int32) : ((c_bf (fun f => R (us f) (vs f)) 80 0 (-1, 0)).1 = -1 ∧ (m_bo R 9 0 (0, x, y)).1 = 0) ∨ ∃ g, g < 80 ∧ (c_bf (fun f => R (us f) (vs f)) 80 0 (-1, 0)).1 = nI g ∧ m_bo R 9 0 (0, x, y) = (R (us g) (vs g), us g, vs g) ∧ 0 < R (us g) (vs g) := by
  have a := cb_inv (fun f => R (us f) (vs f)) 80 0 (-1, 0) (Or.inl ⟨rfl, fun g hg => absurd hg (Nat.not_lt_zero _)⟩)
  have b := mb_bo huv hR 9 0 (fun _ => False) (0, x, y) (by omega) ⟨fun _ _ z => z.elim, fun z => absurd rfl z⟩
  have hall : ∀ f, f < 80 → (False ∨ ∃ i', 0 ≤ i' ∧ i' < 0 + 9 ∧ us f = mu i') := fun f hf => by
    obtain ⟨⟨i, j, hi, hj, e1, e2⟩, -⟩ := huv.1 f hf
    exact Or.inr ⟨i, by omega, by omega, e1⟩
  obtain ⟨b1, b2⟩ := b
  rcases a with ⟨a0, a1⟩ | ⟨g, hg, a0, a1, a2, a3⟩
  · refine Or.inl ⟨by rw [a0], ?_⟩
    by_cases c : (m_bo R 9 0 (0, x, y)).1 = 0
    · exact c
    · obtain ⟨g, hg, -, e, -⟩ := b2 c
      have := a1 g (by omega)
      rw [e] at c
      exact absurd this c
  · refine Or.inr ⟨g, by omega, by rw [a0], ?_, a1⟩
    have hg' : g < 80 := by omega
    have hne : ¬ (m_bo R 9 0 (0, x, y)).1 = 0 := by
      have := b1 g hg' (hall g hg')
      have this : R (us g) (vs g) ≤ (m_bo R 9 0 (0, x, y)).1 := this
      have a1 : 0 < R (us g) (vs g) := a1
      omega
    obtain ⟨g', hg2, -, e, hm⟩ := b2 hne
    have m1 : R (us g) (vs g) ≤ R (us g') (vs g') := by
      have := b1 g hg' (hall g hg')
      rw [e] at this
      exact this
    have m2 : R (us g') (vs g') ≤ R (us g) (vs g) := a2 g' (by omega)
    have m3 := hm g hg' (hall g hg') (show R (us g) (vs g) = R (us g') (vs g') by omega)
    have m4 : g = g' := by
      by_cases c : g' < g
      · have : R (us g') (vs g') < R (us g) (vs g) := a3 g' c
        omega
      · omega
    subst m4
    exact e
