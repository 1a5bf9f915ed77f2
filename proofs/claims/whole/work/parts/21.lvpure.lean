/-! Levels: how many are left, what a level takes away; the best function does not depend on what stood in its place -/
theorem m_lf_add (ol : Nat → Int32) (d : Nat) : ∀ (k t n : Nat), m_lf ol k t (n + d) = m_lf ol k t n + d := by
  intro k
  induction k with
  | zero => intro t n; rfl
  | succ k ih =>
    intro t n
    show m_lf ol k (t + 1) (if ol t < 0 then n + d + 1 else n + d) = m_lf ol k (t + 1) (if ol t < 0 then n + 1 else n) + d
    by_cases h : ol t < 0
    · rw [if_pos h, if_pos h, ← ih, show n + d + 1 = n + 1 + d by omega]
    · rw [if_neg h, if_neg h, ih]
theorem m_lf_mono {ol ol' : Nat → Int32} : ∀ (k t n n' : Nat), n' ≤ n → (∀ j, t ≤ j → j < t + k → ol' j < 0 → ol j < 0) → m_lf ol' k t n' ≤ m_lf ol k t n := by
  intro k
  induction k with
  | zero => intro t n n' h _; exact h
  | succ k ih =>
    intro t n n' h hm
    show m_lf ol' k (t + 1) (if ol' t < 0 then n' + 1 else n') ≤ m_lf ol k (t + 1) (if ol t < 0 then n + 1 else n)
    refine ih (t + 1) _ _ ?_ (fun j h1 h2 => hm j (by omega) (by omega))
    by_cases h1 : ol' t < 0
    · rw [if_pos h1, if_pos (hm t (by omega) (by omega) h1)]; omega
    · rw [if_neg h1]; split <;> omega
theorem m_lf_lt {ol ol' : Nat → Int32} : ∀ (k t n : Nat), (∀ j, t ≤ j → j < t + k → ol' j < 0 → ol j < 0) → (∃ j, t ≤ j ∧ j < t + k ∧ ol j < 0 ∧ ¬ ol' j < 0) → m_lf ol' k t n < m_lf ol k t n := by
  intro k
  induction k with
  | zero => intro t n _ h; obtain ⟨j, h1, h2, -⟩ := h; omega
  | succ k ih =>
    intro t n hm hx
    show m_lf ol' k (t + 1) (if ol' t < 0 then n + 1 else n) < m_lf ol k (t + 1) (if ol t < 0 then n + 1 else n)
    have hm' : ∀ j, t + 1 ≤ j → j < t + 1 + k → ol' j < 0 → ol j < 0 := fun j h1 h2 => hm j (by omega) (by omega)
    have hmono := m_lf_mono k (t + 1) n n (Nat.le_refl _) hm'
    by_cases h1 : ol' t < 0
    · have h2 := hm t (by omega) (by omega) h1
      rw [if_pos h1, if_pos h2]
      refine ih (t + 1) _ hm' ?_
      obtain ⟨j, j1, j2, j3, j4⟩ := hx
      refine ⟨j, ?_, by omega, j3, j4⟩
      by_cases e : j = t
      · subst e; exact absurd h1 j4
      · omega
    · rw [if_neg h1]
      by_cases h2 : ol t < 0
      · rw [if_pos h2, m_lf_add]; omega
      · rw [if_neg h2]
        refine ih (t + 1) _ hm' ?_
        obtain ⟨j, j1, j2, j3, j4⟩ := hx
        refine ⟨j, ?_, by omega, j3, j4⟩
        by_cases e : j = t
        · subst e; exact absurd j3 h2
        · omega
theorem m_ol_at (h1 h2 : Nat → Int32) (lv : Nat) : ∀ (k t : Nat) (ol : Nat → Int32) (j : Nat), (m_ol h1 h2 lv k t ol) j = if (t ≤ j ∧ j < t + k) ∧ ol j < 0 ∧ ¬ h1 j = 0 ∧ ¬ h2 j = 0 then nI lv else ol j := by
  intro k
  induction k with
  | zero => intro t ol j; rw [if_neg (by rintro ⟨⟨a, b⟩, -⟩; omega)]; rfl
  | succ k ih =>
    intro t ol j
    show (m_ol h1 h2 lv k (t + 1) (if ol t < 0 then (if h1 t = 0 then ol else if h2 t = 0 then ol else upd ol t (nI lv)) else ol)) j = _
    rw [ih]
    by_cases e : j = t
    · subst e
      rw [if_neg (by rintro ⟨⟨a, b⟩, -⟩; omega)]
      by_cases c0 : ol j < 0
      · rw [if_pos c0]
        by_cases c1 : h1 j = 0
        · rw [if_pos c1, if_neg (fun z => z.2.2.1 c1)]
        · rw [if_neg c1]
          by_cases c2 : h2 j = 0
          · rw [if_pos c2, if_neg (fun z => z.2.2.2 c2)]
          · rw [if_neg c2, if_pos ⟨⟨by omega, by omega⟩, c0, c1, c2⟩, pk_us]
      · rw [if_neg c0, if_neg (fun z => c0 z.2.1)]
    · have e1 : (if ol t < 0 then (if h1 t = 0 then ol else if h2 t = 0 then ol else upd ol t (nI lv)) else ol) j = ol j := by
        split
        · split
          · rfl
          · split
            · rfl
            · exact pk_un e
        · rfl
      rw [e1]
      by_cases c : ((t + 1) ≤ j ∧ j < t + 1 + k) ∧ ol j < 0 ∧ ¬ h1 j = 0 ∧ ¬ h2 j = 0
      · rw [if_pos c, if_pos ⟨⟨by omega, by omega⟩, c.2⟩]
      · rw [if_neg c, if_neg (fun z => c ⟨⟨by omega, by omega⟩, z.2⟩)]
theorem m_rm_ex (ol : Nat → Int32) (hs : Nat → Int32 → Int32) : ∀ (k t n : Nat), n < m_rm ol hs k t n → ∃ j, t ≤ j ∧ j < t + k ∧ ol j < 0 ∧ ¬ hs j 1 = 0 ∧ ¬ hs j 2 = 0 := by
  intro k
  induction k with
  | zero => intro t n h; exact absurd h (Nat.lt_irrefl _)
  | succ k ih =>
    intro t n h
    have key : ∀ n', n' < m_rm ol hs k (t + 1) n' → ∃ j, t ≤ j ∧ j < t + (k + 1) ∧ ol j < 0 ∧ ¬ hs j 1 = 0 ∧ ¬ hs j 2 = 0 := by
      intro n' h'
      obtain ⟨j, j1, j2, j3⟩ := ih (t + 1) n' h'
      exact ⟨j, by omega, by omega, j3⟩
    simp only [m_rm] at h
    by_cases c0 : ol t < 0
    · rw [if_pos c0] at h
      by_cases c1 : hs t 0 = 0
      · rw [if_pos c1] at h; omega
      · rw [if_neg c1] at h
        by_cases c2 : hs t 1 = 0
        · rw [if_pos c2] at h; exact key n h
        · rw [if_neg c2] at h
          by_cases c3 : hs t 2 = 0
          · rw [if_pos c3] at h; exact key n h
          · exact ⟨t, by omega, by omega, c0, c2, c3⟩
    · rw [if_neg c0] at h; exact key n h
/-- the pair that is kept has the count that is kept -/
def m_ok (R : Int32 → Int32 → Nat) (b : mB) : Prop := ¬ b.1 = 0 → R b.2.1 b.2.2 = b.1
theorem m_st_ok {R : Int32 → Int32 → Nat} (u v : Int32) {b : mB} (h : m_ok R b) : m_ok R (m_st (R u v) u v b) := by
  unfold m_st
  split
  · exact fun _ => rfl
  · split
    · exact h
    · split
      · split
        · exact h
        · exact fun _ => rfl
      · exact h
theorem m_bi_ok {R : Int32 → Int32 → Nat} (u : Int32) : ∀ (k j : Nat) (b : mB), m_ok R b → m_ok R (m_bi R u k j b) := by
  intro k
  induction k with
  | zero => intro j b h; exact h
  | succ k ih => intro j b h; exact ih (j + 1) _ (m_st_ok u (mu j) h)
theorem m_bo_ok {R : Int32 → Int32 → Nat} : ∀ (k i : Nat) (b : mB), m_ok R b → m_ok R (m_bo R k i b) := by
  intro k
  induction k with
  | zero => intro i b h; exact h
  | succ k ih => intro i b h; exact ih (i + 1) _ (m_bi_ok _ _ _ _ h)
def m_rel (b b' : mB) : Prop := b.1 = b'.1 ∧ (¬ b.1 = 0 → b = b')
theorem m_st_rel (R : Nat) (u v : Int32) {b b' : mB} (h : m_rel b b') : m_rel (m_st R u v b) (m_st R u v b') := by
  by_cases h0 : b.1 = 0
  · have h0' : b'.1 = 0 := h.1 ▸ h0
    unfold m_st
    rw [h0, h0']
    by_cases c : 0 < R
    · rw [if_pos c, if_pos c]; exact ⟨rfl, fun _ => rfl⟩
    · rw [if_neg c, if_neg c, if_pos (by omega), if_pos (by omega)]; exact h
  · rw [h.2 h0]; exact ⟨rfl, fun _ => rfl⟩
theorem m_bi_rel (R : Int32 → Int32 → Nat) (u : Int32) : ∀ (k j : Nat) (b b' : mB), m_rel b b' → m_rel (m_bi R u k j b) (m_bi R u k j b') := by
  intro k
  induction k with
  | zero => intro j b b' h; exact h
  | succ k ih => intro j b b' h; exact ih (j + 1) _ _ (m_st_rel _ _ _ h)
theorem m_bo_rel (R : Int32 → Int32 → Nat) : ∀ (k i : Nat) (b b' : mB), m_rel b b' → m_rel (m_bo R k i b) (m_bo R k i b') := by
  intro k
  induction k with
  | zero => intro i b b' h; exact h
  | succ k ih => intro i b b' h; exact ih (i + 1) _ _ (m_bi_rel _ _ _ _ _ _ h)
theorem m_B_rel (ol : Nat → Int32) (H : Nat → Int32 → Int32 → Int32 → Int32) (nc : Nat) (f s : Int32) : m_rel (m_B ol H nc f s) (m_B ol H nc 0 0) := m_bo_rel _ _ _ _ _ ⟨rfl, fun h => absurd rfl h⟩
theorem m_lvl_lt (ol : Nat → Int32) (H : Nat → Int32 → Int32 → Int32 → Int32) (nc lv : Nat) (hlv : lv < 2 ^ 31) (h : ¬ (m_B ol H nc 0 0).1 = 0) : m_lf (m_lvl ol H nc lv (m_B ol H nc 0 0)) nc 0 0 < m_lf ol nc 0 0 := by
  have hok := m_bo_ok (R := m_RR ol H nc) 9 0 (0, 0, 0) (fun z => absurd rfl z) h
  have hr : 0 < m_rm ol (fun t w => H t (m_B ol H nc 0 0).2.1 (m_B ol H nc 0 0).2.2 w) nc 0 0 := by
    have e : m_RR ol H nc (m_B ol H nc 0 0).2.1 (m_B ol H nc 0 0).2.2 = (m_B ol H nc 0 0).1 := hok
    unfold m_RR at e
    split at e
    · split at e
      · omega
      · omega
    · omega
  obtain ⟨j, j1, j2, j3, j4, j5⟩ := m_rm_ex _ _ _ _ _ hr
  unfold m_lvl
  rw [if_neg h]
  refine m_lf_lt nc 0 0 (fun i _ _ hi => ?_) ⟨j, j1, j2, j3, ?_⟩
  · rw [m_ol_at] at hi
    split at hi
    · exact absurd hi (nI_pos hlv)
    · exact hi
  · rw [m_ol_at, if_pos ⟨⟨j1, j2⟩, j3, j4, j5⟩]
    exact nI_pos hlv
/-- all levels, one behind the other -/
def m_ab (H : Nat → Int32 → Int32 → Int32 → Int32) (nc : Nat) : Nat → (Nat → Int32) → List (Int32 × Int32) → (Nat → Int32) × List (Int32 × Int32)
  | 0, ol, L => (ol, L)
  | k + 1, ol, L => if m_lf ol nc 0 0 = 0 then (ol, L) else if (m_B ol H nc 0 0).1 = 0 then (ol, L) else m_ab H nc k (m_lvl ol H nc L.length (m_B ol H nc 0 0)) (L ++ [((m_B ol H nc 0 0).2.1, (m_B ol H nc 0 0).2.2)])
def m_in : Nat → Nat → (Nat → Int32) → Nat → Int32
  | 0, _, f => f
  | k + 1, i, f => m_in k (i + 1) (upd f i (-1))
def m_has_L (L : List (Int32 × Int32)) (fi se : Nat → Int32) : Prop := ∀ j, j < L.length → fi j = (L.getD j (0, 0)).1 ∧ se j = (L.getD j (0, 0)).2
theorem m_has_L_app {L : List (Int32 × Int32)} {fi se fi2 se2 : Nat → Int32} {u v : Int32} (h : m_has_L L fi se) (hk : ∀ j, ¬ j = L.length → fi2 j = fi j ∧ se2 j = se j) (hu : fi2 L.length = u) (hv : se2 L.length = v) : m_has_L (L ++ [(u, v)]) fi2 se2 := by
  intro j hj
  rw [List.length_append, List.length_singleton] at hj
  by_cases e : j = L.length
  · subst e
    rw [List.getD_eq_getElem?_getD, List.getElem?_append_right (Nat.le_refl _), Nat.sub_self]
    exact ⟨hu, hv⟩
  · have hj' : j < L.length := by omega
    rw [List.getD_eq_getElem?_getD, List.getElem?_append_left hj', ← List.getD_eq_getElem?_getD]
    obtain ⟨a, b⟩ := h j hj'
    obtain ⟨c, d⟩ := hk j e
    exact ⟨c.trans a, d.trans b⟩
theorem m_has_L_keep {L : List (Int32 × Int32)} {fi se fi2 se2 : Nat → Int32} (h : m_has_L L fi se) (hk : ∀ j, ¬ j = L.length → fi2 j = fi j ∧ se2 j = se j) : m_has_L L fi2 se2 := by
  intro j hj
  obtain ⟨a, b⟩ := h j hj
  obtain ⟨c, d⟩ := hk j (by omega)
  exact ⟨c.trans a, d.trans b⟩
