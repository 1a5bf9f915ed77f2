/-! The list of the functions is the one that the document names -/
abbrev kL : Type := List (Int32 × Int32)
def k_s (sum u v : Int32) (L : kL) : kL := if g_abs u + g_abs v = sum then (if L.length < 80 then L ++ [(u, v)] else L) else L
def k_i (sum u : Int32) : Nat → Nat → kL → kL
  | 0, _, z => z
  | k + 1, j, z => k_i sum u k (j + 1) (k_s sum u (md j) z)
def k_u (sum : Int32) : Nat → Nat → kL → kL
  | 0, _, z => z
  | k + 1, i, z => k_u sum k (i + 1) (k_i sum (md i) 9 0 z)
def k_o : Nat → Nat → kL → kL
  | 0, _, z => z
  | k + 1, n, z => k_o k (n + 1) (k_u (nI n) 9 0 z)
def lR (z : lZ) (L : kL) : Prop := z.1 = L.length ∧ ∀ j, j < L.length → z.2.1 j = (L.getD j (0, 0)).1 ∧ z.2.2 j = (L.getD j (0, 0)).2
theorem lR_s (sum u v : Int32) {z : lZ} {L : kL} (h : lR z L) : lR (l_s sum u v z) (k_s sum u v L) := by
  obtain ⟨h1, h2⟩ := h
  unfold l_s k_s
  rw [h1]
  by_cases c1 : g_abs u + g_abs v = sum
  · rw [if_pos c1, if_pos c1]
    by_cases c2 : L.length < 80
    · rw [if_pos c2, if_pos c2]
      refine ⟨by rw [List.length_append, List.length_singleton], fun j hj => ?_⟩
      rcases getD_app L (u, v) (0, 0) hj with ⟨z1, z2⟩ | ⟨z1, z2⟩
      · rw [z2]
        show upd z.2.1 L.length u j = _ ∧ upd z.2.2 L.length v j = _
        rw [pk_un (by omega), pk_un (by omega)]
        exact h2 j z1
      · rw [z2, z1]
        exact ⟨pk_us, pk_us⟩
    · rw [if_neg c2, if_neg c2]; exact ⟨h1, h2⟩
  · rw [if_neg c1, if_neg c1]; exact ⟨h1, h2⟩
theorem lR_i (sum u : Int32) : ∀ (k j : Nat) (z : lZ) (L : kL), lR z L → lR (l_i sum u k j z) (k_i sum u k j L) := by
  intro k
  induction k with
  | zero => intro j z L h; exact h
  | succ k ih => intro j z L h; exact ih (j + 1) _ _ (lR_s sum u (md j) h)
theorem lR_u (sum : Int32) : ∀ (k i : Nat) (z : lZ) (L : kL), lR z L → lR (l_u sum k i z) (k_u sum k i L) := by
  intro k
  induction k with
  | zero => intro i z L h; exact h
  | succ k ih => intro i z L h; exact ih (i + 1) _ _ (lR_i sum (md i) 9 0 z L h)
theorem lR_o : ∀ (k n : Nat) (z : lZ) (L : kL), lR z L → lR (l_o k n z) (k_o k n L) := by
  intro k
  induction k with
  | zero => intro n z L h; exact h
  | succ k ih => intro n z L h; exact ih (n + 1) _ _ (lR_u (nI n) 9 0 z L h)
def uvL : kL := [(1, 0), (0, 1), (0, -1), (-1, 0), (2, 0), (1, 1), (1, -1), (0, 2), (0, -2), (-1, 1), (-1, -1), (-2, 0), (3, 0), (2, 1), (2, -1), (1, 2), (1, -2), (0, 3), (0, -3), (-1, 2), (-1, -2), (-2, 1), (-2, -1), (-3, 0), (4, 0), (3, 1), (3, -1), (2, 2), (2, -2), (1, 3), (1, -3), (0, 4), (0, -4), (-1, 3), (-1, -3), (-2, 2), (-2, -2), (-3, 1), (-3, -1), (-4, 0), (4, 1), (4, -1), (3, 2), (3, -2), (2, 3), (2, -3), (1, 4), (1, -4), (-1, 4), (-1, -4), (-2, 3), (-2, -3), (-3, 2), (-3, -2), (-4, 1), (-4, -1), (4, 2), (4, -2), (3, 3), (3, -3), (2, 4), (2, -4), (-2, 4), (-2, -4), (-3, 3), (-3, -3), (-4, 2), (-4, -2), (4, 3), (4, -3), (3, 4), (3, -4), (-3, 4), (-3, -4), (-4, 3), (-4, -3), (4, 4), (4, -4), (-4, 4), (-4, -4)]
set_option maxRecDepth 100000 in
theorem uvL_eq : k_o 8 1 [] = uvL := by decide +kernel
theorem uS_at {f : Nat} (hf : f < 80) : uS f = (uvL.getD f (0, 0)).1 ∧ vS f = (uvL.getD f (0, 0)).2 := by
  have h := lR_o 8 1 (0, fun _ => 0, fun _ => 0) [] ⟨rfl, fun j hj => absurd hj (Nat.not_lt_zero _)⟩
  rw [uvL_eq] at h
  exact h.2 f hf
set_option maxRecDepth 100000 in
theorem uv_1 : ∀ f, f < 80 → (∃ i, i < 9 ∧ ∃ j, j < 9 ∧ (uvL.getD f (0, 0)).1 = mu i ∧ (uvL.getD f (0, 0)).2 = mu j) ∧ ¬ ((uvL.getD f (0, 0)).1 = 0 ∧ (uvL.getD f (0, 0)).2 = 0) := by decide +kernel
set_option maxRecDepth 100000 in
theorem uv_2 : ∀ i, i < 9 → ∀ j, j < 9 → ¬ (mu i = 0 ∧ mu j = 0) → ∃ f, f < 80 ∧ (uvL.getD f (0, 0)).1 = mu i ∧ (uvL.getD f (0, 0)).2 = mu j := by decide +kernel
set_option maxRecDepth 100000 in
theorem uv_3 : ∀ f, f < 80 → ∀ g, g < 80 → (m_bf (uvL.getD f (0, 0)).1 (uvL.getD f (0, 0)).2 (uvL.getD g (0, 0)).1 (uvL.getD g (0, 0)).2 = 0 ↔ g ≤ f) := by decide +kernel
theorem uvS : uvOK uS vS := by
  refine ⟨fun f hf => ?_, fun i j hi hj hne => ?_, fun f g hf hg => ?_⟩
  · rw [(uS_at hf).1, (uS_at hf).2]
    obtain ⟨⟨i, hi, j, hj, h1, h2⟩, h3⟩ := uv_1 f hf
    exact ⟨⟨i, j, hi, hj, h1, h2⟩, h3⟩
  · obtain ⟨f, hf, h1, h2⟩ := uv_2 i hi j hj hne
    exact ⟨f, hf, by rw [(uS_at hf).1]; exact h1, by rw [(uS_at hf).2]; exact h2⟩
  · rw [(uS_at hf).1, (uS_at hf).2, (uS_at hg).1, (uS_at hg).2]
    exact uv_3 f hf g hg
