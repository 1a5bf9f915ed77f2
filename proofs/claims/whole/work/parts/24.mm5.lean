theorem m_ab_len (H : Nat → Int32 → Int32 → Int32 → Int32) (nc : Nat) : ∀ (k : Nat) (ol : Nat → Int32) (L : List (Int32 × Int32)), L.length + m_lf ol nc 0 0 ≤ 6 → (m_ab H nc k ol L).2.length ≤ 6 := by
  intro k
  induction k with
  | zero => intro ol L h; show L.length ≤ 6; omega
  | succ k ih =>
    intro ol L h
    simp only [m_ab]
    split
    · show L.length ≤ 6; omega
    · split
      · show L.length ≤ 6; omega
      · next hB =>
        refine ih _ _ ?_
        have := m_lvl_lt ol H nc L.length (by omega) hB
        rw [List.length_append, List.length_singleton]
        omega
theorem m_fin_len (H : Nat → Int32 → Int32 → Int32 → Int32) (nc k : Nat) (ol : Nat → Int32) (hc : nc ≤ 6) : (m_ab H nc k ol []).2.length ≤ 6 := m_ab_len H nc k ol [] (by have := m_lf_le ol nc 0 0; show 0 + _ ≤ 6; omega)
def m_bud (L : List (Int32 × Int32)) (left : Nat) (fl x y : Int64) : Int64 := if L.length = 1 then (if left = 0 then (if (L.getD 0 (0, 0)).1.toInt64 * x + (L.getD 0 (0, 0)).2.toInt64 * y - fl + 1 < 0 then 0 else (L.getD 0 (0, 0)).1.toInt64 * x + (L.getD 0 (0, 0)).2.toInt64 * y - fl + 1) else -1) else -1
