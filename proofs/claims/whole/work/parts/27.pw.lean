abbrev pW (cI cJ cS : ClassId) (sa po u1 u2 l1 l2 l3 l4 : Nat) (us vs lu lw : Nat → Int32) (lf : Nat → Int64) (lo : Nat → Int32) (lc ln : Nat) (fs : Int32) (bs : List bT) : va_W :=
  [(sa, .inl (cS, 6, .inr (.inr (.inr (.inr (bF bs)))))), (po, .inr (2, [.ref u1, .ref u2, .ref l1, .ref l2, .ref l3, .ref l4, .int (nI lc), .int (nI ln), .int fs])), (u1, .inl (cI, 80, .inl us)), (u2, .inl (cI, 80, .inl vs)), (l1, .inl (cI, 6, .inl lu)), (l2, .inl (cI, 6, .inl lw)), (l3, .inl (cJ, 6, .inr (.inl lf))), (l4, .inl (cI, 6, .inl lo))] ++ fW cI bs
theorem bs_set_at {bs : List bT} {k : Nat} {b b' : bT} (h : bs[k]? = some b) : (bs.set k b')[k]? = some b' := by
  have hk := (List.getElem?_eq_some_iff.mp h).1
  rw [List.getElem?_set, if_pos rfl, if_pos hk]
theorem bs_set_same {bs : List bT} {k : Nat} {b : bT} (h : bs[k]? = some b) : bs.set k b = bs := by
  obtain ⟨hk, rfl⟩ := List.getElem?_eq_some_iff.mp h
  exact List.set_getElem_self hk
/-! the class's levels -/
def c_cr (lo K : Nat → Int32) : Nat → Nat → Nat → Nat
  | 0, _, n => n
  | k + 1, t, n => if lo t = -1 then (if K t = 0 then 0 else c_cr lo K k (t + 1) (if K t = 2 then n + 1 else n)) else c_cr lo K k (t + 1) n
theorem c_cr_le (lo K : Nat → Int32) : ∀ (k t n : Nat), c_cr lo K k t n ≤ n + k := by
  intro k
  induction k with
  | zero => intro t n; exact Nat.le_refl _
  | succ k ih =>
    intro t n
    unfold c_cr
    split
    · split
      · omega
      · have := ih (t + 1) (if K t = 2 then n + 1 else n)
        split at this
        · next h => rw [if_pos h]; omega
        · next h => rw [if_neg h]; omega
    · have := ih (t + 1) n; omega
def c_bf (C : Nat → Nat) : Nat → Nat → Int32 × Nat → Int32 × Nat
  | 0, _, z => z
  | k + 1, f, z => c_bf C k (f + 1) (if z.2 < C f then (nI f, C f) else z)
def c_lf (lo : Nat → Int32) : Nat → Nat → Nat → Nat
  | 0, _, n => n
  | k + 1, t, n => c_lf lo k (t + 1) (if lo t = -1 then n + 1 else n)
