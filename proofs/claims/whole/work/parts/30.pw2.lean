theorem bF_set {bs : List bT} {k : Nat} {b b' : bT} (h : bs[k]? = some b) (e : b'.1 0 = b.1 0) : bF (bs.set k b') = bF bs := by
  funext j
  unfold bF
  rw [List.getElem?_set]
  by_cases c : k = j
  · subst c
    have hk := (List.getElem?_eq_some_iff.mp h).1
    rw [if_pos rfl, if_pos hk, h]
    show some (b'.1 0) = some (b.1 0)
    rw [e]
  · rw [if_neg c]
abbrev bDKt : Type := (Nat → Nat) × ((Nat → Int32) × (Nat → Int32) × (Nat → Int32)) × (Nat × Int32) × ((Nat → Int32) × (Nat → Int32) × Int32)
def bDK (b : bT) : bDKt := (b.1, b.2.1, b.2.2.1, b.2.2.2.2)
theorem map_set {α : Type} {g : bT → α} {bs : List bT} {k : Nat} {b b' : bT} (h : bs[k]? = some b) (e : g b' = g b) : (bs.set k b').map g = bs.map g := by
  refine List.ext_getElem? (fun j => ?_)
  rw [List.getElem?_map, List.getElem?_map, List.getElem?_set]
  by_cases c : k = j
  · subst c
    have hk := (List.getElem?_eq_some_iff.mp h).1
    rw [if_pos rfl, if_pos hk, h]
    show some (g b') = some (g b)
    rw [e]
  · rw [if_neg c]
theorem map_at {α : Type} {g : bT → α} {bs bs' : List bT} (h : bs'.map g = bs.map g) {k : Nat} {b' : bT} (hb' : bs'[k]? = some b') : ∃ b, bs[k]? = some b ∧ g b' = g b := by
  have e := congrArg (fun z => z[k]?) h
  simp only [List.getElem?_map, hb', Option.map_some] at e
  cases hb : bs[k]? with
  | none => rw [hb] at e; cases e
  | some b => rw [hb] at e; exact ⟨b, rfl, Option.some.inj e⟩
def dDef : bDt := ((fun _ => 0, fun _ => 0, fun _ => 0), (0, 0), fun _ => 0)
def dAt (ds : List bDt) (t : Nat) : bDt := ds.getD t dDef
theorem dAt_of {bs : List bT} {ds : List bDt} (h : bs.map bD = ds) {t : Nat} {b : bT} (hb : bs[t]? = some b) : dAt ds t = bD b := by
  subst h
  unfold dAt
  rw [List.getD_eq_getElem?_getD, List.getElem?_map, hb]
  rfl
def c_fl (d : bDt) (u v : Int32) : Int64 := -(g_rnd (g_max d.1.1 d.1.2.1 d.1.2.2 d.2.1.1 (-u) (-v)).1 (g_max d.1.1 d.1.2.1 d.1.2.2 d.2.1.1 (-u) (-v)).2)
abbrev cZ : Type := (Nat → Int32) × Nat × Int64
def c_as (K : Nat → Int32) (Dd : Nat → bDt) (u v : Int32) (lc t : Nat) (z : cZ) : cZ := if z.1 t = -1 then (if K t = 2 then (upd z.1 t (nI lc), z.2.1 - 1, if (Dd t).2.1.2 = 0 then (if c_fl (Dd t) u v < z.2.2 then c_fl (Dd t) u v else z.2.2) else z.2.2) else z) else z
def c_al (K : Nat → Int32) (Dd : Nat → bDt) (u v : Int32) (lc : Nat) : Nat → Nat → cZ → cZ
  | 0, _, z => z
  | k + 1, t, z => c_al K Dd u v lc k (t + 1) (c_as K Dd u v lc t z)
theorem c_lf_add (lo : Nat → Int32) (d : Nat) : ∀ (k t n : Nat), c_lf lo k t (n + d) = c_lf lo k t n + d := by
  intro k
  induction k with
  | zero => intro t n; rfl
  | succ k ih =>
    intro t n
    show c_lf lo k (t + 1) (if lo t = -1 then n + d + 1 else n + d) = c_lf lo k (t + 1) (if lo t = -1 then n + 1 else n) + d
    by_cases h : lo t = -1
    · rw [if_pos h, if_pos h, ← ih, show n + d + 1 = n + 1 + d by omega]
    · rw [if_neg h, if_neg h, ih]
theorem c_lf_le (lo : Nat → Int32) : ∀ (k t n : Nat), c_lf lo k t n ≤ n + k := by
  intro k
  induction k with
  | zero => intro t n; exact Nat.le_refl _
  | succ k ih =>
    intro t n
    have := ih (t + 1) (if lo t = -1 then n + 1 else n)
    show c_lf lo k (t + 1) (if lo t = -1 then n + 1 else n) ≤ n + (k + 1)
    split at this
    · next h => rw [if_pos h]; omega
    · next h => rw [if_neg h]; omega
theorem c_lf_upd (lo : Nat → Int32) (j : Nat) (x : Int32) : ∀ (k t n : Nat), j < t → c_lf (upd lo j x) k t n = c_lf lo k t n := by
  intro k
  induction k with
  | zero => intro t n _; rfl
  | succ k ih =>
    intro t n h
    show c_lf (upd lo j x) k (t + 1) (if upd lo j x t = -1 then n + 1 else n) = c_lf lo k (t + 1) (if lo t = -1 then n + 1 else n)
    rw [pk_un (by omega), ih _ _ (by omega)]
theorem c_lf_s (lo : Nat → Int32) (k t : Nat) : c_lf lo (k + 1) t 0 = c_lf lo k (t + 1) 0 + (if lo t = -1 then 1 else 0) := by
  show c_lf lo k (t + 1) (if lo t = -1 then 0 + 1 else 0) = _
  split
  · exact c_lf_add lo 1 k (t + 1) 0
  · rfl
theorem c_lf_dec (lo : Nat → Int32) (j : Nat) (x : Int32) (hx : ¬ x = -1) : ∀ (k t : Nat), t ≤ j → j < t + k → lo j = -1 → c_lf (upd lo j x) k t 0 + 1 = c_lf lo k t 0 := by
  intro k
  induction k with
  | zero => intro t h1 h2; omega
  | succ k ih =>
    intro t h1 h2 h3
    rw [c_lf_s, c_lf_s]
    by_cases e : j = t
    · subst e
      rw [c_lf_upd _ _ _ _ _ _ (by omega), pk_us, if_neg hx, if_pos h3]
    · rw [pk_un (show t ≠ j by omega)]
      have := ih (t + 1) (by omega) (by omega) h3
      omega
theorem c_al_lf (K : Nat → Int32) (Dd : Nat → bDt) (u v : Int32) (lc sc : Nat) (hlc : lc < 2 ^ 31) : ∀ (k t : Nat) (z : cZ), t + k = sc → z.2.1 = c_lf z.1 sc 0 0 → (c_al K Dd u v lc k t z).2.1 = c_lf (c_al K Dd u v lc k t z).1 sc 0 0 := by
  intro k
  induction k with
  | zero => intro t z _ h; exact h
  | succ k ih =>
    intro t z ht h
    refine ih (t + 1) _ (by omega) ?_
    unfold c_as
    split
    · next h1 =>
      split
      · show z.2.1 - 1 = c_lf (upd z.1 t (nI lc)) sc 0 0
        have := c_lf_dec z.1 t (nI lc) (fun e => by have := nI_pos hlc; rw [e] at this; exact this (by decide)) sc 0 (by omega) (by omega) h1
        omega
      · exact h
    · exact h
def c_in (lo : Nat → Int32) (i : Nat) : Nat → Int32 := fun t => if t < i then -1 else lo t
theorem c_in_s (lo : Nat → Int32) (i : Nat) : upd (c_in lo i) i (-1) = c_in lo (i + 1) := by
  funext t
  unfold c_in
  by_cases h : t = i
  · subst h; rw [pk_us, if_pos (by omega)]
  · rw [pk_un h]
    by_cases h2 : t < i
    · rw [if_pos h2, if_pos (by omega)]
    · rw [if_neg h2, if_neg (by omega)]
theorem c_in_0 (lo : Nat → Int32) : lo = c_in lo 0 := by
  funext t
  unfold c_in
  rw [if_neg (by omega)]
abbrev cL : Type := List (Int32 × Int32 × Int64)
def c_has (L : cL) (lu lw : Nat → Int32) (lf : Nat → Int64) : Prop := ∀ j, j < L.length → lu j = (L.getD j (0, 0, 0)).1 ∧ lw j = (L.getD j (0, 0, 0)).2.1 ∧ lf j = (L.getD j (0, 0, 0)).2.2
theorem c_has_app {L : cL} {lu lw : Nat → Int32} {lf : Nat → Int64} (h : c_has L lu lw lf) {j0 : Nat} (hj : j0 = L.length) (u v : Int32) (w : Int64) : c_has (L ++ [(u, v, w)]) (upd lu j0 u) (upd lw j0 v) (vp_updL lf j0 w) := by
  subst hj
  intro j hj
  rw [List.length_append, List.length_singleton] at hj
  by_cases e : j = L.length
  · subst e
    rw [List.getD_eq_getElem?_getD, List.getElem?_append_right (Nat.le_refl _), Nat.sub_self, pk_us, pk_us, pk_uLs]
    exact ⟨rfl, rfl, rfl⟩
  · have hj' : j < L.length := by omega
    rw [List.getD_eq_getElem?_getD, List.getElem?_append_left hj', ← List.getD_eq_getElem?_getD, pk_un e, pk_un e, pk_uLn e]
    exact h j hj'
def c_best (Dd : Nat → bDt) (us vs lo : Nat → Int32) (sc : Nat) : Int32 := (c_bf (fun f => c_cr lo (fun t => dKind (Dd t) (us f) (vs f)) sc 0 0) 80 0 (-1, 0)).1
theorem c_bf_or (C : Nat → Nat) : ∀ (k f : Nat) (z : Int32 × Nat), f + k ≤ 80 → (z.1 = -1 ∨ ∃ i, i < 80 ∧ z.1 = nI i) → ((c_bf C k f z).1 = -1 ∨ ∃ i, i < 80 ∧ (c_bf C k f z).1 = nI i) := by
  intro k
  induction k with
  | zero => intro f z _ h; exact h
  | succ k ih =>
    intro f z hf h
    refine ih (f + 1) _ (by omega) ?_
    split
    · exact Or.inr ⟨f, by omega, rfl⟩
    · exact h
def c_step (Dd : Nat → bDt) (us vs lo : Nat → Int32) (sc lc f : Nat) : cZ := c_al (fun t => dKind (Dd t) (us f) (vs f)) Dd (us f) (vs f) lc sc 0 (lo, c_lf lo sc 0 0, 4611686018427387904)
def c_flo (w : Int64) : Int64 := if w = 4611686018427387904 then 0 else w
def c_ab (Dd : Nat → bDt) (us vs : Nat → Int32) (sc : Nat) : Nat → (Nat → Int32) → cL → (Nat → Int32) × cL
  | 0, lo, L => (lo, L)
  | k + 1, lo, L => if c_lf lo sc 0 0 = 0 then (lo, L) else if c_best Dd us vs lo sc = -1 then (lo, L) else
    c_ab Dd us vs sc k (c_step Dd us vs lo sc L.length (c_best Dd us vs lo sc).toNatClampNeg).1 (L ++ [(us (c_best Dd us vs lo sc).toNatClampNeg, vs (c_best Dd us vs lo sc).toNatClampNeg, c_flo (c_step Dd us vs lo sc L.length (c_best Dd us vs lo sc).toNatClampNeg).2.2)])
theorem c_ab_len (Dd : Nat → bDt) (us vs : Nat → Int32) (sc : Nat) : ∀ (k : Nat) (lo : Nat → Int32) (L : cL), (c_ab Dd us vs sc k lo L).2.length ≤ L.length + k := by
  intro k
  induction k with
  | zero => intro lo L; exact Nat.le_refl _
  | succ k ih =>
    intro lo L
    unfold c_ab
    split
    · show L.length ≤ _; omega
    · split
      · show L.length ≤ _; omega
      · have := ih (c_step Dd us vs lo sc L.length (c_best Dd us vs lo sc).toNatClampNeg).1 (L ++ [(us (c_best Dd us vs lo sc).toNatClampNeg, vs (c_best Dd us vs lo sc).toNatClampNeg, c_flo (c_step Dd us vs lo sc L.length (c_best Dd us vs lo sc).toNatClampNeg).2.2)])
        rw [List.length_append, List.length_singleton] at this
        omega
/-- what is kept of the levels is right -/
def c_PR (ds : List bDt) (us vs : Nat → Int32) (sc : Nat) (lo : Nat → Int32) (lc ln : Nat) (lu lw : Nat → Int32) (lf : Nat → Int64) : Prop := ∃ (lo1 : Nat → Int32) (L : cL), (∀ t, t < sc → lo1 t = -1) ∧ (lo, L) = c_ab (dAt ds) us vs sc 6 lo1 [] ∧ lc = L.length ∧ ln = c_lf lo sc 0 0 ∧ c_has L lu lw lf
