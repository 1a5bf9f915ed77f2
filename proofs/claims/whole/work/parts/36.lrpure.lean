/-! The class's levels depend on the transitions that there are, and on nothing else -/
theorem c_lf_cg {lo lo' : Nat → Int32} {T : Nat} (h : ∀ t, t < T → lo t = lo' t) : ∀ (k t n : Nat), t + k ≤ T → c_lf lo k t n = c_lf lo' k t n := by
  intro k
  induction k with
  | zero => intro t n _; rfl
  | succ k ih =>
    intro t n ht
    show c_lf lo k (t + 1) (if lo t = -1 then n + 1 else n) = c_lf lo' k (t + 1) (if lo' t = -1 then n + 1 else n)
    rw [h t (by omega), ih _ _ (by omega)]
theorem c_cr_cg {lo lo' K : Nat → Int32} {T : Nat} (h : ∀ t, t < T → lo t = lo' t) : ∀ (k t n : Nat), t + k ≤ T → c_cr lo K k t n = c_cr lo' K k t n := by
  intro k
  induction k with
  | zero => intro t n _; rfl
  | succ k ih =>
    intro t n ht
    simp only [c_cr]
    rw [h t (by omega), ih _ _ (by omega), ih _ _ (by omega)]
theorem c_best_cg {Dd : Nat → bDt} {us vs lo lo' : Nat → Int32} {sc : Nat} (h : ∀ t, t < sc → lo t = lo' t) : c_best Dd us vs lo sc = c_best Dd us vs lo' sc := by
  unfold c_best
  have e : (fun f => c_cr lo (fun t => dKind (Dd t) (us f) (vs f)) sc 0 0) = (fun f => c_cr lo' (fun t => dKind (Dd t) (us f) (vs f)) sc 0 0) := by
    funext f
    exact c_cr_cg h sc 0 0 (by omega)
  rw [e]
theorem c_as_cg {K : Nat → Int32} {Dd : Nat → bDt} {u v : Int32} {lc T t : Nat} (lo lo' : Nat → Int32) (n : Nat) (w : Int64) (ht : t < T) (h : ∀ t, t < T → lo t = lo' t) : ∃ (l2 l2' : Nat → Int32) (n2 : Nat) (w2 : Int64), c_as K Dd u v lc t (lo, n, w) = (l2, n2, w2) ∧ c_as K Dd u v lc t (lo', n, w) = (l2', n2, w2) ∧ ∀ t, t < T → l2 t = l2' t := by
  have e1 := h t ht
  by_cases c1 : lo t = -1
  · have c1' : lo' t = -1 := e1.symm.trans c1
    by_cases c2 : K t = 2
    · refine ⟨upd lo t (nI lc), upd lo' t (nI lc), n - 1, if (Dd t).2.1.2 = 0 then (if c_fl (Dd t) u v < w then c_fl (Dd t) u v else w) else w, ?_, ?_, fun t' ht' => ?_⟩
      · show (if lo t = -1 then _ else _) = _
        rw [if_pos c1, if_pos c2]
      · show (if lo' t = -1 then _ else _) = _
        rw [if_pos c1', if_pos c2]
      · by_cases e : t' = t
        · subst e; rw [pk_us, pk_us]
        · rw [pk_un e, pk_un e]; exact h t' ht'
    · refine ⟨lo, lo', n, w, ?_, ?_, h⟩
      · show (if lo t = -1 then _ else _) = _
        rw [if_pos c1, if_neg c2]
      · show (if lo' t = -1 then _ else _) = _
        rw [if_pos c1', if_neg c2]
  · have c1' : ¬ lo' t = -1 := fun z => c1 (e1.trans z)
    refine ⟨lo, lo', n, w, ?_, ?_, h⟩
    · show (if lo t = -1 then _ else _) = _
      rw [if_neg c1]
    · show (if lo' t = -1 then _ else _) = _
      rw [if_neg c1']
theorem c_al_cg {K : Nat → Int32} {Dd : Nat → bDt} {u v : Int32} {lc T : Nat} : ∀ (k t : Nat) (lo lo' : Nat → Int32) (n : Nat) (w : Int64), t + k ≤ T → (∀ t, t < T → lo t = lo' t) → (c_al K Dd u v lc k t (lo, n, w)).2 = (c_al K Dd u v lc k t (lo', n, w)).2 ∧ ∀ t', t' < T → (c_al K Dd u v lc k t (lo, n, w)).1 t' = (c_al K Dd u v lc k t (lo', n, w)).1 t' := by
  intro k
  induction k with
  | zero => intro t lo lo' n w _ h; exact ⟨rfl, h⟩
  | succ k ih =>
    intro t lo lo' n w ht h
    obtain ⟨l2, l2', n2, w2, a1, a2, a3⟩ := c_as_cg (K := K) (Dd := Dd) (u := u) (v := v) (lc := lc) lo lo' n w (show t < T by omega) h
    show (c_al K Dd u v lc k (t + 1) (c_as K Dd u v lc t (lo, n, w))).2 = (c_al K Dd u v lc k (t + 1) (c_as K Dd u v lc t (lo', n, w))).2 ∧ ∀ t', t' < T → (c_al K Dd u v lc k (t + 1) (c_as K Dd u v lc t (lo, n, w))).1 t' = (c_al K Dd u v lc k (t + 1) (c_as K Dd u v lc t (lo', n, w))).1 t'
    rw [a1, a2]
    exact ih (t + 1) l2 l2' n2 w2 (by omega) a3
theorem c_ab_cg {Dd : Nat → bDt} {us vs : Nat → Int32} {sc : Nat} : ∀ (k : Nat) (lo lo' : Nat → Int32) (L : cL), (∀ t, t < sc → lo t = lo' t) → (c_ab Dd us vs sc k lo L).2 = (c_ab Dd us vs sc k lo' L).2 ∧ ∀ t, t < sc → (c_ab Dd us vs sc k lo L).1 t = (c_ab Dd us vs sc k lo' L).1 t := by
  intro k
  induction k with
  | zero => intro lo lo' L h; exact ⟨rfl, h⟩
  | succ k ih =>
    intro lo lo' L h
    have e0 := c_lf_cg h sc 0 0 (by omega)
    have e1 := c_best_cg (Dd := Dd) (us := us) (vs := vs) h
    unfold c_ab
    rw [← e0, ← e1]
    by_cases c1 : c_lf lo sc 0 0 = 0
    · rw [if_pos c1, if_pos c1]; exact ⟨rfl, h⟩
    · rw [if_neg c1, if_neg c1]
      by_cases c2 : c_best Dd us vs lo sc = -1
      · rw [if_pos c2, if_pos c2]; exact ⟨rfl, h⟩
      · rw [if_neg c2, if_neg c2]
        have r := c_al_cg (K := fun t => dKind (Dd t) (us (c_best Dd us vs lo sc).toNatClampNeg) (vs (c_best Dd us vs lo sc).toNatClampNeg)) (Dd := Dd) (u := us (c_best Dd us vs lo sc).toNatClampNeg) (v := vs (c_best Dd us vs lo sc).toNatClampNeg) (lc := L.length) (T := sc) sc 0 lo lo' (c_lf lo sc 0 0) 4611686018427387904 (by omega) h
        have e2 : (c_step Dd us vs lo sc L.length (c_best Dd us vs lo sc).toNatClampNeg).2 = (c_step Dd us vs lo' sc L.length (c_best Dd us vs lo sc).toNatClampNeg).2 := by
          unfold c_step
          rw [← e0]
          exact r.1
        have e3 : ∀ t, t < sc → (c_step Dd us vs lo sc L.length (c_best Dd us vs lo sc).toNatClampNeg).1 t = (c_step Dd us vs lo' sc L.length (c_best Dd us vs lo sc).toNatClampNeg).1 t := by
          unfold c_step
          rw [← e0]
          exact r.2
        rw [← e2]
        exact ih _ _ _ e3
def c_fin (ds : List bDt) (us vs : Nat → Int32) (sc : Nat) : (Nat → Int32) × cL := c_ab (dAt ds) us vs sc 6 (fun _ => -1) []
theorem c_PR_fin {ds : List bDt} {us vs : Nat → Int32} {sc : Nat} {lo : Nat → Int32} {lc ln : Nat} {lu lw : Nat → Int32} {lf : Nat → Int64} (h : c_PR ds us vs sc lo lc ln lu lw lf) : lc = (c_fin ds us vs sc).2.length ∧ ln = c_lf (c_fin ds us vs sc).1 sc 0 0 ∧ (∀ t, t < sc → lo t = (c_fin ds us vs sc).1 t) ∧ c_has (c_fin ds us vs sc).2 lu lw lf := by
  obtain ⟨lo1, L, h1, h2, h3, h4, h5⟩ := h
  have r := c_ab_cg (Dd := dAt ds) (us := us) (vs := vs) (sc := sc) 6 lo1 (fun _ => -1) [] (fun t ht => h1 t ht)
  rw [← h2] at r
  have e1 : L = (c_fin ds us vs sc).2 := r.1
  have e2 : ∀ t, t < sc → lo t = (c_fin ds us vs sc).1 t := r.2
  subst h3 h4
  rw [← e1]
  exact ⟨rfl, c_lf_cg e2 sc 0 0 (by omega), e2, h5⟩
theorem c_fin_len (ds : List bDt) (us vs : Nat → Int32) (sc : Nat) : (c_fin ds us vs sc).2.length ≤ 6 := by
  have := c_ab_len (dAt ds) us vs sc 6 (fun _ => -1) []
  exact this
def r_nx (d : bDt) (x y : Int64) : Int64 := s_next d.2.2 0 x y
def r_ny (d : bDt) (x y : Int64) : Int64 := s_next d.2.2 1 x y
def r_fr (d : bDt) (x y : Int64) : Int32 := if g_al d.1.1 d.1.2.1 d.1.2.2 x y d.2.1.1 0 = 0 then 0 else if r_w (r_nx d x y) 1000000000000 = 0 then 0 else if r_w (r_ny d x y) 1000000000000 = 0 then 0 else 1
def r_bud (L : cL) (left : Nat) (x y : Int64) : Int64 := if left = 0 then (if L.length = 1 then (if 0 < (L.getD 0 (0, 0, 0)).1.toInt64 * x + (L.getD 0 (0, 0, 0)).2.1.toInt64 * y - (L.getD 0 (0, 0, 0)).2.2 + 1 then (L.getD 0 (0, 0, 0)).1.toInt64 * x + (L.getD 0 (0, 0, 0)).2.1.toInt64 * y - (L.getD 0 (0, 0, 0)).2.2 + 1 else 0) else -1) else -1
theorem r_max (z : Int64) : (if z < 0 then 0 else z) = (if 0 < z then z else 0) := by
  by_cases h : z < 0
  · rw [if_pos h, if_neg (fun q => by
      have h1 := Int64.lt_iff_toInt_lt.mp h
      have h2 := Int64.lt_iff_toInt_lt.mp q
      omega)]
  · rw [if_neg h]
    by_cases h2 : 0 < z
    · rw [if_pos h2]
    · rw [if_neg h2]
      apply Int64.toInt_inj.mp
      have h1 : ¬ z.toInt < (0 : Int64).toInt := fun q => h (Int64.lt_iff_toInt_lt.mpr q)
      have h3 : ¬ (0 : Int64).toInt < z.toInt := fun q => h2 (Int64.lt_iff_toInt_lt.mpr q)
      omega
