abbrev rW (cI cJ cS : ClassId) (lr sa po u1 u2 l1 l2 l3 l4 : Nat) (us vs lu lw : Nat → Int32) (lf : Nat → Int64) (lo : Nat → Int32) (lc ln : Nat) (fs : Int32) (bs : List bT) (sc : Nat) (x y : Int64) (fd : Int32) : va_W :=
  [(lr, .inr (3, [.ref sa, .ref po, .int (nI sc), .long x, .long y, .int fd])), (sa, .inl (cS, 6, .inr (.inr (.inr (.inr (bF bs)))))), (po, .inr (2, [.ref u1, .ref u2, .ref l1, .ref l2, .ref l3, .ref l4, .int (nI lc), .int (nI ln), .int fs])), (u1, .inl (cI, 80, .inl us)), (u2, .inl (cI, 80, .inl vs)), (l1, .inl (cI, 6, .inl lu)), (l2, .inl (cI, 6, .inl lw)), (l3, .inl (cJ, 6, .inr (.inl lf))), (l4, .inl (cI, 6, .inl lo))] ++ fW cI bs
/-- what holds of the object between two calls -/
def rI (us vs : Nat → Int32) (ds : List bDt) (sc : Nat) (lu lw : Nat → Int32) (lf : Nat → Int64) (lo : Nat → Int32) (lc ln : Nat) (fs : Int32) (bs : List bT) : Prop := bsOK us vs bs ∧ sc ≤ 6 ∧ bs.map bD = ds ∧ (¬ fs = 0 → fs = 1 ∧ c_PR ds us vs sc lo lc ln lu lw lf)
def r_v (v : Int32) : Int32 := if v = 0 then 1 else if v = 1 then 1 else 0
def r_w (n k : Int64) : Int32 := if n < -k then 0 else if k < n then 0 else 1
def dReset (d : bDt) : bDt := (d.1, (0, 0), s_set (s_set d.2.2 0 1 0 0) 1 0 1 0)
def dAdd (d : bDt) (p q r : Int32) : bDt := ((upd d.1.1 d.2.1.1 p, upd d.1.2.1 d.2.1.1 q, upd d.1.2.2 d.2.1.1 r), (d.2.1.1 + 1, g_em d.1.1 d.1.2.1 d.1.2.2 d.2.1.1 d.2.1.2 p q r), d.2.2)
def dRule (d : bDt) (v a b k : Int32) : bDt := (d.1, d.2.1, s_set d.2.2 v a b k)
def r_gr (d : bDt) (u v : Int32) : Int64 := if r_w u.toInt64 60 = 0 then 4611686018427387904 else if r_w v.toInt64 60 = 0 then 4611686018427387904 else if d.2.1.2 = 0 then g_rnd (g_max d.1.1 d.1.2.1 d.1.2.2 d.2.1.1 u v).1 (g_max d.1.1 d.1.2.1 d.1.2.2 d.2.1.1 u v).2 else -4611686018427387904
def r_h3 (d : bDt) (u v what : Int32) : Int32 := if what = 0 then s_chg d.1.1 d.1.2.1 d.1.2.2 d.2.1.1 d.2.1.2 d.2.2 u v 0 else if what = 1 then s_chg d.1.1 d.1.2.1 d.1.2.2 d.2.1.1 d.2.1.2 d.2.2 u v (-1) else if what = 2 then s_bnd d.1.1 d.1.2.1 d.1.2.2 d.2.1.1 d.2.1.2 u v else 0
def r_ho (d : bDt) (u v what : Int32) : Int32 := if r_w u.toInt64 4 = 0 then 0 else if r_w v.toInt64 4 = 0 then 0 else if u = 0 then (if v = 0 then 0 else r_h3 d u v what) else r_h3 d u v what
theorem g_em_01 (fp fq fr : Nat → Int32) (n : Nat) (em p q r : Int32) (h : em = 0 ∨ em = 1) : g_em fp fq fr n em p q r = 0 ∨ g_em fp fq fr n em p q r = 1 := by
  unfold g_em
  split
  · split
    · exact Or.inl rfl
    · split
      · exact Or.inr rfl
      · exact Or.inl rfl
  · exact h
theorem s_chg_01 (fp fq fr : Nat → Int32) (n : Nat) (em : Int32) (ru : Nat → Int32) (u v w : Int32) : s_chg fp fq fr n em ru u v w = 0 ∨ s_chg fp fq fr n em ru u v w = 1 := by
  unfold s_chg
  split
  · exact g_atm_b _ _ _
  · exact Or.inr rfl
theorem s_bnd_01 (fp fq fr : Nat → Int32) (n : Nat) (em u v : Int32) : s_bnd fp fq fr n em u v = 0 ∨ s_bnd fp fq fr n em u v = 1 := by
  unfold s_bnd
  split
  · exact g_has_b _
  · exact Or.inr rfl
theorem bs_map_set {bs : List bT} {ds : List bDt} (h : bs.map bD = ds) (k : Nat) (b : bT) : (bs.set k b).map bD = ds.set k (bD b) := by
  rw [← h, List.map_set]
theorem ts_in {x : Int32} {k : Nat} (h : x = nI k) (hk : k < 2 ^ 31) : x.toInt = k := by rw [h]; exact nI_toInt hk
theorem ts_3 {x : Int32} (h0 : ¬ x = 0) (h1 : ¬ x = 1) (h2 : ¬ x = 2) : x.toInt < 0 ∨ 2 < x.toInt := by
  have e0 : x.toInt ≠ 0 := fun z => h0 (Int32.toInt_inj.mp z)
  have e1 : x.toInt ≠ 1 := fun z => h1 (Int32.toInt_inj.mp z)
  have e2 : x.toInt ≠ 2 := fun z => h2 (Int32.toInt_inj.mp z)
  omega
theorem d_LoopRanker_holds_42 : decode b_LoopRanker_holds 42 = .ok (.tableswitch 64 0 2 #[26, 39, 52], 26) := by decide +kernel
