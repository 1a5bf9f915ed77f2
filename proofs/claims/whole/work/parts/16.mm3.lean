def m_upd (up : Nat → Int32) (t w : Nat) (a b k : Int32) : Nat → Int32 := upd (upd (upd up (6 * t + 3 * w) a) (6 * t + 3 * w + 1) b) (6 * t + 3 * w + 2) k
def m_nx (up : Nat → Int32) (b0 : Nat) (x y : Int64) : Int64 := (up b0).toInt64 * x + (up (b0 + 1)).toInt64 * y + (up (b0 + 2)).toInt64
def m_ny (up : Nat → Int32) (b0 : Nat) (x y : Int64) : Int64 := (up (b0 + 3)).toInt64 * x + (up (b0 + 4)).toInt64 * y + (up (b0 + 5)).toInt64
def m_fr (fp fq fr up : Nat → Int32) (t d : Nat) (x y : Int64) : Int32 := if g_al fp fq fr x y d (4 * t) = 0 then 0 else if m_far (m_nx up (6 * t) x y) = 0 then (if m_far (m_ny up (6 * t) x y) = 0 then 1 else 0) else 0
def m_s (w k : Nat) : Nat → Nat → (Nat → Int32) → Nat → Int32
  | 0, _, f => f
  | n + 1, i, f => m_s w k n (i + 1) (upd f (w * k + i) (f (w * k + w + i)))
def m_os (w : Nat) : Nat → Nat → (Nat → Int32) → Nat → Int32
  | 0, _, f => f
  | n + 1, k, f => m_os w n (k + 1) (m_s w k w 0 f)
def m_o1 : Nat → Nat → (Nat → Int32) → Nat → Int32
  | 0, _, f => f
  | n + 1, k, f => m_o1 n (k + 1) (upd f k (f (k + 1)))
def m_rm (ol : Nat → Int32) (hs : Nat → Int32 → Int32) : Nat → Nat → Nat → Nat
  | 0, _, n => n
  | k + 1, t, n => if ol t < 0 then (if hs t 0 = 0 then 0 else m_rm ol hs k (t + 1) (if hs t 1 = 0 then n else if hs t 2 = 0 then n else n + 1)) else m_rm ol hs k (t + 1) n
theorem m_rm_le (ol : Nat → Int32) (hs : Nat → Int32 → Int32) : ∀ (k t n : Nat), m_rm ol hs k t n ≤ n + k := by
  intro k
  induction k with
  | zero => intro t n; exact Nat.le_refl _
  | succ k ih =>
    intro t n
    unfold m_rm
    split
    · split
      · omega
      · have := ih (t + 1) (if hs t 1 = 0 then n else if hs t 2 = 0 then n else n + 1)
        split at this
        · next h => rw [if_pos h]; omega
        · next h =>
          rw [if_neg h]
          split at this
          · next h2 => rw [if_pos h2]; omega
          · next h2 => rw [if_neg h2]; omega
    · have := ih (t + 1) n; omega
def m_lf (ol : Nat → Int32) : Nat → Nat → Nat → Nat
  | 0, _, n => n
  | k + 1, t, n => m_lf ol k (t + 1) (if ol t < 0 then n + 1 else n)
theorem m_lf_le (ol : Nat → Int32) : ∀ (k t n : Nat), m_lf ol k t n ≤ n + k := by
  intro k
  induction k with
  | zero => intro t n; exact Nat.le_refl _
  | succ k ih =>
    intro t n
    have := ih (t + 1) (if ol t < 0 then n + 1 else n)
    show m_lf ol k (t + 1) (if ol t < 0 then n + 1 else n) ≤ n + (k + 1)
    split at this
    · next h => rw [if_pos h]; omega
    · next h => rw [if_neg h]; omega
def mu (a : Nat) : Int32 := nI a - 4
theorem mu_s (a : Nat) : mu a + 1 = mu (a + 1) := by unfold mu; rw [nI_succ]; grind
theorem mu_gt : ∀ a, a < 10 → (4 < mu a ↔ a = 9) := by decide
theorem mu_0 : (-4 : Int32) = mu 0 := by decide
abbrev mB : Type := Nat × Int32 × Int32
def m_st (R : Nat) (u v : Int32) (b : mB) : mB := if b.1 < R then (R, u, v) else if R = 0 then b else if R = b.1 then (if m_bf u v b.2.1 b.2.2 = 0 then b else (R, u, v)) else b
def m_bi (R : Int32 → Int32 → Nat) (u : Int32) : Nat → Nat → mB → mB
  | 0, _, b => b
  | k + 1, j, b => m_bi R u k (j + 1) (m_st (R u (mu j)) u (mu j) b)
def m_bo (R : Int32 → Int32 → Nat) : Nat → Nat → mB → mB
  | 0, _, b => b
  | k + 1, i, b => m_bo R k (i + 1) (m_bi R (mu i) 9 0 b)
def m_RR (ol : Nat → Int32) (H : Nat → Int32 → Int32 → Int32 → Int32) (nc : Nat) (u v : Int32) : Nat := if u = 0 then (if v = 0 then 0 else m_rm ol (fun t w => H t u v w) nc 0 0) else m_rm ol (fun t w => H t u v w) nc 0 0
theorem m_RR_le (ol : Nat → Int32) (H : Nat → Int32 → Int32 → Int32 → Int32) (nc : Nat) (u v : Int32) : m_RR ol H nc u v ≤ nc := by
  have := m_rm_le ol (fun t w => H t u v w) nc 0 0
  unfold m_RR
  split
  · split <;> omega
  · omega
theorem m_st_le (R : Nat) (u v : Int32) (b : mB) {n : Nat} (h1 : R ≤ n) (h2 : b.1 ≤ n) : (m_st R u v b).1 ≤ n := by
  unfold m_st
  split
  · exact h1
  · split
    · exact h2
    · split
      · split
        · exact h2
        · exact h1
      · exact h2
def m_ol (h1 : Nat → Int32) (h2 : Nat → Int32) (lv : Nat) : Nat → Nat → (Nat → Int32) → Nat → Int32
  | 0, _, ol => ol
  | k + 1, t, ol => m_ol h1 h2 lv k (t + 1) (if ol t < 0 then (if h1 t = 0 then ol else if h2 t = 0 then ol else upd ol t (nI lv)) else ol)
abbrev m_H (fp fq fr up : Nat → Int32) (dn : Nat → Nat) (t : Nat) (u v w : Int32) : Int32 := m_has fp fq fr up t (dn t) u v w
def m_B (ol : Nat → Int32) (H : Nat → Int32 → Int32 → Int32 → Int32) (nc : Nat) (f s : Int32) : mB := m_bo (m_RR ol H nc) 9 0 (0, f, s)
theorem m_bi_le {R : Int32 → Int32 → Nat} {n : Nat} (hR : ∀ u v, R u v ≤ n) (u : Int32) : ∀ (k j : Nat) (b : mB), b.1 ≤ n → (m_bi R u k j b).1 ≤ n := by
  intro k
  induction k with
  | zero => intro j b h; exact h
  | succ k ih => intro j b h; exact ih (j + 1) _ (m_st_le _ _ _ _ (hR _ _) h)
theorem m_bo_le {R : Int32 → Int32 → Nat} {n : Nat} (hR : ∀ u v, R u v ≤ n) : ∀ (k i : Nat) (b : mB), b.1 ≤ n → (m_bo R k i b).1 ≤ n := by
  intro k
  induction k with
  | zero => intro i b h; exact h
  | succ k ih => intro i b h; exact ih (i + 1) _ (m_bi_le hR _ _ _ _ h)
def m_lo (fp fq fr : Nat → Int32) (t d : Nat) (f s : Int32) : Int64 := if m_said fp fq (4 * t) d (-f) (-s) = 0 then 0 else -(m_dn (m_lk fp fq fr (4 * t) d (-f) (-s)).2.1 (m_lk fp fq fr (4 * t) d (-f) (-s)).2.2)
def m_fs (E : Nat → Int32) (Lo : Nat → Int64) (ol : Nat → Int32) (lev : Int32) (t : Nat) (z : Int32 × Int64) : Int32 × Int64 := if ol t = lev then (if E t = 0 then (1, if z.1 = 0 then Lo t else if Lo t < z.2 then Lo t else z.2) else z) else z
def m_ff (E : Nat → Int32) (Lo : Nat → Int64) (ol : Nat → Int32) (lev : Int32) : Nat → Nat → Int32 × Int64 → Int32 × Int64
  | 0, _, z => z
  | k + 1, t, z => m_ff E Lo ol lev k (t + 1) (m_fs E Lo ol lev t z)
def m_flo (fp fq fr : Nat → Int32) (dn : Nat → Nat) (ol : Nat → Int32) (nc lev : Nat) (f s : Int32) : Int64 := (m_ff (fun t => m_emp fp fq fr (4 * t) (dn t)) (fun t => m_lo fp fq fr t (dn t) f s) ol (nI lev) nc 0 (0, 0)).2
