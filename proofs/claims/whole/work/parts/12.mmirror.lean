/-! What the reference's methods answer, as they are written -/
abbrev mS : Type := Int32 × Int64 × Int64
def m_wi (v most : Int32) : Int32 := if v < -most then 0 else if most < v then 0 else 1
def m_far (v : Int64) : Int32 := if v < -1000000000000 then 1 else if 1000000000000 < v then 1 else 0
def m_sz (v : Int32) : Int32 := if v < 0 then -v else v
def m_dn (n d : Int64) : Int64 := if n - n / d * d < 0 then n / d - 1 else n / d
def m_bf (u v a b : Int32) : Int32 := if m_sz u + m_sz v = m_sz a + m_sz b then (if u = a then (if b < v then 1 else 0) else (if a < u then 1 else 0)) else (if m_sz u + m_sz v < m_sz a + m_sz b then 1 else 0)
def m_th (nc : Nat) (t : Int32) : Int32 := if t < 0 then 0 else if t < nI nc then 1 else 0
def m_ck (fp fq fr : Nat → Int32) (ax ay d : Int64) : Nat → Nat → Bool
  | 0, _ => true
  | k + 1, i => if (fr i).toInt64 * d < (fp i).toInt64 * ax + (fq i).toInt64 * ay then false else m_ck fp fq fr ax ay d k (i + 1)
def m_mt (fp fq fr : Nat → Int32) (b0 n : Nat) (u v : Int32) (ax ay d : Int64) (s : mS) : mS :=
  if m_ck fp fq fr ax ay d n b0 = true then (if s.1 = 0 then (1, u.toInt64 * ax + v.toInt64 * ay, d) else if s.2.1 * d < (u.toInt64 * ax + v.toInt64 * ay) * s.2.2 then (1, u.toInt64 * ax + v.toInt64 * ay, d) else s) else s
def m_mn (fp fq fr : Nat → Int32) (b0 n : Nat) (u v : Int32) (px py den : Int64) (s : mS) : mS := m_mt fp fq fr b0 n u v (if den < 0 then -px else px) (if den < 0 then -py else py) (if den < 0 then -den else den) s
def m_fo (fp fq fr : Nat → Int32) (b0 n : Nat) (u v : Int32) (i : Nat) (s : mS) : mS := if 0 < fp i * fp i + fq i * fq i then m_mn fp fq fr b0 n u v (fp i * fr i).toInt64 (fq i * fr i).toInt64 (fp i * fp i + fq i * fq i).toInt64 s else s
def m_co (fp fq fr : Nat → Int32) (b0 n : Nat) (u v : Int32) (i j : Nat) (s : mS) : mS := if fp i * fq j - fp j * fq i = 0 then s else m_mn fp fq fr b0 n u v (fr i * fq j - fr j * fq i).toInt64 (fp i * fr j - fp j * fr i).toInt64 (fp i * fq j - fp j * fq i).toInt64 s
def m_li (fp fq fr : Nat → Int32) (b0 n : Nat) (u v : Int32) (i : Nat) : Nat → Nat → mS → mS
  | 0, _, s => s
  | k + 1, j, s => m_li fp fq fr b0 n u v i k (j + 1) (m_co fp fq fr b0 n u v i j s)
def m_lu (fp fq fr : Nat → Int32) (b0 n : Nat) (u v : Int32) : Nat → Nat → mS → mS
  | 0, _, s => s
  | k + 1, i, s => m_lu fp fq fr b0 n u v k (i + 1) (m_li fp fq fr b0 n u v i (i - b0) b0 (m_fo fp fq fr b0 n u v i s))
def m_lk (fp fq fr : Nat → Int32) (b0 n : Nat) (u v : Int32) : mS := m_lu fp fq fr b0 n u v n b0 (m_mn fp fq fr b0 n u v 0 0 1 (0, 0, 1))
def m_ws (fp fq : Nat → Int32) (dx dy : Int32) (i : Nat) (z : Int32) : Int32 := if z = 0 then 0 else if 0 < fp i * dx + fq i * dy then 0 else 1
def m_wy (fp fq : Nat → Int32) (dx dy : Int32) : Nat → Nat → Int32 → Int32
  | 0, _, z => z
  | k + 1, i, z => m_wy fp fq dx dy k (i + 1) (m_ws fp fq dx dy i z)
def m_way (fp fq : Nat → Int32) (b0 n : Nat) (dx dy u v : Int32) : Int32 := m_wy fp fq dx dy n b0 (if 0 < u * dx + v * dy then 1 else 0)
def m_es (fp fq : Nat → Int32) (b0 n : Nat) (u v : Int32) (i : Nat) (z : Int32) : Int32 := if z = 0 then (if m_way fp fq b0 n (-(fq i)) (fp i) u v = 0 then (if m_way fp fq b0 n (fq i) (-(fp i)) u v = 0 then (if m_way fp fq b0 n (-(fp i)) (-(fq i)) u v = 0 then 0 else 1) else 1) else 1) else 1
def m_en (fp fq : Nat → Int32) (b0 n : Nat) (u v : Int32) : Nat → Nat → Int32 → Int32
  | 0, _, z => z
  | k + 1, i, z => m_en fp fq b0 n u v k (i + 1) (m_es fp fq b0 n u v i z)
def m_end (fp fq : Nat → Int32) (b0 n : Nat) (u v : Int32) : Int32 := m_en fp fq b0 n u v n b0 (m_way fp fq b0 n u v u v)
def m_emp (fp fq fr : Nat → Int32) (b0 n : Nat) : Int32 := if (m_lk fp fq fr b0 n 0 0).1 = 0 then 1 else 0
def m_said (fp fq : Nat → Int32) (b0 n : Nat) (u v : Int32) : Int32 := if m_end fp fq b0 n u v = 0 then 1 else 0
def m_nev (fp fq fr : Nat → Int32) (b0 n : Nat) (u v w : Int32) : Int32 := if m_emp fp fq fr b0 n = 0 then (if m_said fp fq b0 n u v = 0 then 0 else if (-w).toInt64 * (m_lk fp fq fr b0 n u v).2.2 < (m_lk fp fq fr b0 n u v).2.1 then 0 else 1) else 1
def m_bd (fp fq fr : Nat → Int32) (b0 n : Nat) (u v : Int32) : Int32 := if m_emp fp fq fr b0 n = 0 then (if m_said fp fq b0 n u v = 0 then 0 else 1) else 1
def m_has (fp fq fr up : Nat → Int32) (t d : Nat) (u v what : Int32) : Int32 :=
  if what = 2 then m_bd fp fq fr (4 * t) d (-u) (-v)
  else m_nev fp fq fr (4 * t) d (u * up (6 * t) + v * up (6 * t + 3) - u) (u * up (6 * t + 1) + v * up (6 * t + 4) - v) (if what = 0 then u * up (6 * t + 2) + v * up (6 * t + 5) else u * up (6 * t + 2) + v * up (6 * t + 5) + 1)
def m_01 (z : Int32) : Prop := z = 0 ∨ z = 1
theorem m_ws_01 (fp fq : Nat → Int32) (dx dy : Int32) (i : Nat) (z : Int32) : m_01 (m_ws fp fq dx dy i z) := by unfold m_ws m_01; split <;> (try split) <;> simp
theorem m_wy_01 (fp fq : Nat → Int32) (dx dy : Int32) : ∀ (k i : Nat) (z : Int32), m_01 z → m_01 (m_wy fp fq dx dy k i z) := by
  intro k
  induction k with
  | zero => intro i z h; exact h
  | succ k ih => intro i z h; exact ih (i + 1) _ (m_ws_01 fp fq dx dy i z)
theorem m_way_01 (fp fq : Nat → Int32) (b0 n : Nat) (dx dy u v : Int32) : m_01 (m_way fp fq b0 n dx dy u v) := m_wy_01 fp fq dx dy n b0 _ (by unfold m_01; split <;> simp)
theorem m_es_01 (fp fq : Nat → Int32) (b0 n : Nat) (u v : Int32) (i : Nat) (z : Int32) : m_01 (m_es fp fq b0 n u v i z) := by unfold m_es m_01; split <;> (try split) <;> (try split) <;> (try split) <;> simp
theorem m_en_01 (fp fq : Nat → Int32) (b0 n : Nat) (u v : Int32) : ∀ (k i : Nat) (z : Int32), m_01 z → m_01 (m_en fp fq b0 n u v k i z) := by
  intro k
  induction k with
  | zero => intro i z h; exact h
  | succ k ih => intro i z h; exact ih (i + 1) _ (m_es_01 fp fq b0 n u v i z)
theorem m_end_01 (fp fq : Nat → Int32) (b0 n : Nat) (u v : Int32) : m_01 (m_end fp fq b0 n u v) := m_en_01 fp fq b0 n u v n b0 _ (m_way_01 fp fq b0 n u v u v)
theorem m_nev_01 (fp fq fr : Nat → Int32) (b0 n : Nat) (u v w : Int32) : m_01 (m_nev fp fq fr b0 n u v w) := by unfold m_nev m_01; split <;> (try split) <;> (try split) <;> simp
theorem m_th_1 {nc t : Nat} (h : t < nc) (h6 : nc ≤ 6) : m_th nc (nI t) = 1 := by
  unfold m_th
  rw [if_neg (nI_pos (by omega)), if_pos (nI_lt h (by omega))]
theorem m_th_nat {nc : Nat} {t : Int32} (h6 : nc ≤ 6) (h : ¬ m_th nc t = 0) : ∃ k, k < nc ∧ t = nI k := by
  unfold m_th at h
  by_cases h0 : t < 0
  · rw [if_pos h0] at h; exact absurd rfl h
  · rw [if_neg h0] at h
    by_cases h1 : t < nI nc
    · obtain ⟨j, hj, rfl⟩ := nI_of h0
      exact ⟨j, (nI_ltI hj (by omega)).mp h1, rfl⟩
    · rw [if_neg h1] at h; exact absurd rfl h
def m_tr (b0 : Nat) : Nat → Nat → (Nat → Int32) → Nat → Int32
  | 0, _, f => f
  | k + 1, i, f => m_tr b0 k (i + 1) (upd f (b0 + i) (if i = 0 then 1 else if i = 4 then 1 else 0))
def m_gr (fp fq fr : Nat → Int32) (b0 n : Nat) (u v : Int32) : Int64 := if m_wi u 60 = 0 then 4611686018427387904 else if m_wi v 60 = 0 then 4611686018427387904 else if m_emp fp fq fr b0 n = 0 then (if m_said fp fq b0 n u v = 0 then 4611686018427387904 else m_dn (m_lk fp fq fr b0 n u v).2.1 (m_lk fp fq fr b0 n u v).2.2) else -4611686018427387904
def m_ho2 (fp fq fr up : Nat → Int32) (t d : Nat) (u v what : Int32) : Int32 := if what < 0 then 0 else if 2 < what then 0 else m_has fp fq fr up t d u v what
def m_ho (fp fq fr up : Nat → Int32) (t d : Nat) (u v what : Int32) : Int32 := if m_wi u 4 = 0 then 0 else if m_wi v 4 = 0 then 0 else if u = 0 then (if v = 0 then 0 else m_ho2 fp fq fr up t d u v what) else m_ho2 fp fq fr up t d u v what
theorem m_has_01 (fp fq fr up : Nat → Int32) (t d : Nat) (u v what : Int32) : m_01 (m_has fp fq fr up t d u v what) := by
  unfold m_has
  split
  · unfold m_bd m_01; split <;> (try split) <;> simp
  · exact m_nev_01 _ _ _ _ _ _ _ _
theorem m_neg0 {x : Int64} (h : ¬ x = 0) : ¬ (if x < 0 then -x else x) = 0 := by
  split
  · intro z; exact h (by rw [← Int64.neg_neg (a := x), z]; rfl)
  · exact h
theorem m_mt_bot (fp fq fr : Nat → Int32) (b0 n : Nat) (u v : Int32) (ax ay d : Int64) (s : mS) (hs : ¬ s.2.2 = 0) (hd : ¬ d = 0) : ¬ (m_mt fp fq fr b0 n u v ax ay d s).2.2 = 0 := by
  unfold m_mt
  split
  · split
    · exact hd
    · split
      · exact hd
      · exact hs
  · exact hs
theorem m_mn_bot (fp fq fr : Nat → Int32) (b0 n : Nat) (u v : Int32) (px py den : Int64) (s : mS) (hs : ¬ s.2.2 = 0) (hd : ¬ den = 0) : ¬ (m_mn fp fq fr b0 n u v px py den s).2.2 = 0 := m_mt_bot _ _ _ _ _ _ _ _ _ _ _ hs (m_neg0 hd)
theorem m_i64 {x : Int32} (h : ¬ x = 0) : ¬ x.toInt64 = 0 := fun z => h (by
  have e := congrArg Int64.toInt z
  rw [Int32.toInt_toInt64] at e
  exact Int32.toInt_inj.mp (by rw [e]; rfl))
theorem m_fo_bot (fp fq fr : Nat → Int32) (b0 n : Nat) (u v : Int32) (i : Nat) (s : mS) (hs : ¬ s.2.2 = 0) : ¬ (m_fo fp fq fr b0 n u v i s).2.2 = 0 := by
  unfold m_fo
  split
  · next h => exact m_mn_bot _ _ _ _ _ _ _ _ _ _ _ hs (m_i64 (fun z => by rw [z] at h; exact absurd h (by decide)))
  · exact hs
theorem m_co_bot (fp fq fr : Nat → Int32) (b0 n : Nat) (u v : Int32) (i j : Nat) (s : mS) (hs : ¬ s.2.2 = 0) : ¬ (m_co fp fq fr b0 n u v i j s).2.2 = 0 := by
  unfold m_co
  split
  · exact hs
  · next h => exact m_mn_bot _ _ _ _ _ _ _ _ _ _ _ hs (m_i64 h)
theorem m_li_bot (fp fq fr : Nat → Int32) (b0 n : Nat) (u v : Int32) (i : Nat) : ∀ (k j : Nat) (s : mS), ¬ s.2.2 = 0 → ¬ (m_li fp fq fr b0 n u v i k j s).2.2 = 0 := by
  intro k
  induction k with
  | zero => intro j s h; exact h
  | succ k ih => intro j s h; exact ih (j + 1) _ (m_co_bot _ _ _ _ _ _ _ _ _ _ h)
theorem m_lu_bot (fp fq fr : Nat → Int32) (b0 n : Nat) (u v : Int32) : ∀ (k i : Nat) (s : mS), ¬ s.2.2 = 0 → ¬ (m_lu fp fq fr b0 n u v k i s).2.2 = 0 := by
  intro k
  induction k with
  | zero => intro i s h; exact h
  | succ k ih => intro i s h; exact ih (i + 1) _ (m_li_bot _ _ _ _ _ _ _ _ _ _ _ (m_fo_bot _ _ _ _ _ _ _ _ _ h))
theorem m_lk_bot (fp fq fr : Nat → Int32) (b0 n : Nat) (u v : Int32) : ¬ (m_lk fp fq fr b0 n u v).2.2 = 0 := m_lu_bot _ _ _ _ _ _ _ _ _ _ (m_mn_bot _ _ _ _ _ _ _ _ _ _ _ (by decide) (by decide))
def m_vx (v : Int32) (x y : Int64) : Int64 := if v = 0 then x else if v = 1 then y else 0
def m_fire (fp fq fr up : Nat → Int32) (t d : Nat) (x y : Int64) : Bool × Int64 × Int64 :=
  if m_ck fp fq fr x y 1 d (4 * t) = true then
    (if m_far ((up (6 * t)).toInt64 * x + (up (6 * t + 1)).toInt64 * y + (up (6 * t + 2)).toInt64) = 0 then (if m_far ((up (6 * t + 3)).toInt64 * x + (up (6 * t + 4)).toInt64 * y + (up (6 * t + 5)).toInt64) = 0 then (true, (up (6 * t)).toInt64 * x + (up (6 * t + 1)).toInt64 * y + (up (6 * t + 2)).toInt64, (up (6 * t + 3)).toInt64 * x + (up (6 * t + 4)).toInt64 * y + (up (6 * t + 5)).toInt64) else (false, x, y)) else (false, x, y))
  else (false, x, y)
abbrev mW (cI : ClassId) (h m1 p1 q1 r1 w1 o1 f1 s1 : Nat) (nc : Nat) (my fp fq fr up : Nat → Int32) (sm : Int32) (top bot : Int64) (lv : Nat) (ol fi se : Nat → Int32) (x y : Int64) (fd : Int32) : va_W :=
  [(h, .inr (4, [.int (nI nc), .ref m1, .ref p1, .ref q1, .ref r1, .ref w1, .int sm, .long top, .long bot, .int (nI lv), .ref o1, .ref f1, .ref s1, .long x, .long y, .int fd])), (m1, .inl (cI, 6, .inl my)), (p1, .inl (cI, 24, .inl fp)), (q1, .inl (cI, 24, .inl fq)), (r1, .inl (cI, 24, .inl fr)), (w1, .inl (cI, 36, .inl up)), (o1, .inl (cI, 6, .inl ol)), (f1, .inl (cI, 6, .inl fi)), (s1, .inl (cI, 6, .inl se))]
