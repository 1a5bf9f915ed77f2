/-! What the class's methods answer, as they are written: Int32 and Int64 -/
def g_cross (a b c d : Int64) : Int64 := a * d - b * c
def g_abs (x : Int32) : Int32 := if 0 ≤ x then x else 0 - x
def g_lo (s : Int64 × Int64) (t d : Int64) : Int64 × Int64 := if s.2 = 0 then (t, d) else if t * s.2 < s.1 * d then (t, d) else s
def g_row (fp fq fr : Nat → Int32) (a b : Int32) (i : Nat) (s : Int64 × Int64) : Int64 × Int64 :=
  if g_cross (fp i).toInt64 (fq i).toInt64 a.toInt64 b.toInt64 = 0 then (if 0 < fp i * a + fq i * b then g_lo s ((fr i).toInt64 * (g_abs a + g_abs b).toInt64) (g_abs (fp i) + g_abs (fq i)).toInt64 else s) else s
def g_sg (c : Int64) : Int64 := if c < 0 then -1 else 1
def g_pair (fp fq fr : Nat → Int32) (a b : Int32) (i j : Nat) (s : Int64 × Int64) : Int64 × Int64 :=
  if g_cross (fp i).toInt64 (fq i).toInt64 (fp j).toInt64 (fq j).toInt64 = 0 then s
  else if g_sg (g_cross (fp i).toInt64 (fq i).toInt64 (fp j).toInt64 (fq j).toInt64) * g_cross a.toInt64 b.toInt64 (fp j).toInt64 (fq j).toInt64 < 0 then s
  else if g_sg (g_cross (fp i).toInt64 (fq i).toInt64 (fp j).toInt64 (fq j).toInt64) * g_cross (fp i).toInt64 (fq i).toInt64 a.toInt64 b.toInt64 < 0 then s
  else g_lo s ((fr i).toInt64 * (g_sg (g_cross (fp i).toInt64 (fq i).toInt64 (fp j).toInt64 (fq j).toInt64) * g_cross a.toInt64 b.toInt64 (fp j).toInt64 (fq j).toInt64) + (fr j).toInt64 * (g_sg (g_cross (fp i).toInt64 (fq i).toInt64 (fp j).toInt64 (fq j).toInt64) * g_cross (fp i).toInt64 (fq i).toInt64 a.toInt64 b.toInt64)) (g_sg (g_cross (fp i).toInt64 (fq i).toInt64 (fp j).toInt64 (fq j).toInt64) * g_cross (fp i).toInt64 (fq i).toInt64 (fp j).toInt64 (fq j).toInt64)
def g_in (fp fq fr : Nat → Int32) (a b : Int32) (i : Nat) : Nat → Nat → Int64 × Int64 → Int64 × Int64
  | 0, _, s => s
  | k + 1, j, s => g_in fp fq fr a b i k (j + 1) (g_pair fp fq fr a b i j s)
def g_out (fp fq fr : Nat → Int32) (a b : Int32) : Nat → Nat → Int64 × Int64 → Int64 × Int64
  | 0, _, s => s
  | k + 1, i, s => g_out fp fq fr a b k (i + 1) (g_in fp fq fr a b i k (i + 1) (g_row fp fq fr a b i s))
def g_max (fp fq fr : Nat → Int32) (n : Nat) (a b : Int32) : Int64 × Int64 := if a = 0 then (if b = 0 then (0, 1) else g_out fp fq fr a b n 0 (0, 0)) else g_out fp fq fr a b n 0 (0, 0)
def g_has (bot : Int64) : Int32 := if bot = 0 then 0 else 1
def g_atm (top bot x : Int64) : Int32 := if bot = 0 then 0 else if x * bot < top then 0 else 1
def g_al (fp fq fr : Nat → Int32) (x y : Int64) : Nat → Nat → Int32
  | 0, _ => 1
  | k + 1, i => if (fr i).toInt64 < (fp i).toInt64 * x + (fq i).toInt64 * y then 0 else g_al fp fq fr x y k (i + 1)
def g_fd (x y : Int64) : Int64 := if (x ^^^ y) < 0 then (if x / y * y = x then x / y else x / y - 1) else x / y
def g_rnd (top bot : Int64) : Int64 := if bot = 0 then 4611686018427387904 else g_fd top bot
def g_em (fp fq fr : Nat → Int32) (n : Nat) (em p q r : Int32) : Int32 :=
  if em = 0 then (if (g_max fp fq fr n (-p) (-q)).2 = 0 then 0 else if (g_max fp fq fr n (-p) (-q)).1 < (-r).toInt64 * (g_max fp fq fr n (-p) (-q)).2 then 1 else 0) else em
abbrev gW (cI : ClassId) (g a1 a2 a3 : Nat) (fp fq fr : Nat → Int32) (n : Nat) (em : Int32) (top bot : Int64) : va_W :=
  [(g, .inr (0, [.ref a1, .ref a2, .ref a3, .int (nI n), .int em, .long top, .long bot])), (a1, .inl (cI, 4, .inl fp)), (a2, .inl (cI, 4, .inl fq)), (a3, .inl (cI, 4, .inl fr))]
def s_set (ru : Nat → Int32) (v a b c : Int32) : Nat → Int32 := if v = 0 then upd (upd (upd ru 0 a) 1 b) 2 c else upd (upd (upd ru 3 a) 4 b) 5 c
def s_next (ru : Nat → Int32) (v : Int32) (x y : Int64) : Int64 := if v = 0 then (ru 0).toInt64 * x + (ru 1).toInt64 * y + (ru 2).toInt64 else (ru 3).toInt64 * x + (ru 4).toInt64 * y + (ru 5).toInt64
def s_chg (fp fq fr : Nat → Int32) (n : Nat) (em : Int32) (ru : Nat → Int32) (u v most : Int32) : Int32 :=
  if em = 0 then g_atm (g_max fp fq fr n (u * ru 0 + v * ru 3 - u) (u * ru 1 + v * ru 4 - v)).1 (g_max fp fq fr n (u * ru 0 + v * ru 3 - u) (u * ru 1 + v * ru 4 - v)).2 (most - (u * ru 2 + v * ru 5)).toInt64 else 1
def s_bnd (fp fq fr : Nat → Int32) (n : Nat) (em : Int32) (u v : Int32) : Int32 := if em = 0 then g_has (g_max fp fq fr n (-u) (-v)).2 else 1
def s_kind (fp fq fr : Nat → Int32) (n : Nat) (em : Int32) (ru : Nat → Int32) (u v : Int32) : Int32 :=
  if s_chg fp fq fr n em ru u v 0 = 0 then 0 else if s_chg fp fq fr n em ru u v (-1) = 0 then 1 else if s_bnd fp fq fr n em u v = 0 then 1 else 2
theorem g_has_b (b : Int64) : g_has b = 0 ∨ g_has b = 1 := by unfold g_has; split <;> simp
theorem g_atm_b (t b x : Int64) : g_atm t b x = 0 ∨ g_atm t b x = 1 := by unfold g_atm; split <;> (try split) <;> simp
abbrev sW (cI : ClassId) (so g a1 a2 a3 a4 a5 : Nat) (fp fq fr : Nat → Int32) (n : Nat) (em : Int32) (top bot : Int64) (ru kd : Nat → Int32) (kf : Int32) : va_W :=
  [(so, .inr (1, [.ref g, .ref a4, .ref a5, .int kf])), (g, .inr (0, [.ref a1, .ref a2, .ref a3, .int (nI n), .int em, .long top, .long bot])), (a1, .inl (cI, 4, .inl fp)), (a2, .inl (cI, 4, .inl fq)), (a3, .inl (cI, 4, .inl fr)), (a4, .inl (cI, 6, .inl ru)), (a5, .inl (cI, 80, .inl kd))]
abbrev kW (cI : ClassId) (so g a1 a2 a3 a4 a5 : Nat) (fp fq fr : Nat → Int32) (n : Nat) (em : Int32) (top bot : Int64) (ru kd : Nat → Int32) (kf : Int32) (u1 u2 : Nat) (us vs : Nat → Int32) : va_W :=
  [(so, .inr (1, [.ref g, .ref a4, .ref a5, .int kf])), (g, .inr (0, [.ref a1, .ref a2, .ref a3, .int (nI n), .int em, .long top, .long bot])), (a1, .inl (cI, 4, .inl fp)), (a2, .inl (cI, 4, .inl fq)), (a3, .inl (cI, 4, .inl fr)), (a4, .inl (cI, 6, .inl ru)), (a5, .inl (cI, 80, .inl kd)), (u1, .inl (cI, 80, .inl us)), (u2, .inl (cI, 80, .inl vs))]
