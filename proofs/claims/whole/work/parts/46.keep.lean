/-! What the levels give -/
theorem m_in_at : ∀ (k i : Nat) (f : Nat → Int32) (j : Nat), m_in k i f j = if i ≤ j ∧ j < i + k then -1 else f j := by
  intro k
  induction k with
  | zero => intro i f j; rw [if_neg (by omega)]; rfl
  | succ k ih =>
    intro i f j
    show m_in k (i + 1) (upd f i (-1)) j = _
    rw [ih]
    by_cases e : j = i
    · subst e; rw [if_neg (by omega), if_pos (by omega), pk_us]
    · rw [pk_un e]
      by_cases c : i + 1 ≤ j ∧ j < i + 1 + k
      · rw [if_pos c, if_pos (by omega)]
      · rw [if_neg c, if_neg (by omega)]
abbrev FIN (fp fq fr up : Nat → Int32) (dn : Nat → Nat) (nc : Nat) (ol : Nat → Int32) : (Nat → Int32) × List (Int32 × Int32) := m_ab (m_H fp fq fr up dn) nc 7 (m_in 6 0 ol) []
theorem cLM_getD (L : cL) (j : Nat) : (cLM L).getD j (0, 0) = ((L.getD j (0, 0, 0)).1, (L.getD j (0, 0, 0)).2.1) := by
  rw [List.getD_eq_getElem?_getD, List.getElem?_map, List.getD_eq_getElem?_getD]
  cases L[j]? <;> rfl
section FIN
variable {ds : List bDt} {fp fq fr up us vs : Nat → Int32} {dn : Nat → Nat} {nc : Nat}
theorem fin_eq (huv : uvOK us vs) (hQ : QR ds fp fq fr up dn nc) (hc : nc ≤ 6) (ol : Nat → Int32) : (∀ t, t < nc → (c_fin ds us vs nc).1 t = (FIN fp fq fr up dn nc ol).1 t) ∧ (FIN fp fq fr up dn nc ol).2 = cLM (c_fin ds us vs nc).2 ∧ flOK fp fq fr dn (FIN fp fq fr up dn nc ol).1 nc (c_fin ds us vs nc).2 ∧ gdL (FIN fp fq fr up dn nc ol).1 nc 6 := by
  have hin : ∀ t, t < nc → m_in 6 0 ol t = -1 := fun t ht => by rw [m_in_at, if_pos (by omega)]
  have hl := m_lf_le (m_in 6 0 ol) nc 0 0
  exact ab_eq huv hQ 6 (fun _ => -1) (m_in 6 0 ol) [] (fun t ht => (hin t ht).symm) (fun t ht => Or.inl (hin t ht)) (by show 0 + _ ≤ 6; omega) (by omega) (fun j hj => absurd hj (Nat.not_lt_zero _))
theorem fin_len (huv : uvOK us vs) (hQ : QR ds fp fq fr up dn nc) (hc : nc ≤ 6) (ol : Nat → Int32) : (c_fin ds us vs nc).2.length = (FIN fp fq fr up dn nc ol).2.length := by
  rw [(fin_eq huv hQ hc ol).2.1, List.length_map]
theorem fin_lf (huv : uvOK us vs) (hQ : QR ds fp fq fr up dn nc) (hc : nc ≤ 6) (ol : Nat → Int32) : c_lf (c_fin ds us vs nc).1 nc 0 0 = m_lf (FIN fp fq fr up dn nc ol).1 nc 0 0 := by
  obtain ⟨h1, -, -, h4⟩ := fin_eq huv hQ hc ol
  exact lf_eq (fun t ht => by rw [h1 t ht]; exact gd_neg h4 (by omega) ht) nc 0 0 (by omega)
theorem fin_at (huv : uvOK us vs) (hQ : QR ds fp fq fr up dn nc) (hc : nc ≤ 6) (ol : Nat → Int32) (j : Nat) : (FIN fp fq fr up dn nc ol).2.getD j (0, 0) = (((c_fin ds us vs nc).2.getD j (0, 0, 0)).1, ((c_fin ds us vs nc).2.getD j (0, 0, 0)).2.1) := by
  rw [(fin_eq huv hQ hc ol).2.1, cLM_getD]
theorem fin_fl (huv : uvOK us vs) (hQ : QR ds fp fq fr up dn nc) (hc : nc ≤ 6) (ol : Nat → Int32) {j : Nat} (hj : j < (FIN fp fq fr up dn nc ol).2.length) : ((c_fin ds us vs nc).2.getD j (0, 0, 0)).2.2 = m_flo fp fq fr dn (FIN fp fq fr up dn nc ol).1 nc j ((FIN fp fq fr up dn nc ol).2.getD j (0, 0)).1 ((FIN fp fq fr up dn nc ol).2.getD j (0, 0)).2 := by
  rw [fin_at huv hQ hc ol j]
  exact (fin_eq huv hQ hc ol).2.2.1 j (by rw [fin_len huv hQ hc ol]; exact hj)
theorem fin_bud (huv : uvOK us vs) (hQ : QR ds fp fq fr up dn nc) (hc : nc ≤ 6) (ol : Nat → Int32) (x y : Int64) : r_bud (c_fin ds us vs nc).2 (c_lf (c_fin ds us vs nc).1 nc 0 0) x y = m_bud (FIN fp fq fr up dn nc ol).2 (m_lf (FIN fp fq fr up dn nc ol).1 nc 0 0) (m_flo fp fq fr dn (FIN fp fq fr up dn nc ol).1 nc 0 ((FIN fp fq fr up dn nc ol).2.getD 0 (0, 0)).1 ((FIN fp fq fr up dn nc ol).2.getD 0 (0, 0)).2) x y := by
  unfold r_bud m_bud
  rw [fin_lf huv hQ hc ol, fin_len huv hQ hc ol]
  by_cases c1 : m_lf (FIN fp fq fr up dn nc ol).1 nc 0 0 = 0
  · rw [if_pos c1]
    by_cases c2 : (FIN fp fq fr up dn nc ol).2.length = 1
    · rw [if_pos c2, if_pos c2, if_pos c1, r_max, ← fin_fl huv hQ hc ol (show 0 < (FIN fp fq fr up dn nc ol).2.length by omega), fin_at huv hQ hc ol 0]
    · rw [if_neg c2, if_neg c2]
  · rw [if_neg c1]
    by_cases c2 : (FIN fp fq fr up dn nc ol).2.length = 1
    · rw [if_pos c2, if_neg c1]
    · rw [if_neg c2]
end FIN
/-! What changes keep -/
theorem Rq_cg {d : bDt} {fp fq fr up fp' fq' fr' up' : Nat → Int32} {s t n : Nat} (h1 : ∀ j, j < 4 → fp' (4 * t + j) = fp (4 * s + j) ∧ fq' (4 * t + j) = fq (4 * s + j) ∧ fr' (4 * t + j) = fr (4 * s + j)) (h2 : ∀ k, k < 6 → up' (6 * t + k) = up (6 * s + k)) (h : Rq d fp fq fr up s n) : Rq d fp' fq' fr' up' t n := by
  obtain ⟨a1, a2, a3, a4, a5, ⟨⟨r0, r1, r2⟩, r3, r4, r5⟩, a7, a8⟩ := h
  refine ⟨a1, a2, fun j hj => ?_, fun j hj => ?_, fun k hk => ?_, ⟨⟨?_, ?_, ?_⟩, ?_, ?_, ?_⟩, a7, ?_⟩
  · obtain ⟨x, y, z⟩ := h1 j (by omega)
    rw [x, y, z]
    exact a3 j hj
  · obtain ⟨x, y, z⟩ := h1 j (by omega)
    show (fp' (4 * t + j)).toInt.natAbs ≤ 9 ∧ (fq' (4 * t + j)).toInt.natAbs ≤ 9 ∧ (fr' (4 * t + j)).toInt.natAbs ≤ 99
    rw [x, y, z]
    exact a4 j hj
  · rw [h2 k hk]; exact a5 k hk
  · have e := h2 0 (by omega)
    rw [Nat.add_zero, Nat.add_zero] at e
    rw [e]; exact r0
  · rw [h2 1 (by omega)]; exact r1
  · rw [h2 2 (by omega)]; exact r2
  · rw [h2 3 (by omega)]; exact r3
  · rw [h2 4 (by omega)]; exact r4
  · rw [h2 5 (by omega)]; exact r5
  · rw [a8]
    have e : mzL fp' fq' fr' (4 * t) n = mzL fp fq fr (4 * s) n := mz_L_cg (fun j hj => by
      obtain ⟨x, y, z⟩ := h1 j (by omega)
      exact ⟨congrArg Int32.toInt x, congrArg Int32.toInt y, congrArg Int32.toInt z⟩)
    rw [e]
theorem dAt_set {ds : List bDt} {t : Nat} {d : bDt} (ht : t < ds.length) : dAt (ds.set t d) t = d := by
  unfold dAt
  rw [List.getD_eq_getElem?_getD, List.getElem?_set, if_pos rfl, if_pos ht]
  rfl
theorem dAt_ne {ds : List bDt} {t s : Nat} {d : bDt} (h : ¬ s = t) : dAt (ds.set t d) s = dAt ds s := by
  unfold dAt
  rw [List.getD_eq_getElem?_getD, List.getElem?_set, if_neg (fun z => h z.symm), List.getD_eq_getElem?_getD]
theorem m_tr_at (b0 : Nat) : ∀ (k i : Nat) (f : Nat → Int32) (j : Nat), m_tr b0 k i f j = if b0 + i ≤ j ∧ j < b0 + i + k then (if j - b0 = 0 then 1 else if j - b0 = 4 then 1 else 0) else f j := by
  intro k
  induction k with
  | zero => intro i f j; rw [if_neg (by omega)]; rfl
  | succ k ih =>
    intro i f j
    show m_tr b0 k (i + 1) (upd f (b0 + i) (if i = 0 then 1 else if i = 4 then 1 else 0)) j = _
    rw [ih]
    by_cases e : j = b0 + i
    · subst e
      have h1 : ¬ (b0 + (i + 1) ≤ b0 + i ∧ b0 + i < b0 + (i + 1) + k) := by omega
      have h2 : b0 + i ≤ b0 + i ∧ b0 + i < b0 + i + (k + 1) := by omega
      rw [if_neg h1, if_pos h2, pk_us, show b0 + i - b0 = i by omega]
    · rw [pk_un e]
      by_cases c : b0 + (i + 1) ≤ j ∧ j < b0 + (i + 1) + k
      · have h2 : b0 + i ≤ j ∧ j < b0 + i + (k + 1) := by omega
        rw [if_pos c, if_pos h2]
      · rw [if_neg c, if_neg (by omega)]
theorem k_tr {ds : List bDt} {fp fq fr up : Nat → Int32} {dn : Nat → Nat} {nc : Nat} (hQ : QR ds fp fq fr up dn nc) (hl : ds.length = 6) (hc : nc < 6) : QR (ds.set nc (dReset (dAt ds nc))) fp fq fr (m_tr (6 * nc) 6 0 up) (fun t => if t = nc then 0 else dn t) (nc + 1) := by
  intro t ht
  have hup : ∀ k, k < 6 → m_tr (6 * nc) 6 0 up (6 * t + k) = if t = nc then (if k = 0 then 1 else if k = 4 then 1 else 0) else up (6 * t + k) := by
    intro k hk
    rw [m_tr_at]
    by_cases e : t = nc
    · subst e
      rw [if_pos (by omega), if_pos rfl, show 6 * t + k - 6 * t = k by omega]
    · rw [if_neg (by omega), if_neg e]
  by_cases e : t = nc
  · subst e
    rw [dAt_set (by omega)]
    show Rq _ fp fq fr _ t (if t = t then 0 else dn t)
    rw [if_pos rfl]
    have hu : ∀ k, k < 6 → m_tr (6 * t) 6 0 up (6 * t + k) = (if k = 0 then 1 else if k = 4 then 1 else 0) := fun k hk => by rw [hup k hk, if_pos rfl]
    refine ⟨rfl, by omega, fun j hj => absurd hj (Nat.not_lt_zero _), fun j hj => absurd hj (Nat.not_lt_zero _), fun k hk => ?_, ?_, Or.inl rfl, fun _ => ?_, fun _ => rfl⟩
    · rw [hu k hk]
      have h6 : k = 0 ∨ k = 1 ∨ k = 2 ∨ k = 3 ∨ k = 4 ∨ k = 5 := by omega
      rcases h6 with rfl | rfl | rfl | rfl | rfl | rfl <;> rfl
    · have u0 := hu 0 (by omega)
      rw [Nat.add_zero] at u0
      unfold rl
      rw [u0, hu 1 (by omega), hu 2 (by omega), hu 3 (by omega), hu 4 (by omega), hu 5 (by omega)]
      decide
    · exact ⟨0, 0, 1, by omega, fun p q r hm => by
        obtain ⟨l, hl, -⟩ := mz_L_mem.mp hm
        omega⟩
  · rw [dAt_ne e]
    show Rq _ fp fq fr _ t (if t = nc then 0 else dn t)
    rw [if_neg e]
    exact Rq_cg (fun j _ => ⟨rfl, rfl, rfl⟩) (fun k hk => by rw [hup k hk, if_neg e]) (hQ t (by omega))
theorem k_rule {ds : List bDt} {fp fq fr up : Nat → Int32} {dn : Nat → Nat} {nc : Nat} (hQ : QR ds fp fq fr up dn nc) (hl : ds.length = 6) {t w : Nat} (ht : t < nc) (hc : nc ≤ 6) (hw : w < 2) {a b k : Int32} (ha : a.toInt.natAbs ≤ 3) (hb : b.toInt.natAbs ≤ 3) (hk : k.toInt.natAbs ≤ 20) : QR (ds.set t (dRule (dAt ds t) (nI w) a b k)) fp fq fr (m_upd up t w a b k) dn nc := by
  intro s hs
  have hne : ∀ j, ¬ (6 * t + 3 * w ≤ j ∧ j < 6 * t + 3 * w + 3) → m_upd up t w a b k j = up j := fun j hj => by
    unfold m_upd
    rw [pk_un (by omega), pk_un (by omega), pk_un (by omega)]
  by_cases e : s = t
  · subst e
    rw [dAt_set (by omega)]
    obtain ⟨a1, a2, a3, a4, a5, ⟨⟨r0, r1, r2⟩, r3, r4, r5⟩, a7, a8⟩ := hQ s ht
    have h2 : w = 0 ∨ w = 1 := by omega
    rcases h2 with rfl | rfl
    · have e0 : m_upd up s 0 a b k (6 * s) = a := by unfold m_upd; rw [pk_un (by omega), pk_un (by omega)]; exact pk_us
      have e1 : m_upd up s 0 a b k (6 * s + 1) = b := by unfold m_upd; rw [pk_un (by omega)]; exact pk_us
      have e2 : m_upd up s 0 a b k (6 * s + 2) = k := by unfold m_upd; exact pk_us
      refine ⟨a1, a2, a3, a4, fun i hi => ?_, ⟨⟨by rw [e0]; exact ha, by rw [e1]; exact hb, by rw [e2]; exact hk⟩, by rw [hne _ (by omega)]; exact r3, by rw [hne _ (by omega)]; exact r4, by rw [hne _ (by omega)]; exact r5⟩, a7, a8⟩
      have h6 : i = 0 ∨ i = 1 ∨ i = 2 ∨ i = 3 ∨ i = 4 ∨ i = 5 := by omega
      rcases h6 with rfl | rfl | rfl | rfl | rfl | rfl
      · rw [Nat.add_zero, e0]; rfl
      · rw [e1]; rfl
      · rw [e2]; rfl
      · rw [hne _ (by omega)]; exact a5 3 (by omega)
      · rw [hne _ (by omega)]; exact a5 4 (by omega)
      · rw [hne _ (by omega)]; exact a5 5 (by omega)
    · have e0 : m_upd up s 1 a b k (6 * s + 3) = a := by unfold m_upd; rw [pk_un (by omega), pk_un (by omega)]; exact pk_us
      have e1 : m_upd up s 1 a b k (6 * s + 4) = b := by unfold m_upd; rw [pk_un (by omega)]; exact pk_us
      have e2 : m_upd up s 1 a b k (6 * s + 5) = k := by unfold m_upd; exact pk_us
      refine ⟨a1, a2, a3, a4, fun i hi => ?_, ⟨⟨by rw [hne _ (by omega)]; exact r0, by rw [hne _ (by omega)]; exact r1, by rw [hne _ (by omega)]; exact r2⟩, by rw [e0]; exact ha, by rw [e1]; exact hb, by rw [e2]; exact hk⟩, a7, a8⟩
      have h6 : i = 0 ∨ i = 1 ∨ i = 2 ∨ i = 3 ∨ i = 4 ∨ i = 5 := by omega
      rcases h6 with rfl | rfl | rfl | rfl | rfl | rfl
      · rw [hne _ (by omega)]; exact a5 0 (by omega)
      · rw [hne _ (by omega)]; exact a5 1 (by omega)
      · rw [hne _ (by omega)]; exact a5 2 (by omega)
      · rw [e0]; rfl
      · rw [e1]; rfl
      · rw [e2]; rfl
  · rw [dAt_ne e]
    exact Rq_cg (fun j _ => ⟨rfl, rfl, rfl⟩) (fun i hi => hne _ (by omega)) (hQ s hs)
theorem m_s_at (w k : Nat) : ∀ (n i : Nat) (f : Nat → Int32) (j : Nat), i + n ≤ w → m_s w k n i f j = if w * k + i ≤ j ∧ j < w * k + i + n then f (j + w) else f j := by
  intro n
  induction n with
  | zero => intro i f j _; rw [if_neg (by omega)]; rfl
  | succ n ih =>
    intro i f j hw
    show m_s w k n (i + 1) (upd f (w * k + i) (f (w * k + w + i))) j = _
    rw [ih _ _ _ (by omega)]
    by_cases e : j = w * k + i
    · subst e; rw [if_neg (by omega), if_pos (by omega), pk_us, show w * k + w + i = w * k + i + w by omega]
    · rw [pk_un e]
      by_cases c : w * k + (i + 1) ≤ j ∧ j < w * k + (i + 1) + n
      · rw [if_pos c, if_pos (by omega), pk_un (by omega)]
      · rw [if_neg c, if_neg (by omega)]
theorem m_os_at (w : Nat) : ∀ (n k : Nat) (f : Nat → Int32) (j : Nat), m_os w n k f j = if w * k ≤ j ∧ j < w * k + w * n then f (j + w) else f j := by
  intro n
  induction n with
  | zero => intro k f j; rw [if_neg (by rw [Nat.mul_zero]; omega)]; rfl
  | succ n ih =>
    intro k f j
    show m_os w n (k + 1) (m_s w k w 0 f) j = _
    rw [ih, m_s_at w k w 0 f j (by omega), m_s_at w k w 0 f (j + w) (by omega), Nat.mul_add w k 1, Nat.mul_one, Nat.mul_add w n 1, Nat.mul_one]
    by_cases c : w * k + w ≤ j ∧ j < w * k + w + w * n
    · rw [if_pos c, if_neg (by omega), if_pos (by omega)]
    · rw [if_neg c]
      by_cases c2 : w * k + 0 ≤ j ∧ j < w * k + 0 + w
      · rw [if_pos c2, if_pos (by omega)]
      · rw [if_neg c2, if_neg (by omega)]
theorem m_o1_at : ∀ (n k : Nat) (f : Nat → Int32) (j : Nat), m_o1 n k f j = if k ≤ j ∧ j < k + n then f (j + 1) else f j := by
  intro n
  induction n with
  | zero => intro k f j; rw [if_neg (by omega)]; rfl
  | succ n ih =>
    intro k f j
    show m_o1 n (k + 1) (upd f k (f (k + 1))) j = _
    rw [ih]
    by_cases e : j = k
    · subst e; rw [if_neg (by omega), if_pos (by omega), pk_us]
    · rw [pk_un e]
      by_cases c : k + 1 ≤ j ∧ j < k + 1 + n
      · rw [if_pos c, if_pos (by omega), pk_un (by omega)]
      · rw [if_neg c, if_neg (by omega)]
theorem k_rm {ds : List bDt} {fp fq fr up : Nat → Int32} {dn : Nat → Nat} {nc : Nat} (hQ : QR ds fp fq fr up dn nc) (hl : ds.length = 6) {t : Nat} (ht : t < nc) (hc : nc ≤ 6) : QR (dRot ds t (nc - 1)) (m_os 4 (nc - 1 - t) t fp) (m_os 4 (nc - 1 - t) t fq) (m_os 4 (nc - 1 - t) t fr) (m_os 6 (nc - 1 - t) t up) (fun s => if s < t then dn s else dn (s + 1)) (nc - 1) := by
  intro s hs
  have hd : dAt (dRot ds t (nc - 1)) s = dAt ds (if s < t then s else s + 1) := by
    unfold dAt
    rw [List.getD_eq_getElem?_getD, dRot_get (by omega) (by omega), List.getD_eq_getElem?_getD]
    by_cases c : s < t
    · rw [if_pos c, if_pos c]
    · rw [if_neg c, if_neg c, if_pos hs]
  have h4 : ∀ (f : Nat → Int32) (j : Nat), j < 4 → m_os 4 (nc - 1 - t) t f (4 * s + j) = f (4 * (if s < t then s else s + 1) + j) := fun f j hj => by
    rw [m_os_at]
    by_cases c : s < t
    · rw [if_neg (by omega), if_pos c]
    · rw [if_pos (by omega), if_neg c, show 4 * s + j + 4 = 4 * (s + 1) + j by omega]
  have h6 : ∀ (f : Nat → Int32) (j : Nat), j < 6 → m_os 6 (nc - 1 - t) t f (6 * s + j) = f (6 * (if s < t then s else s + 1) + j) := fun f j hj => by
    rw [m_os_at]
    by_cases c : s < t
    · rw [if_neg (by omega), if_pos c]
    · rw [if_pos (by omega), if_neg c, show 6 * s + j + 6 = 6 * (s + 1) + j by omega]
  have hn : (if s < t then dn s else dn (s + 1)) = dn (if s < t then s else s + 1) := by
    by_cases c : s < t
    · rw [if_pos c, if_pos c]
    · rw [if_neg c, if_neg c]
  rw [hd]
  show Rq _ _ _ _ _ s (if s < t then dn s else dn (s + 1))
  rw [hn]
  refine Rq_cg (s := if s < t then s else s + 1) (fun j hj => ⟨h4 fp j hj, h4 fq j hj, h4 fr j hj⟩) (fun k hk => h6 up k hk) (hQ _ ?_)
  by_cases c : s < t
  · rw [if_pos c]; omega
  · rw [if_neg c]; omega
theorem k_gd {ds : List bDt} {fp fq fr up : Nat → Int32} {dn : Nat → Nat} {nc : Nat} (hQ : QR ds fp fq fr up dn nc) (hl : ds.length = 6) {t : Nat} (ht : t < nc) (hc : nc ≤ 6) (h4 : dn t < 4) {a b k : Int32} (ha : a.toInt.natAbs ≤ 9) (hb : b.toInt.natAbs ≤ 9) (hk : k.toInt.natAbs ≤ 99) : QR (ds.set t (dAdd (dAt ds t) a b k)) (upd fp (4 * t + dn t) a) (upd fq (4 * t + dn t) b) (upd fr (4 * t + dn t) k) up (fun s => if s = t then dn t + 1 else dn s) nc := by
  intro s hs
  by_cases e : s = t
  · subst e
    rw [dAt_set (by omega)]
    show Rq _ _ _ _ _ s (if s = s then dn s + 1 else dn s)
    rw [if_pos rfl]
    have hq := hQ s ht
    obtain ⟨a1, a2, a3, a4, a5, a6, a7, a8⟩ := hq
    have lowr : ∀ (f : Nat → Int32) (x : Int32) (j : Nat), j < dn s → upd f (4 * s + dn s) x (4 * s + j) = f (4 * s + j) := fun f x j hj => pk_un (by omega)
    have eL : mz_L (tI (sh (4 * s) (upd fp (4 * s + dn s) a))) (tI (sh (4 * s) (upd fq (4 * s + dn s) b))) (tI (sh (4 * s) (upd fr (4 * s + dn s) k))) (dn s) = mzL fp fq fr (4 * s) (dn s) := mz_L_cg (fun j hj => ⟨congrArg Int32.toInt (lowr fp a j hj), congrArg Int32.toInt (lowr fq b j hj), congrArg Int32.toInt (lowr fr k j hj)⟩)
    have eC : ∀ A B : Int, mz_ca (tI (sh (4 * s) (upd fp (4 * s + dn s) a))) (tI (sh (4 * s) (upd fq (4 * s + dn s) b))) (tI (sh (4 * s) (upd fr (4 * s + dn s) k))) (dn s) A B = mz_ca (tI (sh (4 * s) fp)) (tI (sh (4 * s) fq)) (tI (sh (4 * s) fr)) (dn s) A B := fun A B => mz_ca_cg (fun j hj => ⟨congrArg Int32.toInt (lowr fp a j hj), congrArg Int32.toInt (lowr fq b j hj), congrArg Int32.toInt (lowr fr k j hj)⟩) A B
    have va : v32 (-a) (-a.toInt) 60 := v32_le (v32_neg (v32_of ha) (by decide)) (by decide)
    have vb : v32 (-b) (-b.toInt) 60 := v32_le (v32_neg (v32_of hb) (by decide)) (by decide)
    have vk : v32 (-k) (-k.toInt) 99 := v32_neg (v32_of hk) (by decide)
    have hm := q_max (hQ s ht) va vb
    have z0 := v64_eq hm.2 v64_0
    have z1 := v64_lt hm.1 (v64_mul (v32_64 vk) hm.2 (by decide))
    have n0 : tI (sh (4 * s) (upd fp (4 * s + dn s) a)) (dn s) = a.toInt := congrArg Int32.toInt pk_us
    have n1 : tI (sh (4 * s) (upd fq (4 * s + dn s) b)) (dn s) = b.toInt := congrArg Int32.toInt pk_us
    have n2 : tI (sh (4 * s) (upd fr (4 * s + dn s) k)) (dn s) = k.toInt := congrArg Int32.toInt pk_us
    refine ⟨by show (dAt ds s).2.1.1 + 1 = _; rw [a1], by omega, fun j hj => ?_, fun j hj => ?_, a5, a6, g_em_01 _ _ _ _ _ _ _ _ a7, ?_⟩
    · show upd (dAt ds s).1.1 (dAt ds s).2.1.1 a j = _ ∧ upd (dAt ds s).1.2.1 (dAt ds s).2.1.1 b j = _ ∧ upd (dAt ds s).1.2.2 (dAt ds s).2.1.1 k j = _
      rw [a1]
      by_cases ej : j = dn s
      · subst ej
        rw [pk_us, pk_us, pk_us, pk_us, pk_us, pk_us]
        exact ⟨rfl, rfl, rfl⟩
      · rw [pk_un ej, pk_un ej, pk_un ej, lowr fp a j (by omega), lowr fq b j (by omega), lowr fr k j (by omega)]
        exact a3 j (by omega)
    · show (upd fp (4 * s + dn s) a (4 * s + j)).toInt.natAbs ≤ 9 ∧ (upd fq (4 * s + dn s) b (4 * s + j)).toInt.natAbs ≤ 9 ∧ (upd fr (4 * s + dn s) k (4 * s + j)).toInt.natAbs ≤ 99
      by_cases ej : j = dn s
      · subst ej
        rw [pk_us, pk_us, pk_us]
        exact ⟨ha, hb, hk⟩
      · rw [lowr fp a j (by omega), lowr fq b j (by omega), lowr fr k j (by omega)]
        exact a4 j (by omega)
    · show g_em (dAt ds s).1.1 (dAt ds s).1.2.1 (dAt ds s).1.2.2 (dAt ds s).2.1.1 (dAt ds s).2.1.2 a b k = 0 ↔ _
      unfold g_em
      by_cases c : (dAt ds s).2.1.2 = 0
      · rw [if_pos c]
        have hF := a8.mp c
        rw [← eL] at hF
        rw [mz_add hF, n0, n1, n2, eC]
        by_cases c1 : (g_max (dAt ds s).1.1 (dAt ds s).1.2.1 (dAt ds s).1.2.2 (dAt ds s).2.1.1 (-a) (-b)).2 = 0
        · rw [if_pos c1]
          exact ⟨fun _ z => z.1 (z0.mp c1), fun _ => rfl⟩
        · rw [if_neg c1]
          by_cases c2 : (g_max (dAt ds s).1.1 (dAt ds s).1.2.1 (dAt ds s).1.2.2 (dAt ds s).2.1.1 (-a) (-b)).1 < (-k).toInt64 * (g_max (dAt ds s).1.1 (dAt ds s).1.2.1 (dAt ds s).1.2.2 (dAt ds s).2.1.1 (-a) (-b)).2
          · rw [if_pos c2]
            exact ⟨fun z => absurd z (by decide), fun z => absurd ⟨fun w => c1 (z0.mpr w), z1.mp c2⟩ z⟩
          · rw [if_neg c2]
            exact ⟨fun _ z => c2 (z1.mpr z.2), fun _ => rfl⟩
      · rw [if_neg c]
        refine ⟨fun z => absurd z c, fun z => ?_⟩
        obtain ⟨X, Y, D, hD, hf⟩ := z
        refine a8.mpr ⟨X, Y, D, hD, ?_⟩
        rw [← eL]
        intro p q r hm
        obtain ⟨l, hl, rfl, rfl, rfl⟩ := mz_L_mem.mp hm
        exact hf _ _ _ (mz_L_mem.mpr ⟨l, by omega, rfl, rfl, rfl⟩)
  · rw [dAt_ne e]
    show Rq _ _ _ _ _ s (if s = t then dn t + 1 else dn s)
    rw [if_neg e]
    have hb4 := (hQ s hs).2.1
    exact Rq_cg (fun j hj => ⟨pk_un (by omega), pk_un (by omega), pk_un (by omega)⟩) (fun i hi => rfl) (hQ s hs)
