/-! remove: the blocks behind it move up, it goes behind them -/
def dRot {α : Type} (l : List α) (t n : Nat) : List α := l.take t ++ (((l.drop (t + 1)).take (n - t) ++ (l.drop t).take 1) ++ l.drop (n + 1))
theorem dRot_get {α : Type} {l : List α} {t n : Nat} (ht : t ≤ n) (hn : n < l.length) (j : Nat) : (dRot l t n)[j]? = if j < t then l[j]? else if j < n then l[j + 1]? else if j = n then l[t]? else l[j]? := by
  unfold dRot
  have l1 : (l.take t).length = t := by rw [List.length_take]; omega
  have l2 : ((l.drop (t + 1)).take (n - t)).length = n - t := by rw [List.length_take, List.length_drop]; omega
  have l3 : ((l.drop t).take 1).length = 1 := by rw [List.length_take, List.length_drop]; omega
  by_cases h1 : j < t
  · rw [if_pos h1, List.getElem?_append_left (by omega), List.getElem?_take_of_lt h1]
  · rw [if_neg h1, List.getElem?_append_right (by omega), l1]
    by_cases h2 : j < n
    · rw [if_pos h2, List.getElem?_append_left (by rw [List.length_append]; omega), List.getElem?_append_left (by omega), List.getElem?_take_of_lt (by omega), List.getElem?_drop, show t + 1 + (j - t) = j + 1 by omega]
    · rw [if_neg h2]
      by_cases h3 : j = n
      · subst h3
        rw [if_pos rfl, List.getElem?_append_left (by rw [List.length_append]; omega), List.getElem?_append_right (by omega), l2, Nat.sub_self, List.getElem?_take_of_lt (by omega), List.getElem?_drop, Nat.add_zero]
      · rw [if_neg h3, List.getElem?_append_right (by rw [List.length_append]; omega), List.length_append, l2, l3, List.getElem?_drop, show n + 1 + (j - t - (n - t + 1)) = j by omega]
theorem dRot_perm {α : Type} {l : List α} {t n : Nat} (ht : t ≤ n) (hn : n < l.length) : (dRot l t n).Perm l := by
  have ht' : t < l.length := by omega
  have e1 : (l.drop (t + 1)).take (n - t) ++ l.drop (n + 1) = l.drop (t + 1) := by
    have e : l.drop (n + 1) = (l.drop (t + 1)).drop (n - t) := by rw [List.drop_drop, show t + 1 + (n - t) = n + 1 by omega]
    rw [e, List.take_append_drop]
  have h1 : (l.drop t).take 1 = [l[t]] := by rw [List.drop_eq_getElem_cons ht']; rfl
  have h2 : l.take t ++ (l[t] :: ((l.drop (t + 1)).take (n - t) ++ l.drop (n + 1))) = l := by
    rw [e1, ← List.drop_eq_getElem_cons ht', List.take_append_drop]
  have h3 : (dRot l t n).Perm (l.take t ++ (l[t] :: ((l.drop (t + 1)).take (n - t) ++ l.drop (n + 1)))) := by
    unfold dRot
    rw [h1, List.append_assoc ((l.drop (t + 1)).take (n - t))]
    exact List.Perm.append_left _ List.perm_middle
  rw [h2] at h3
  exact h3
theorem dRot_map {α β : Type} (f : α → β) (l : List α) (t n : Nat) : (dRot l t n).map f = dRot (l.map f) t n := by
  unfold dRot
  rw [List.map_append, List.map_append, List.map_append, List.map_take, List.map_take, List.map_take, List.map_drop, List.map_drop, List.map_drop]
theorem rot_P {D : va_G} {cl : List vw_C} {cI : ClassId} {pre : va_W} {bs : List bT} {H : Heap} {t n : Nat} (ht : t ≤ n) (hn : n < bs.length) (h : va_P D cl (pre ++ fW cI bs) H) : va_P D cl (pre ++ fW cI (dRot bs t n)) H :=
  wk_permP h (List.Perm.append_left _ (List.Perm.flatMap_right _ (dRot_perm ht hn)))
theorem rot_D {A : Nat → Prop} {cI : ClassId} {pre : va_W} {bs : List bT} {t n : Nat} (ht : t ≤ n) (hn : n < bs.length) (h : va_D A (pre ++ fW cI bs)) : va_D A (pre ++ fW cI (dRot bs t n)) :=
  wk_permD h (List.Perm.append_left _ (List.Perm.flatMap_right _ (dRot_perm ht hn)))
theorem rot_OK {us vs : Nat → Int32} {bs : List bT} {t n : Nat} (ht : t ≤ n) (hn : n < 6) (h : bsOK us vs bs) : bsOK us vs (dRot bs t n) := by
  have hn' : n < bs.length := by rw [h.1]; exact hn
  refine ⟨by rw [(dRot_perm ht hn').length_eq]; exact h.1, fun k b hb => ?_⟩
  have hm : b ∈ bs := (dRot_perm ht hn').mem_iff.mp (List.mem_of_getElem? hb)
  obtain ⟨j, hj⟩ := List.mem_iff_getElem?.mp hm
  exact h.2 j b hj
theorem wb_pos {cI : ClassId} {bs : List bT} {k : Nat} {b : bT} (hb : bs[k]? = some b) (pre : va_W) : ∃ q : Nat, (pre ++ fW cI bs)[q]? = some (b.1 0, .inr (1, [.ref (b.1 1), .ref (b.1 5), .ref (b.1 6), .int b.2.2.2.2.2.2])) :=
  List.mem_iff_getElem?.mp (List.mem_append_right _ (List.mem_flatMap.mpr ⟨b, List.mem_of_getElem? hb, List.mem_cons_self⟩))
def r_sg (bs : List bT) (t i : Nat) (sg : Nat → Option Nat) : Prop := ∀ j, sg j = if t ≤ j ∧ j + 1 < i then bF bs (j + 1) else bF bs j
theorem r_sg_0 (bs : List bT) (t : Nat) : r_sg bs t (t + 1) (bF bs) := fun j => by rw [if_neg (by omega)]
theorem r_sg_s {bs : List bT} {t i : Nat} {sg : Nat → Option Nat} {b : bT} (h : r_sg bs t i sg) (hi : t < i) (hb : bs[i]? = some b) : r_sg bs t (i + 1) (va_up sg (i - 1) (some (b.1 0))) := by
  intro j
  by_cases e : j = i - 1
  · subst e
    rw [va_up_self, if_pos (by omega), show i - 1 + 1 = i by omega, bF_at hb]
  · rw [va_up_ne _ _ e, h j]
    by_cases c : t ≤ j ∧ j + 1 < i
    · rw [if_pos c, if_pos (by omega)]
    · rw [if_neg c, if_neg (by omega)]
theorem r_sg_e {bs : List bT} {t sc : Nat} {sg : Nat → Option Nat} {b : bT} (h : r_sg bs t sc sg) (ht : t < sc) (hl : sc ≤ bs.length) (hb : bs[t]? = some b) : va_up sg (sc - 1) (some (b.1 0)) = bF (dRot bs t (sc - 1)) := by
  funext j
  have hg : bF (dRot bs t (sc - 1)) j = ((if j < t then bs[j]? else if j < sc - 1 then bs[j + 1]? else if j = sc - 1 then bs[t]? else bs[j]?).map (fun b => b.1 0)) := by
    unfold bF
    rw [dRot_get (by omega) (by omega)]
  rw [hg]
  by_cases e : j = sc - 1
  · subst e
    rw [va_up_self, if_neg (by omega), if_neg (by omega), if_pos rfl, hb]
    rfl
  · rw [va_up_ne _ _ e, h j]
    by_cases c1 : j < t
    · rw [if_pos c1, if_neg (by omega)]; rfl
    · rw [if_neg c1]
      by_cases c2 : j < sc - 1
      · rw [if_pos c2, if_pos (by omega)]; rfl
      · rw [if_neg c2, if_neg e, if_neg (by omega)]; rfl
abbrev rV (cI cJ cS : ClassId) (lr sa po u1 u2 l1 l2 l3 l4 : Nat) (us vs lu lw : Nat → Int32) (lf : Nat → Int64) (lo : Nat → Int32) (lc ln : Nat) (fs : Int32) (sg : Nat → Option Nat) (bs : List bT) (sc : Nat) (x y : Int64) (fd : Int32) : va_W :=
  [(lr, .inr (3, [.ref sa, .ref po, .int (nI sc), .long x, .long y, .int fd])), (sa, .inl (cS, 6, .inr (.inr (.inr (.inr sg))))), (po, .inr (2, [.ref u1, .ref u2, .ref l1, .ref l2, .ref l3, .ref l4, .int (nI lc), .int (nI ln), .int fs])), (u1, .inl (cI, 80, .inl us)), (u2, .inl (cI, 80, .inl vs)), (l1, .inl (cI, 6, .inl lu)), (l2, .inl (cI, 6, .inl lw)), (l3, .inl (cJ, 6, .inr (.inl lf))), (l4, .inl (cI, 6, .inl lo))] ++ fW cI bs
