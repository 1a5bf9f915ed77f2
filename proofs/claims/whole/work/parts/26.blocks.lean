/-! The six transitions of the class: blocks of seven cells, in any order -/
abbrev bT : Type := (Nat → Nat) × ((Nat → Int32) × (Nat → Int32) × (Nat → Int32)) × (Nat × Int32) × (Int64 × Int64) × ((Nat → Int32) × (Nat → Int32) × Int32)
abbrev bW (cI : ClassId) (b : bT) : va_W := sW cI (b.1 0) (b.1 1) (b.1 2) (b.1 3) (b.1 4) (b.1 5) (b.1 6) b.2.1.1 b.2.1.2.1 b.2.1.2.2 b.2.2.1.1 b.2.2.1.2 b.2.2.2.1.1 b.2.2.2.1.2 b.2.2.2.2.1 b.2.2.2.2.2.1 b.2.2.2.2.2.2
def fW (cI : ClassId) (bs : List bT) : va_W := bs.flatMap (bW cI)
def bF (bs : List bT) : Nat → Option Nat := fun k => (bs[k]?).map (fun b => b.1 0)
theorem bF_at {bs : List bT} {k : Nat} {b : bT} (h : bs[k]? = some b) : bF bs k = some (b.1 0) := by unfold bF; rw [h]; rfl
theorem bs_get {bs : List bT} {k : Nat} (hl : bs.length = 6) (hk : k < 6) : ∃ b, bs[k]? = some b := ⟨_, List.getElem?_eq_getElem (by omega)⟩
theorem wb_cut {D : va_G} {cl : List vw_C} {cI : ClassId} {pre : va_W} {bs : List bT} {H : Heap} {k : Nat} {b : bT} (h : va_P D cl (pre ++ fW cI bs) H) (hb : bs[k]? = some b) : va_P D cl (bW cI b) H :=
  wk_P.mpr (fun q hq => wk_P.mp h q (List.mem_append_right _ (List.mem_flatMap.mpr ⟨b, List.mem_of_getElem? hb, hq⟩)))
theorem wb_split {bs : List bT} {k : Nat} {b : bT} (hb : bs[k]? = some b) : ∃ l1 l2 : List bT, bs = l1 ++ b :: l2 ∧ l1.length = k := by
  obtain ⟨hk, rfl⟩ := List.getElem?_eq_some_iff.mp hb
  refine ⟨bs.take k, bs.drop (k + 1), ?_, by rw [List.length_take]; omega⟩
  rw [← List.drop_eq_getElem_cons hk, List.take_append_drop]
theorem wb_eq {cI : ClassId} {bs l1 l2 : List bT} {b : bT} {s1 wc s2 : va_W} (h : bs = l1 ++ b :: l2) (hseg : bW cI b = s1 ++ (wc ++ s2)) (pre : va_W) : pre ++ fW cI bs = ((pre ++ fW cI l1) ++ s1) ++ (wc ++ (s2 ++ fW cI l2)) := by
  subst h
  unfold fW
  rw [List.flatMap_append, List.flatMap_cons, hseg]
  simp only [List.append_assoc]
theorem wb_set {cI : ClassId} {bs l1 l2 : List bT} {b b' : bT} {k : Nat} {s1 wn s2 : va_W} (h : bs = l1 ++ b :: l2) (hl : l1.length = k) (hseg : bW cI b' = s1 ++ (wn ++ s2)) (pre : va_W) : pre ++ fW cI (bs.set k b') = ((pre ++ fW cI l1) ++ s1) ++ (wn ++ (s2 ++ fW cI l2)) := by
  refine wb_eq (b := b') ?_ hseg pre
  rw [h, ← hl, List.set_append_right _ _ (Nat.le_refl _), Nat.sub_self]
  rfl
section WB
variable {p : Program} {l : Launch} {e : Env} {R : Room} {s : State} {m : MethodId} {args : Array Value} {below : List Frame} {meth : Method} {c : Code} {H : Heap} {locs : List Loc} {cells slots : Nat} {Q : State → Prop}
variable {D : va_G} {cl : List vw_C} {tys : List (ClassId × FieldType)} {nz Ts : List Cond} {A : Nat → Prop} {wc s1 s2 : va_W} {Pw : va_W → Prop} {cc : ByteArray} {pc nL : Nat} {own : String} {ls : Array Slot} {rest st0 : List Value} {cI : ClassId} {bs : List bT} {bk : Nat} {b : bT}
theorem wb_Nv {y : MethodName} {bytes : ByteArray} {maxL n index : Nat} {ret : Option FieldType} {rm : Room} {host : String} (As : List Value) {ad : Nat} {q : vw_C} {fs : List Value} (ci q0 : Nat) (X : wk_X p s m args meth c cc own nL Ts D cl tys nz A) (hn : ∀ w ∈ nz, wk_nest w) (hM : wk_kv l y (Cond.code y bytes maxL ret :: Ts) rm D cl tys nz (.ref ad :: As) wc Pw) (cw : va_CN R s args own index y host bytes maxL ret (Cond.code y bytes maxL ret :: Ts) rm 0 0 n ∧ (Cond.instanceMethod y).before args s = true ∧ (Cond.selects q.1 y y).before args s = true) (pre : va_W) (hb : bs[bk]? = some b) (s1 s2 : va_W) (hseg : bW cI b = s1 ++ (wc ++ s2)) (hP : va_P D cl (pre ++ fW cI bs) H) (hD : va_D A (pre ++ fW cI bs)) (hS : va_S A s.heap H locs) (hc : cl[ci]? = some q) (he : wc[q0]? = some (ad, .inr (ci, fs))) (hst : st0 = As.reverse ++ .ref ad :: rest) (hlen : As.length = n) (hsize : ls.size = nL) (hroom : (rest.map fun v => v.category).sum ≤ 8) (hf : cells ≤ R.cells ∧ slots ≤ R.slots) (hdg : decode cc pc = .ok (.invokevirtual index, 3))
    (kk : ∀ (H1 : Heap) (locs1 : List Loc) (wn : va_W), Pw wn → (∀ b', bW cI b' = s1 ++ (wn ++ s2) → va_P D cl (pre ++ fW cI (bs.set bk b')) H1 ∧ va_D A (pre ++ fW cI (bs.set bk b'))) → va_S A s.heap H1 locs1 → W p l e R s m args below meth c H1 locs1 cells slots Q (F0 m (pc + 3) ls rest)) : W p l e R s m args below meth c H locs cells slots Q (F0 m pc ls st0) := by
  obtain ⟨l1, l2, h1, h2⟩ := wb_split hb
  refine wc_Nv As ci q0 X hn hM cw ((pre ++ fW cI l1) ++ s1) (s2 ++ fW cI l2) (wb_eq h1 hseg pre) hP hD hS hc he hst hlen hsize hroom hf hdg (fun H1 locs1 wn hw hP1 hD1 hS1 => kk H1 locs1 wn hw (fun b' hb' => ?_) hS1)
  rw [wb_set h1 h2 hb' pre]
  exact ⟨hP1, hD1⟩
theorem wb_Ni {y : MethodName} {bytes : ByteArray} {maxL n index : Nat} {ret : Option FieldType} {rm : Room} {host : String} {r : Int32} (As : List Value) {ad : Nat} {q : vw_C} {fs : List Value} (ci q0 : Nat) (X : wk_X p s m args meth c cc own nL Ts D cl tys nz A) (hn : ∀ w ∈ nz, wk_nest w) (hM : wk_ki l y (Cond.code y bytes maxL ret :: Ts) rm D cl tys nz (.ref ad :: As) wc Pw r) (cw : va_CN R s args own index y host bytes maxL ret (Cond.code y bytes maxL ret :: Ts) rm 0 0 n ∧ (Cond.instanceMethod y).before args s = true ∧ (Cond.selects q.1 y y).before args s = true) (pre : va_W) (hb : bs[bk]? = some b) (s1 s2 : va_W) (hseg : bW cI b = s1 ++ (wc ++ s2)) (hP : va_P D cl (pre ++ fW cI bs) H) (hD : va_D A (pre ++ fW cI bs)) (hS : va_S A s.heap H locs) (hc : cl[ci]? = some q) (he : wc[q0]? = some (ad, .inr (ci, fs))) (hst : st0 = As.reverse ++ .ref ad :: rest) (hlen : As.length = n) (hsize : ls.size = nL) (hroom : (rest.map fun v => v.category).sum ≤ 8) (hf : cells ≤ R.cells ∧ slots ≤ R.slots) (hdg : decode cc pc = .ok (.invokevirtual index, 3))
    (kk : ∀ (H1 : Heap) (locs1 : List Loc) (wn : va_W), Pw wn → (∀ b', bW cI b' = s1 ++ (wn ++ s2) → va_P D cl (pre ++ fW cI (bs.set bk b')) H1 ∧ va_D A (pre ++ fW cI (bs.set bk b'))) → va_S A s.heap H1 locs1 → W p l e R s m args below meth c H1 locs1 cells slots Q (F0 m (pc + 3) ls (.int r :: rest))) : W p l e R s m args below meth c H locs cells slots Q (F0 m pc ls st0) := by
  obtain ⟨l1, l2, h1, h2⟩ := wb_split hb
  refine wc_Ni As ci q0 X hn hM cw ((pre ++ fW cI l1) ++ s1) (s2 ++ fW cI l2) (wb_eq h1 hseg pre) hP hD hS hc he hst hlen hsize hroom hf hdg (fun H1 locs1 wn hw hP1 hD1 hS1 => kk H1 locs1 wn hw (fun b' hb' => ?_) hS1)
  rw [wb_set h1 h2 hb' pre]
  exact ⟨hP1, hD1⟩
theorem wb_Nl {y : MethodName} {bytes : ByteArray} {maxL n index : Nat} {ret : Option FieldType} {rm : Room} {host : String} {r : Int64} (As : List Value) {ad : Nat} {q : vw_C} {fs : List Value} (ci q0 : Nat) (X : wk_X p s m args meth c cc own nL Ts D cl tys nz A) (hn : ∀ w ∈ nz, wk_nest w) (hM : wk_kl l y (Cond.code y bytes maxL ret :: Ts) rm D cl tys nz (.ref ad :: As) wc Pw r) (cw : va_CN R s args own index y host bytes maxL ret (Cond.code y bytes maxL ret :: Ts) rm 0 0 n ∧ (Cond.instanceMethod y).before args s = true ∧ (Cond.selects q.1 y y).before args s = true) (pre : va_W) (hb : bs[bk]? = some b) (s1 s2 : va_W) (hseg : bW cI b = s1 ++ (wc ++ s2)) (hP : va_P D cl (pre ++ fW cI bs) H) (hD : va_D A (pre ++ fW cI bs)) (hS : va_S A s.heap H locs) (hc : cl[ci]? = some q) (he : wc[q0]? = some (ad, .inr (ci, fs))) (hst : st0 = As.reverse ++ .ref ad :: rest) (hlen : As.length = n) (hsize : ls.size = nL) (hroom : (rest.map fun v => v.category).sum ≤ 8) (hf : cells ≤ R.cells ∧ slots ≤ R.slots) (hdg : decode cc pc = .ok (.invokevirtual index, 3))
    (kk : ∀ (H1 : Heap) (locs1 : List Loc) (wn : va_W), Pw wn → (∀ b', bW cI b' = s1 ++ (wn ++ s2) → va_P D cl (pre ++ fW cI (bs.set bk b')) H1 ∧ va_D A (pre ++ fW cI (bs.set bk b'))) → va_S A s.heap H1 locs1 → W p l e R s m args below meth c H1 locs1 cells slots Q (F0 m (pc + 3) ls (.long r :: rest))) : W p l e R s m args below meth c H locs cells slots Q (F0 m pc ls st0) := by
  obtain ⟨l1, l2, h1, h2⟩ := wb_split hb
  refine wc_Nl As ci q0 X hn hM cw ((pre ++ fW cI l1) ++ s1) (s2 ++ fW cI l2) (wb_eq h1 hseg pre) hP hD hS hc he hst hlen hsize hroom hf hdg (fun H1 locs1 wn hw hP1 hD1 hS1 => kk H1 locs1 wn hw (fun b' hb' => ?_) hS1)
  rw [wb_set h1 h2 hb' pre]
  exact ⟨hP1, hD1⟩
/-- a call that takes the block and two cells of the prefix -/
theorem wb_F {y : MethodName} {bytes : ByteArray} {maxL n index : Nat} {ret : Option FieldType} {rm : Room} {host : String} (As : List Value) {ad : Nat} {q : vw_C} {fs : List Value} (ci q0 : Nat) (X : wk_X p s m args meth c cc own nL Ts D cl tys nz A) (hn : ∀ w ∈ nz, wk_nest w) (pa pu pb : va_W) (hM : wk_kv l y (Cond.code y bytes maxL ret :: Ts) rm D cl tys nz (.ref ad :: As) (bW cI b ++ pu) Pw) (cw : va_CN R s args own index y host bytes maxL ret (Cond.code y bytes maxL ret :: Ts) rm 0 0 n ∧ (Cond.instanceMethod y).before args s = true ∧ (Cond.selects q.1 y y).before args s = true) (hb : bs[bk]? = some b) (hP : va_P D cl (pa ++ (pu ++ (pb ++ fW cI bs))) H) (hD : va_D A (pa ++ (pu ++ (pb ++ fW cI bs)))) (hS : va_S A s.heap H locs) (hc : cl[ci]? = some q) (he : (bW cI b ++ pu)[q0]? = some (ad, .inr (ci, fs))) (hst : st0 = As.reverse ++ .ref ad :: rest) (hlen : As.length = n) (hsize : ls.size = nL) (hroom : (rest.map fun v => v.category).sum ≤ 8) (hf : cells ≤ R.cells ∧ slots ≤ R.slots) (hdg : decode cc pc = .ok (.invokevirtual index, 3))
    (kk : ∀ (H1 : Heap) (locs1 : List Loc) (wn : va_W), Pw wn → (∀ b', bW cI b' ++ pu = wn → va_P D cl (pa ++ (pu ++ (pb ++ fW cI (bs.set bk b')))) H1 ∧ va_D A (pa ++ (pu ++ (pb ++ fW cI (bs.set bk b'))))) → va_S A s.heap H1 locs1 → W p l e R s m args below meth c H1 locs1 cells slots Q (F0 m (pc + 3) ls rest)) : W p l e R s m args below meth c H locs cells slots Q (F0 m pc ls st0) := by
  obtain ⟨l1, l2, h1, h2⟩ := wb_split hb
  have hperm : ∀ (b' : bT) (bs' : List bT), bs' = l1 ++ b' :: l2 → (pa ++ (pu ++ (pb ++ fW cI bs'))).Perm ((pa ++ (pb ++ fW cI l1)) ++ ((bW cI b' ++ pu) ++ fW cI l2)) := by
    intro b' bs' h
    have e1 : pa ++ (pu ++ (pb ++ fW cI bs')) = pa ++ ((pu ++ (pb ++ fW cI l1 ++ bW cI b')) ++ fW cI l2) := by
      subst h
      unfold fW
      rw [List.flatMap_append, List.flatMap_cons]
      simp only [List.append_assoc]
    have e2 : (pa ++ (pb ++ fW cI l1)) ++ ((bW cI b' ++ pu) ++ fW cI l2) = pa ++ (((pb ++ fW cI l1 ++ bW cI b') ++ pu) ++ fW cI l2) := by simp only [List.append_assoc]
    rw [e1, e2]
    exact List.Perm.append_left pa (List.Perm.append_right _ List.perm_append_comm)
  refine wc_Nv As ci q0 X hn hM cw (pa ++ (pb ++ fW cI l1)) (fW cI l2) rfl (wk_permP hP (hperm b bs h1).symm) (wk_permD hD (hperm b bs h1).symm) hS hc he hst hlen hsize hroom hf hdg (fun H1 locs1 wn hw hP1 hD1 hS1 => kk H1 locs1 wn hw (fun b' hb' => ?_) hS1)
  subst hb'
  have hs : bs.set bk b' = l1 ++ b' :: l2 := by
    rw [h1, ← h2, List.set_append_right _ _ (Nat.le_refl _), Nat.sub_self]
    rfl
  exact ⟨wk_permP hP1 (hperm b' _ hs), wk_permD hD1 (hperm b' _ hs)⟩
end WB
/-- the class's transitions without what is only scratch: rows, number of rows, emptiness, rule -/
abbrev bDt : Type := ((Nat → Int32) × (Nat → Int32) × (Nat → Int32)) × (Nat × Int32) × (Nat → Int32)
def bD (b : bT) : bDt := (b.2.1, b.2.2.1, b.2.2.2.2.1)
def bS (b : bT) (t c : Int64) : bT := (b.1, b.2.1, b.2.2.1, (t, c), b.2.2.2.2)
def bK (b : bT) (kd : Nat → Int32) (t c : Int64) : bT := (b.1, b.2.1, b.2.2.1, (t, c), (b.2.2.2.2.1, kd, 1))
def dKind (d : bDt) (u v : Int32) : Int32 := s_kind d.1.1 d.1.2.1 d.1.2.2 d.2.1.1 d.2.1.2 d.2.2 u v
/-- what holds of every block: at most four rows; what is kept of the functions' kinds is right -/
def bOK (us vs : Nat → Int32) (b : bT) : Prop := b.2.2.1.1 ≤ 4 ∧ (b.2.2.1.2 = 0 ∨ b.2.2.1.2 = 1) ∧ (¬ b.2.2.2.2.2.2 = 0 → b.2.2.2.2.2.2 = 1) ∧ (¬ b.2.2.2.2.2.2 = 0 → ∀ x, x < 80 → b.2.2.2.2.2.1 x = dKind (bD b) (us x) (vs x))
def bsOK (us vs : Nat → Int32) (bs : List bT) : Prop := bs.length = 6 ∧ ∀ (k : Nat) (b : bT), bs[k]? = some b → bOK us vs b
theorem bOK_S {us vs : Nat → Int32} {b : bT} (h : bOK us vs b) (t c : Int64) : bOK us vs (bS b t c) := h
theorem bOK_K {us vs : Nat → Int32} {b : bT} (h : bOK us vs b) (kd : Nat → Int32) (t c : Int64) (hk : ∀ x, x < 80 → kd x = dKind (bD b) (us x) (vs x)) : bOK us vs (bK b kd t c) := ⟨h.1, h.2.1, fun _ => rfl, fun _ => hk⟩
theorem bsOK_set {us vs : Nat → Int32} {bs : List bT} (h : bsOK us vs bs) (k : Nat) {b : bT} (hb : bOK us vs b) : bsOK us vs (bs.set k b) := by
  refine ⟨by rw [List.length_set]; exact h.1, fun j b' hj => ?_⟩
  rw [List.getElem?_set] at hj
  split at hj
  · split at hj
    · cases hj; exact hb
    · cases hj
  · exact h.2 j b' hj
theorem bD_set {bs : List bT} {k : Nat} {b b' : bT} (h : bs[k]? = some b) (e : bD b' = bD b) : (bs.set k b').map bD = bs.map bD := by
  refine List.ext_getElem? (fun j => ?_)
  rw [List.getElem?_map, List.getElem?_map, List.getElem?_set]
  by_cases c : k = j
  · subst c
    have hk := (List.getElem?_eq_some_iff.mp h).1
    rw [if_pos rfl, if_pos hk, h]
    show some (bD b') = some (bD b)
    rw [e]
  · rw [if_neg c]
theorem bD_at {bs bs' : List bT} (h : bs'.map bD = bs.map bD) {k : Nat} {b b' : bT} (hb : bs[k]? = some b) (hb' : bs'[k]? = some b') : bD b' = bD b := by
  have e := congrArg (fun z => z[k]?) h
  simp only [List.getElem?_map, hb, hb', Option.map_some] at e
  exact Option.some.inj e
