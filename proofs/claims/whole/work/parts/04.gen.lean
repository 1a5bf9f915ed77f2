/-! Worlds cut and joined again, in any place; contracts of one form -/
theorem wk_P {D : va_G} {cl : List vw_C} {ws : va_W} {H : Heap} : va_P D cl ws H ↔ ∀ q ∈ ws, va_at D cl q H :=
  ⟨fun h q hq => by obtain ⟨k, hk⟩ := List.mem_iff_getElem?.mp hq; exact h k q hk, fun h k q hk => h q (List.mem_of_getElem? hk)⟩
theorem wk_D {A : Nat → Prop} {ws : va_W} : va_D A ws ↔ ws.Pairwise (fun a b => a.1 ≠ b.1) ∧ ∀ q ∈ ws, A q.1 := by
  constructor
  · intro h
    refine ⟨List.pairwise_iff_getElem.mpr (fun i j hi hj hij e => ?_), fun q hq => ?_⟩
    · have := h.1 i j _ _ (List.getElem?_eq_getElem hi) (List.getElem?_eq_getElem hj) e
      omega
    · obtain ⟨k, hk⟩ := List.mem_iff_getElem?.mp hq
      exact h.2 k q hk
  · intro h
    refine ⟨fun i j p q hi hj e => ?_, fun k q hk => h.2 q (List.mem_of_getElem? hk)⟩
    obtain ⟨hi', rfl⟩ := List.getElem?_eq_some_iff.mp hi
    obtain ⟨hj', rfl⟩ := List.getElem?_eq_some_iff.mp hj
    have h1 := List.pairwise_iff_getElem.mp h.1
    rcases Nat.lt_trichotomy i j with z | z | z
    · exact absurd e (h1 i j hi' hj' z)
    · exact z
    · exact absurd e.symm (h1 j i hj' hi' z)
theorem wk_A {ws : va_W} {sz q : Nat} : va_A ws sz q ↔ (∃ x ∈ ws, x.1 = q) ∨ sz ≤ q := by
  constructor
  · rintro (⟨k, e, h⟩ | h)
    · exact Or.inl ⟨_, List.mem_of_getElem? h, rfl⟩
    · exact Or.inr h
  · rintro (⟨x, h, rfl⟩ | h)
    · obtain ⟨k, hk⟩ := List.mem_iff_getElem?.mp h
      exact Or.inl ⟨k, x.2, hk⟩
    · exact Or.inr h
theorem wk_cutP {D : va_G} {cl : List vw_C} {w1 wc w2 : va_W} {H : Heap} (h : va_P D cl (w1 ++ (wc ++ w2)) H) : va_P D cl wc H :=
  wk_P.mpr (fun q hq => wk_P.mp h q (List.mem_append_right _ (List.mem_append_left _ hq)))
theorem wk_cutD {A : Nat → Prop} {w1 wc w2 : va_W} (h : va_D A (w1 ++ (wc ++ w2))) : va_D A wc := by
  have h1 := wk_D.mp h
  refine wk_D.mpr ⟨?_, fun q hq => h1.2 q (List.mem_append_right _ (List.mem_append_left _ hq))⟩
  exact (List.pairwise_append.mp (List.pairwise_append.mp h1.1).2.1).1
theorem wk_free {A0 : Nat → Prop} {w1 wc w2 : va_W} {H0 H : Heap} {locs : List Loc} (hD : va_D A0 (w1 ++ (wc ++ w2))) (hS : va_S A0 H0 H locs) (hA : ∀ q, H0.size ≤ q → A0 q) : ∀ q, va_A wc H.size q → A0 q := by
  intro q h
  rcases wk_A.mp h with ⟨x, hx, rfl⟩ | h
  · exact (wk_D.mp hD).2 x (List.mem_append_right _ (List.mem_append_left _ hx))
  · exact hA q (Nat.le_trans hS.1 h)
theorem wk_join {A0 : Nat → Prop} {D : va_G} {cl : List vw_C} {w1 wc w2 wn : va_W} {H H1 : Heap} (hP : va_P D cl (w1 ++ (wc ++ w2)) H) (hD : va_D A0 (w1 ++ (wc ++ w2)))
    (hk : ∀ q : Nat, q < H.size → ¬ va_A wc H.size q → H1[q]? = H[q]?) (hF : ∀ q, va_A wc H.size q → A0 q) (hP1 : va_P D cl wn H1) (hD1 : va_D (va_A wc H.size) wn) : va_P D cl (w1 ++ (wn ++ w2)) H1 ∧ va_D A0 (w1 ++ (wn ++ w2)) := by
  have p0 := wk_P.mp hP
  have p1 := wk_P.mp hP1
  obtain ⟨d0, a0⟩ := wk_D.mp hD
  obtain ⟨d1, a1⟩ := wk_D.mp hD1
  obtain ⟨x1, x2, x3⟩ := List.pairwise_append.mp d0
  obtain ⟨y1, y2, y3⟩ := List.pairwise_append.mp x2
  have l1 : ∀ q ∈ w1, q.1 < H.size ∧ ¬ va_A wc H.size q.1 := by
    intro q hq
    have hl := (p0 q (List.mem_append_left _ hq)).lt
    refine ⟨hl, fun h => ?_⟩
    rcases wk_A.mp h with ⟨x, hx, e⟩ | h
    · exact x3 q hq x (List.mem_append_left _ hx) e.symm
    · omega
  have l2 : ∀ q ∈ w2, q.1 < H.size ∧ ¬ va_A wc H.size q.1 := by
    intro q hq
    have hl := (p0 q (List.mem_append_right _ (List.mem_append_right _ hq))).lt
    refine ⟨hl, fun h => ?_⟩
    rcases wk_A.mp h with ⟨x, hx, e⟩ | h
    · exact y3 x hx q hq e
    · omega
  constructor
  · refine wk_P.mpr (fun q hq => ?_)
    rcases List.mem_append.mp hq with h | h
    · exact (p0 q (List.mem_append_left _ h)).kept (hk q.1 (l1 q h).1 (l1 q h).2)
    · rcases List.mem_append.mp h with h | h
      · exact p1 q h
      · exact (p0 q (List.mem_append_right _ (List.mem_append_right _ h))).kept (hk q.1 (l2 q h).1 (l2 q h).2)
  · refine wk_D.mpr ⟨List.pairwise_append.mpr ⟨x1, List.pairwise_append.mpr ⟨d1, y2, fun a ha b hb e => ?_⟩, fun a ha b hb e => ?_⟩, fun q hq => ?_⟩
    · exact (l2 b hb).2 (by rw [← e]; exact a1 a ha)
    · rcases List.mem_append.mp hb with hb | hb
      · exact (l1 a ha).2 (by rw [e]; exact a1 b hb)
      · exact x3 a ha b (List.mem_append_right _ hb) e
    · rcases List.mem_append.mp hq with h | h
      · exact a0 q (List.mem_append_left _ h)
      · rcases List.mem_append.mp h with h | h
        · exact hF _ (a1 q h)
        · exact a0 q (List.mem_append_right _ (List.mem_append_right _ h))
/-- the same cells in another order -/
theorem wk_permP {D : va_G} {cl : List vw_C} {ws ws' : va_W} {H : Heap} (h : va_P D cl ws H) (hp : ws'.Perm ws) : va_P D cl ws' H := wk_P.mpr (fun q hq => wk_P.mp h q (hp.mem_iff.mp hq))
theorem wk_permD {A : Nat → Prop} {ws ws' : va_W} (h : va_D A ws) (hp : ws'.Perm ws) : va_D A ws' := by
  obtain ⟨h1, h2⟩ := wk_D.mp h
  exact wk_D.mpr ⟨hp.symm.pairwise h1 (fun z e => z e.symm), fun q hq => h2 q (hp.mem_iff.mp hq)⟩
/-- the words of nest mates -/
def wk_nest (w : Cond) : Prop := (∃ a i b n d h, w = Cond.fieldLinkNest a i b n d h) ∨ ∃ a i x h, w = Cond.methodLinkNest a i x h
def wk_Z (nz : List Cond) (U : State) : Prop := ∀ w ∈ nz, va_Nw w U
theorem wk_Z.warm {nz : List Cond} {s U : State} (hn : ∀ w ∈ nz, wk_nest w) (hW : s.WarmedH U.vm) (h : wk_Z nz s) : wk_Z nz U := by
  intro w hw
  have h1 := h w hw
  rcases hn w hw with ⟨a, i, b, n, d, x, rfl⟩ | ⟨a, i, x, y, rfl⟩
  · exact va_Nw.warmF hW h1
  · exact va_Nw.warmM hW h1
def wk_B (D : va_G) (cl : List vw_C) (tys : List (ClassId × FieldType)) (nz : List Cond) (w : va_W) (sz : Nat) (U : State) : Prop := U.heap.size = sz ∧ va_P D cl w U.heap ∧ va_K D cl tys U ∧ va_D (fun _ => True) w ∧ wk_Z nz U
def wk_E (D : va_G) (cl : List vw_C) (A : Nat → Prop) (u : va_W) (t : State) : Prop := va_P D cl u t.heap ∧ va_D A u
def wk_kv (l : Launch) (y : MethodName) (ws : List Cond) (rm : Room) (D : va_G) (cl : List vw_C) (tys : List (ClassId × FieldType)) (nz : List Cond) (av : List Value) (w : va_W) (Pw : va_W → Prop) : Prop :=
  ∀ sz, Met l y ws rm (va_Pc av (wk_B D cl tys nz w sz)) (va_Qv (fun u : va_W => Pw u) (wk_E D cl (va_A w sz)) (va_A w sz)) 0 0 (va_A w sz)
def wk_ki (l : Launch) (y : MethodName) (ws : List Cond) (rm : Room) (D : va_G) (cl : List vw_C) (tys : List (ClassId × FieldType)) (nz : List Cond) (av : List Value) (w : va_W) (Pw : va_W → Prop) (r : Int32) : Prop :=
  ∀ sz, Met l y ws rm (va_Pc av (wk_B D cl tys nz w sz)) (va_Qi (fun (x : Int32) (u : va_W) => x = r ∧ Pw u) (wk_E D cl (va_A w sz)) (va_A w sz)) 0 0 (va_A w sz)
def wk_kl (l : Launch) (y : MethodName) (ws : List Cond) (rm : Room) (D : va_G) (cl : List vw_C) (tys : List (ClassId × FieldType)) (nz : List Cond) (av : List Value) (w : va_W) (Pw : va_W → Prop) (r : Int64) : Prop :=
  ∀ sz, Met l y ws rm (va_Pc av (wk_B D cl tys nz w sz)) (va_Ql (fun (x : Int64) (u : va_W) => x = r ∧ Pw u) (wk_E D cl (va_A w sz)) (va_A w sz)) 0 0 (va_A w sz)
theorem wk_blind {D : va_G} {cl : List vw_C} {tys : List (ClassId × FieldType)} {nz : List Cond} {av : List Value} {w : va_W} {sz : Nat} (hn : ∀ w ∈ nz, wk_nest w) : FrameBlind (va_Pc av (wk_B D cl tys nz w sz)) := by
  intro a U g mk q
  obtain ⟨q0, q1, qP, qK, qD, qZ⟩ := q
  exact ⟨q0, q1, qP, va_K.moved (u := U) (U := U.calling g mk a) (Vm.Alike.refl U.vm) qK, qD, fun z hz => va_Nw.same (u := U) (U := U.calling g mk a) (by rcases hn z hz with ⟨_, _, _, _, _, _, rfl⟩ | ⟨_, _, _, _, rfl⟩ <;> rfl) rfl (qZ z hz)⟩
section WK
variable {p : Program} {l : Launch} {e : Env} {R : Room} {s : State} {m : MethodId} {args : Array Value} {below : List Frame} {meth : Method} {c : Code} {H H0 : Heap} {locs : List Loc} {cells slots : Nat} {Q : State → Prop}
variable {D : va_G} {cl : List vw_C} {tys : List (ClassId × FieldType)} {nz : List Cond} {A0 : Nat → Prop} {w1 wc w2 ws0 : va_W} {Pw : va_W → Prop} {cc : ByteArray} {pc : Nat} {ls : Array Slot} {rest st0 : List Value} {a : Array Value}
theorem wk_pre {av : List Value} (hn : ∀ w ∈ nz, wk_nest w) (hK : va_K D cl tys s) (hZ : wk_Z nz s) (hP : va_P D cl wc H) (hD : va_D A0 wc) : PreS s H (va_Pc av (wk_B D cl tys nz wc H.size)) av :=
  ⟨wk_blind hn, fun U hU hW => ⟨rfl, by rw [hU], by rw [hU]; exact hP, va_K.moved hW.alike hK, hD.weaken (fun _ _ _ _ => trivial), hZ.warm hn hW⟩⟩
theorem wk_preV {b : Nat} {As : List Value} {q0 ci : Nat} {q : vw_C} {fs : List Value} (hn : ∀ w ∈ nz, wk_nest w) (hK : va_K D cl tys s) (hZ : wk_Z nz s) (hP : va_P D cl wc H) (hD : va_D A0 wc) (hc : cl[ci]? = some q) (he : wc[q0]? = some (b, .inr (ci, fs))) : PreV s H q.1 b (va_Pc (.ref b :: As) (wk_B D cl tys nz wc H.size)) As :=
  ⟨wk_blind hn, va_recv hK hP hc he, (wk_pre hn hK hZ hP hD).2⟩
theorem wk_callv (hr : va_Run p l e R s m args below meth c H locs cells slots 0 0 (F0 m pc ls st0) rest (va_Qv (fun u : va_W => Pw u) (wk_E D cl (va_A wc H.size)) (va_A wc H.size) a) (va_A wc H.size)) (hw : ws0 = w1 ++ (wc ++ w2)) (hP : va_P D cl ws0 H) (hD : va_D A0 ws0) (hS : va_S A0 H0 H locs) (hA : ∀ q, H0.size ≤ q → A0 q)
    (kk : ∀ (H1 : Heap) (locs1 : List Loc) (wn : va_W), Pw wn → va_P D cl (w1 ++ (wn ++ w2)) H1 → va_D A0 (w1 ++ (wn ++ w2)) → va_S A0 H0 H1 locs1 → W p l e R s m args below meth c H1 locs1 cells slots Q (F0 m (pc + 3) ls rest)) : W p l e R s m args below meth c H locs cells slots Q (F0 m pc ls st0) := by
  subst hw
  have hF := wk_free hD hS hA
  refine va_callv hr hS (fun q _ h => hF q h) hF (fun u t H1 locs1 ht hvm h5 hB hz1 hk1 hS1 => ?_)
  obtain ⟨hP1, hD1⟩ := hB
  rw [ht] at hP1
  obtain ⟨hP2, hD2⟩ := wk_join hP hD hk1 hF hP1 hD1
  exact kk H1 locs1 u h5 hP2 hD2 hS1
theorem wk_calli {r : Int32} (hr : va_Run p l e R s m args below meth c H locs cells slots 0 0 (F0 m pc ls st0) rest (va_Qi (fun (x : Int32) (u : va_W) => x = r ∧ Pw u) (wk_E D cl (va_A wc H.size)) (va_A wc H.size) a) (va_A wc H.size)) (hw : ws0 = w1 ++ (wc ++ w2)) (hP : va_P D cl ws0 H) (hD : va_D A0 ws0) (hS : va_S A0 H0 H locs) (hA : ∀ q, H0.size ≤ q → A0 q)
    (kk : ∀ (H1 : Heap) (locs1 : List Loc) (wn : va_W), Pw wn → va_P D cl (w1 ++ (wn ++ w2)) H1 → va_D A0 (w1 ++ (wn ++ w2)) → va_S A0 H0 H1 locs1 → W p l e R s m args below meth c H1 locs1 cells slots Q (F0 m (pc + 3) ls (.int r :: rest))) : W p l e R s m args below meth c H locs cells slots Q (F0 m pc ls st0) := by
  subst hw
  have hF := wk_free hD hS hA
  refine va_calli hr hS (fun q _ h => hF q h) hF (fun r u t H1 locs1 ht hvm h5 hB hz1 hk1 hS1 => ?_)
  obtain ⟨rfl, h5⟩ := h5
  obtain ⟨hP1, hD1⟩ := hB
  rw [ht] at hP1
  obtain ⟨hP2, hD2⟩ := wk_join hP hD hk1 hF hP1 hD1
  exact kk H1 locs1 u h5 hP2 hD2 hS1
theorem wk_calll {r : Int64} (hr : va_Run p l e R s m args below meth c H locs cells slots 0 0 (F0 m pc ls st0) rest (va_Ql (fun (x : Int64) (u : va_W) => x = r ∧ Pw u) (wk_E D cl (va_A wc H.size)) (va_A wc H.size) a) (va_A wc H.size)) (hw : ws0 = w1 ++ (wc ++ w2)) (hP : va_P D cl ws0 H) (hD : va_D A0 ws0) (hS : va_S A0 H0 H locs) (hA : ∀ q, H0.size ≤ q → A0 q)
    (kk : ∀ (H1 : Heap) (locs1 : List Loc) (wn : va_W), Pw wn → va_P D cl (w1 ++ (wn ++ w2)) H1 → va_D A0 (w1 ++ (wn ++ w2)) → va_S A0 H0 H1 locs1 → W p l e R s m args below meth c H1 locs1 cells slots Q (F0 m (pc + 3) ls (.long r :: rest))) : W p l e R s m args below meth c H locs cells slots Q (F0 m pc ls st0) := by
  subst hw
  have hF := wk_free hD hS hA
  refine va_calll hr hS (fun q _ h => hF q h) hF (fun r u t H1 locs1 ht hvm h5 hB hz1 hk1 hS1 => ?_)
  obtain ⟨rfl, h5⟩ := h5
  obtain ⟨hP1, hD1⟩ := hB
  rw [ht] at hP1
  obtain ⟨hP2, hD2⟩ := wk_join hP hD hk1 hF hP1 hD1
  exact kk H1 locs1 u h5 hP2 hD2 hS1
/-! a comparison of longs and the branch behind it -/
theorem wl_eq (hx : p.tables.exec = Jvm.exec) (hb : c.code = cc) {x y : Int64} {off : Int} {tgt : Nat} (h1 : decode cc pc = .ok (.lcmp, 1)) (h2 : decode cc (pc + 1) = .ok (.ifCond .eq off, 3)) (ht : ((pc + 1 : Nat) : Int) + off = (tgt : Int))
    (kt : x = y → W p l e R s m args below meth c H locs cells slots Q (F0 m tgt ls rest)) (kf : ¬ x = y → W p l e R s m args below meth c H locs cells slots Q (F0 m (pc + 4) ls rest)) : W p l e R s m args below meth c H locs cells slots Q (F0 m pc ls (.long y :: .long x :: rest)) :=
  W.lcmp hx hb h1 (lv_if_eq hx hb h2 ht (fun h => kt ((lg_cmp_eq x y).mp h)) (fun h => kf (fun z => h ((lg_cmp_eq x y).mpr z))))
theorem wl_ne (hx : p.tables.exec = Jvm.exec) (hb : c.code = cc) {x y : Int64} {off : Int} {tgt : Nat} (h1 : decode cc pc = .ok (.lcmp, 1)) (h2 : decode cc (pc + 1) = .ok (.ifCond .ne off, 3)) (ht : ((pc + 1 : Nat) : Int) + off = (tgt : Int))
    (kt : ¬ x = y → W p l e R s m args below meth c H locs cells slots Q (F0 m tgt ls rest)) (kf : x = y → W p l e R s m args below meth c H locs cells slots Q (F0 m (pc + 4) ls rest)) : W p l e R s m args below meth c H locs cells slots Q (F0 m pc ls (.long y :: .long x :: rest)) :=
  W.lcmp hx hb h1 (lv_if_ne hx hb h2 ht (fun h => kt (fun z => h ((lg_cmp_eq x y).mpr z))) (fun h => kf ((lg_cmp_eq x y).mp h)))
theorem wl_lt (hx : p.tables.exec = Jvm.exec) (hb : c.code = cc) {x y : Int64} {off : Int} {tgt : Nat} (h1 : decode cc pc = .ok (.lcmp, 1)) (h2 : decode cc (pc + 1) = .ok (.ifCond .lt off, 3)) (ht : ((pc + 1 : Nat) : Int) + off = (tgt : Int))
    (kt : x < y → W p l e R s m args below meth c H locs cells slots Q (F0 m tgt ls rest)) (kf : ¬ x < y → W p l e R s m args below meth c H locs cells slots Q (F0 m (pc + 4) ls rest)) : W p l e R s m args below meth c H locs cells slots Q (F0 m pc ls (.long y :: .long x :: rest)) :=
  W.lcmp hx hb h1 (lv_if_lt hx hb h2 ht (fun h => kt ((lg_cmp_lt x y).mp h)) (fun h => kf (fun z => h ((lg_cmp_lt x y).mpr z))))
theorem wl_ge (hx : p.tables.exec = Jvm.exec) (hb : c.code = cc) {x y : Int64} {off : Int} {tgt : Nat} (h1 : decode cc pc = .ok (.lcmp, 1)) (h2 : decode cc (pc + 1) = .ok (.ifCond .ge off, 3)) (ht : ((pc + 1 : Nat) : Int) + off = (tgt : Int))
    (kt : ¬ x < y → W p l e R s m args below meth c H locs cells slots Q (F0 m tgt ls rest)) (kf : x < y → W p l e R s m args below meth c H locs cells slots Q (F0 m (pc + 4) ls rest)) : W p l e R s m args below meth c H locs cells slots Q (F0 m pc ls (.long y :: .long x :: rest)) :=
  W.lcmp hx hb h1 (lv_if_ge hx hb h2 ht (fun h => kt (Int64.not_lt.mpr ((lg_cmp_ge x y).mp h))) (fun h => kf (Int64.not_le.mp (fun z => h ((lg_cmp_ge x y).mpr z)))))
theorem wl_gt (hx : p.tables.exec = Jvm.exec) (hb : c.code = cc) {x y : Int64} {off : Int} {tgt : Nat} (h1 : decode cc pc = .ok (.lcmp, 1)) (h2 : decode cc (pc + 1) = .ok (.ifCond .gt off, 3)) (ht : ((pc + 1 : Nat) : Int) + off = (tgt : Int))
    (kt : y < x → W p l e R s m args below meth c H locs cells slots Q (F0 m tgt ls rest)) (kf : ¬ y < x → W p l e R s m args below meth c H locs cells slots Q (F0 m (pc + 4) ls rest)) : W p l e R s m args below meth c H locs cells slots Q (F0 m pc ls (.long y :: .long x :: rest)) :=
  W.lcmp hx hb h1 (lv_if_gt hx hb h2 ht (fun h => kt ((lg_cmp_gt x y).mp h)) (fun h => kf (fun z => h ((lg_cmp_gt x y).mpr z))))
theorem wl_le (hx : p.tables.exec = Jvm.exec) (hb : c.code = cc) {x y : Int64} {off : Int} {tgt : Nat} (h1 : decode cc pc = .ok (.lcmp, 1)) (h2 : decode cc (pc + 1) = .ok (.ifCond .le off, 3)) (ht : ((pc + 1 : Nat) : Int) + off = (tgt : Int))
    (kt : ¬ y < x → W p l e R s m args below meth c H locs cells slots Q (F0 m tgt ls rest)) (kf : y < x → W p l e R s m args below meth c H locs cells slots Q (F0 m (pc + 4) ls rest)) : W p l e R s m args below meth c H locs cells slots Q (F0 m pc ls (.long y :: .long x :: rest)) :=
  W.lcmp hx hb h1 (lv_if_le hx hb h2 ht (fun h => kt (Int64.not_lt.mpr ((lg_cmp_le x y).mp h))) (fun h => kf (Int64.not_le.mp (fun z => h ((lg_cmp_le x y).mpr z)))))
/-! arrays, at a place that is a known number -/
theorem wa_ild (hx : p.tables.exec = Jvm.exec) (hb : c.code = cc) (hK : va_K D cl tys s) (hP : va_P D cl ws0 H) (q0 t0 : Nat) {ad : Nat} {cA : ClassId} {n : Nat} {f : Nat → Int32} (ha : ws0[q0]? = some (ad, .inl (cA, n, .inl f))) (ht : tys[t0]? = some (cA, .int)) {i : Int32} (k : Nat) (hi : i = nI k) (hk : k < n) (hn : n < 2 ^ 31) (hdg : decode cc pc = .ok (.iaload, 1))
    (kk : W p l e R s m args below meth c H locs cells slots Q (F0 m (pc + 1) ls (.int (f k) :: rest))) : W p l e R s m args below meth c H locs cells slots Q (F0 m pc ls (.int i :: .ref ad :: rest)) := by
  subst hi
  refine va_iald hx hb hK hP q0 t0 ha ht (vp_in_nI hk hn) hdg ?_
  rw [nI_clamp (Nat.lt_trans hk hn)]
  exact kk
theorem wa_lld (hx : p.tables.exec = Jvm.exec) (hb : c.code = cc) (hK : va_K D cl tys s) (hP : va_P D cl ws0 H) (q0 t0 : Nat) {ad : Nat} {cA : ClassId} {n : Nat} {f : Nat → Int64} (ha : ws0[q0]? = some (ad, .inl (cA, n, .inr (.inl f)))) (ht : tys[t0]? = some (cA, .long)) {i : Int32} (k : Nat) (hi : i = nI k) (hk : k < n) (hn : n < 2 ^ 31) (hdg : decode cc pc = .ok (.laload, 1))
    (kk : W p l e R s m args below meth c H locs cells slots Q (F0 m (pc + 1) ls (.long (f k) :: rest))) : W p l e R s m args below meth c H locs cells slots Q (F0 m pc ls (.int i :: .ref ad :: rest)) := by
  subst hi
  refine va_lald hx hb hK hP q0 t0 ha ht (vp_in_nI hk hn) hdg ?_
  rw [nI_clamp (Nat.lt_trans hk hn)]
  exact kk
theorem wa_ald (hx : p.tables.exec = Jvm.exec) (hb : c.code = cc) (hK : va_K D cl tys s) (hP : va_P D cl ws0 H) (q0 t0 : Nat) {ad b : Nat} {cA : ClassId} {C : String} {n : Nat} {f : Nat → Option Nat} (ha : ws0[q0]? = some (ad, .inl (cA, n, .inr (.inr (.inr (.inr f)))))) (ht : tys[t0]? = some (cA, .object C)) {i : Int32} (k : Nat) (hi : i = nI k) (hk : k < n) (hn : n < 2 ^ 31) (hf : f k = some b) (hdg : decode cc pc = .ok (.aaload, 1))
    (kk : W p l e R s m args below meth c H locs cells slots Q (F0 m (pc + 1) ls (.ref b :: rest))) : W p l e R s m args below meth c H locs cells slots Q (F0 m pc ls (.int i :: .ref ad :: rest)) := by
  subst hi
  refine va_aldq hx hb hK hP q0 t0 ha ht (vp_in_nI hk hn) hdg ?_
  rw [nI_clamp (Nat.lt_trans hk hn), hf]
  exact kk
theorem wa_ist (hx : p.tables.exec = Jvm.exec) (hb : c.code = cc) (hK : va_K D cl tys s) (hP : va_P D cl ws0 H) (hD : va_D A0 ws0) (hS : va_S A0 H0 H locs) (q0 t0 : Nat) {ad : Nat} {cA : ClassId} {n : Nat} {f : Nat → Int32} (ha : ws0[q0]? = some (ad, .inl (cA, n, .inl f))) (ht : tys[t0]? = some (cA, .int)) {i x : Int32} (k : Nat) (hi : i = nI k) (hk : k < n) (hn : n < 2 ^ 31) (hdg : decode cc pc = .ok (.iastore, 1))
    (kk : ∀ (H1 : Heap) (locs1 : List Loc), va_P D cl (ws0.set q0 (ad, .inl (cA, n, .inl (upd f k x)))) H1 → va_D A0 (ws0.set q0 (ad, .inl (cA, n, .inl (upd f k x)))) → va_S A0 H0 H1 locs1 → W p l e R s m args below meth c H1 locs1 cells slots Q (F0 m (pc + 1) ls rest)) : W p l e R s m args below meth c H locs cells slots Q (F0 m pc ls (.int x :: .int i :: .ref ad :: rest)) := by
  subst hi
  refine va_iast hx hb hK hP hD hS q0 t0 ha ht (vp_in_nI hk hn) hdg ?_
  rw [nI_clamp (Nat.lt_trans hk hn)]
  exact kk
theorem wa_lst (hx : p.tables.exec = Jvm.exec) (hb : c.code = cc) (hK : va_K D cl tys s) (hP : va_P D cl ws0 H) (hD : va_D A0 ws0) (hS : va_S A0 H0 H locs) (q0 t0 : Nat) {ad : Nat} {cA : ClassId} {n : Nat} {f : Nat → Int64} (ha : ws0[q0]? = some (ad, .inl (cA, n, .inr (.inl f)))) (ht : tys[t0]? = some (cA, .long)) {i : Int32} {x : Int64} (k : Nat) (hi : i = nI k) (hk : k < n) (hn : n < 2 ^ 31) (hdg : decode cc pc = .ok (.lastore, 1))
    (kk : ∀ (H1 : Heap) (locs1 : List Loc), va_P D cl (ws0.set q0 (ad, .inl (cA, n, .inr (.inl (vp_updL f k x))))) H1 → va_D A0 (ws0.set q0 (ad, .inl (cA, n, .inr (.inl (vp_updL f k x))))) → va_S A0 H0 H1 locs1 → W p l e R s m args below meth c H1 locs1 cells slots Q (F0 m (pc + 1) ls rest)) : W p l e R s m args below meth c H locs cells slots Q (F0 m pc ls (.long x :: .int i :: .ref ad :: rest)) := by
  subst hi
  refine va_last hx hb hK hP hD hS q0 t0 ha ht (vp_in_nI hk hn) hdg ?_
  rw [nI_clamp (Nat.lt_trans hk hn)]
  exact kk
theorem wa_ast (hx : p.tables.exec = Jvm.exec) (hb : c.code = cc) (hK : va_K D cl tys s) (hP : va_P D cl ws0 H) (hD : va_D A0 ws0) (hS : va_S A0 H0 H locs) (q0 t0 qk ci : Nat) {ad v : Nat} {cA : ClassId} {r : vw_C} {n : Nat} {vs : List Value} {f : Nat → Option Nat} (ha : ws0[q0]? = some (ad, .inl (cA, n, .inr (.inr (.inr (.inr f)))))) (ht : tys[t0]? = some (cA, .object r.1)) (hv : ws0[qk]? = some (v, .inr (ci, vs))) (hc : cl[ci]? = some r) {i : Int32} (k : Nat) (hi : i = nI k) (hk : k < n) (hn : n < 2 ^ 31) (hdg : decode cc pc = .ok (.aastore, 1))
    (kk : ∀ (H1 : Heap) (locs1 : List Loc), va_P D cl (ws0.set q0 (ad, .inl (cA, n, .inr (.inr (.inr (.inr (va_up f k (some v)))))))) H1 → va_D A0 (ws0.set q0 (ad, .inl (cA, n, .inr (.inr (.inr (.inr (va_up f k (some v)))))))) → va_S A0 H0 H1 locs1 → W p l e R s m args below meth c H1 locs1 cells slots Q (F0 m (pc + 1) ls rest)) : W p l e R s m args below meth c H locs cells slots Q (F0 m pc ls (.ref v :: .int i :: .ref ad :: rest)) := by
  subst hi
  refine va_astq hx hb hK hP hD hS q0 t0 qk ci ha ht hv hc (vp_in_nI hk hn) hdg ?_
  rw [nI_clamp (Nat.lt_trans hk hn)]
  exact kk
end WK
/-! what stays the same from a method's beginning to its end -/
def wk_X (p : Program) (s : State) (m : MethodId) (args : Array Value) (meth : Method) (c : Code) (cc : ByteArray) (own : String) (nL : Nat) (Ts : List Cond) (D : va_G) (cl : List vw_C) (tys : List (ClassId × FieldType)) (nz : List Cond) (A : Nat → Prop) : Prop :=
  (p.tables.exec = Jvm.exec ∧ c.code = cc ∧ c.maxLocals = nL ∧ s.vm.findClass own = some m.cls ∧ ∀ w ∈ Ts, w.before args s = true) ∧ va_K D cl tys s ∧ wk_Z nz s ∧ (∀ q, s.heap.size ≤ q → A q) ∧ meth.locks = false
theorem wk_met {l : Launch} {y : MethodName} {ws' : List Cond} {rm : Room} {Pc : Array Value → State → Prop} {Qc : Array Value → State → Outcome → State → Prop} {mc ms : Nat} {free : Addr → Prop} {cc : ByteArray} {maxL : Nat} {ret : Option FieldType} (hy : plainFor y = true)
    (body : ∀ p e s m args below meth c s₁, BodyLoose p l y (headSpec (Cond.code y cc maxL ret :: ws') rm) cc maxL ret e s m args below meth c s₁ → c.maxLocals = maxL → Pc args s → W p l e rm s m args below meth c s.heap [] 0 0 (MQ below Qc args s mc ms free) (entryFrame m args maxL)) : Met l y (Cond.code y cc maxL ret :: ws') rm Pc Qc mc ms free := by
  refine MetFree.of_bodySF (code := cc) (maxLocals := maxL) (ret := ret) hy (fun args s m h hn => ?_) (fun p e s m args below meth c s₁ B hml hP _ => ?_)
  · have hc := atoms_spec (ws := Cond.code y cc maxL ret :: ws') h _ List.mem_cons_self
    obtain ⟨meth, c, h1, h2, h3, h4, h5, h6, -, -⟩ := Cond.code_spec hn hc
    exact ⟨meth, c, h1, h2, h3, h4, h5, h6⟩
  · have hh : s₁.heap = s.heap := by rw [B.state]; rfl
    obtain ⟨t, a1, o, b1, b2, b3⟩ := body p e s m args below meth c s₁ B hml hP s₁ hh (Stand.of_body B)
    exact ⟨t, o, a1, b1, b2, b3⟩
theorem wk_start {l : Launch} {y : MethodName} {ws' : List Cond} {rm : Room} {av : List Value} {w : va_W} {sz : Nat} {cc : ByteArray} {maxL mc ms : Nat} {ret : Option FieldType} {D : va_G} {cl : List vw_C} {tys : List (ClassId × FieldType)} {nz : List Cond} (QF : (Nat → Prop) → Array Value → State → Outcome → State → Prop) (hy : plainFor y = true) (hlen : (lg_sl av).length ≤ maxL)
    (body : ∀ (p : Program) (e : Env) (s : State) (m : MethodId) (below : List Frame) (meth : Method) (c : Code) (A : Nat → Prop) (ls : Array Slot), wk_X p s m av.toArray meth c cc y.cls maxL ws' D cl tys nz A → meth.sig.returnType = ret → meth.name = y.name → lv_has ls maxL (lv_args 0 av) → va_P D cl w s.heap → va_D A w → va_S A s.heap s.heap [] → W p l e rm s m av.toArray below meth c s.heap [] 0 0 (MQ below (QF A) av.toArray s mc ms A) (F0 m 0 ls [])) :
    Met l y (Cond.code y cc maxL ret :: ws') rm (va_Pc av (wk_B D cl tys nz w sz)) (QF (va_A w sz)) mc ms (va_A w sz) := by
  refine wk_met hy ?_
  intro p e s m args below meth c s₁ B hml hv
  obtain ⟨rfl, hsz, hP, hK, hD0, hZ⟩ := hv
  have hts := atoms_spec (ws := Cond.code y cc maxL ret :: ws') B.pre
  have hown := findClass_of_methodNamed B.named
  have hname := (name_of_methodNamed B.named B.method).1
  subst hsz
  have hD := hD0.self (sz := s.heap.size)
  have hl := lv_entry av (n := maxL) hlen
  rw [lg_entry_eq]
  exact body p e s m below meth c (va_A w s.heap.size) _ ⟨⟨B.exec, B.bytes, hml, hown, fun w hw => hts w (List.mem_cons_of_mem _ hw)⟩, hK, hZ, fun q h => Or.inr h, B.notSynchronized⟩ B.returns hname hl hP hD va_S.rf
section WE
variable {p : Program} {l : Launch} {e : Env} {R : Room} {s : State} {m : MethodId} {args : Array Value} {below : List Frame} {meth : Method} {c : Code} {H : Heap} {locs : List Loc} {cells slots mc ms : Nat} {Q : State → Prop}
variable {D : va_G} {cl : List vw_C} {tys : List (ClassId × FieldType)} {nz Ts : List Cond} {A : Nat → Prop} {w1 wc w2 ws0 : va_W} {Pw : va_W → Prop} {cc : ByteArray} {pc nL : Nat} {own : String} {ls : Array Slot} {rest st0 : List Value}
theorem we_i {v r : Int32} (X : wk_X p s m args meth c cc own nL Ts D cl tys nz A) (hr : meth.sig.returnType = some .int) (hP : va_P D cl ws0 H) (hD : va_D A ws0) (hS : va_S A s.heap H locs) (hdg : decode cc pc = .ok (.ireturn, 1)) (hc0 : cells ≤ mc) (hs0 : slots ≤ ms) (hv : v = r) (hu : Pw ws0) :
    W p l e R s m args below meth c H locs cells slots (MQ below (va_Qi (fun (x : Int32) (y : va_W) => x = r ∧ Pw y) (wk_E D cl A) A) args s mc ms A) (F0 m pc ls [.int v]) := by
  subst hv
  have hlocks := X.2.2.2.2
  exact W.widen (k := mc) (n := ms) hc0 hs0 (W.iret X.1.1 X.1.2.1 hr (fun t ht hW => ⟨⟨v, ws0, rfl, ⟨rfl, hu⟩, by rw [ht]; exact hP, hD⟩, hS.F ht⟩) hS.2.2 hdg hlocks)
theorem we_z {v r : Int32} (X : wk_X p s m args meth c cc own nL Ts D cl tys nz A) (hr : meth.sig.returnType = some .boolean) (hP : va_P D cl ws0 H) (hD : va_D A ws0) (hS : va_S A s.heap H locs) (hdg : decode cc pc = .ok (.ireturn, 1)) (hc0 : cells ≤ mc) (hs0 : slots ≤ ms) (hb : v = 0 ∨ v = 1) (hv : v = r) (hu : Pw ws0) :
    W p l e R s m args below meth c H locs cells slots (MQ below (va_Qi (fun (x : Int32) (y : va_W) => x = r ∧ Pw y) (wk_E D cl A) A) args s mc ms A) (F0 m pc ls [.int v]) := by
  subst hv
  have hlocks := X.2.2.2.2
  exact W.widen (k := mc) (n := ms) hc0 hs0 (W.zret X.1.1 X.1.2.1 hr (by rcases hb with rfl | rfl <;> rfl) (fun t ht hW => ⟨⟨v, ws0, rfl, ⟨rfl, hu⟩, by rw [ht]; exact hP, hD⟩, hS.F ht⟩) hS.2.2 hdg hlocks)
theorem we_l {v r : Int64} (X : wk_X p s m args meth c cc own nL Ts D cl tys nz A) (hr : meth.sig.returnType = some .long) (hP : va_P D cl ws0 H) (hD : va_D A ws0) (hS : va_S A s.heap H locs) (hdg : decode cc pc = .ok (.lreturn, 1)) (hc0 : cells ≤ mc) (hs0 : slots ≤ ms) (hv : v = r) (hu : Pw ws0) :
    W p l e R s m args below meth c H locs cells slots (MQ below (va_Ql (fun (x : Int64) (y : va_W) => x = r ∧ Pw y) (wk_E D cl A) A) args s mc ms A) (F0 m pc ls [.long v]) := by
  subst hv
  have hlocks := X.2.2.2.2
  exact W.widen (k := mc) (n := ms) hc0 hs0 (W.lret X.1.1 X.1.2.1 hr (fun t ht hW => ⟨⟨v, ws0, rfl, ⟨rfl, hu⟩, by rw [ht]; exact hP, hD⟩, hS.F ht⟩) hS.2.2 hdg hlocks)
theorem we_v (X : wk_X p s m args meth c cc own nL Ts D cl tys nz A) (hr : meth.sig.returnType = none) (hP : va_P D cl ws0 H) (hD : va_D A ws0) (hS : va_S A s.heap H locs) (hdg : decode cc pc = .ok (.return_, 1)) (hc0 : cells ≤ mc) (hs0 : slots ≤ ms) (hu : Pw ws0) :
    W p l e R s m args below meth c H locs cells slots (MQ below (va_Qv (fun (y : va_W) => Pw y) (wk_E D cl A) A) args s mc ms A) (F0 m pc ls []) := by
  have hlocks := X.2.2.2.2
  exact W.widen (k := mc) (n := ms) hc0 hs0 (W.vret X.1.1 X.1.2.1 hr (fun t ht hW => ⟨⟨ws0, rfl, hu, by rw [ht]; exact hP, hD⟩, hS.F ht⟩) hS.2.2 hdg hlocks)
theorem wc_Vv {y : MethodName} {bytes : ByteArray} {maxL n index : Nat} {ret : Option FieldType} {rm : Room} (As : List Value) {b : Nat} {q : vw_C} {fs : List Value} (ci q0 : Nat) (X : wk_X p s m args meth c cc own nL Ts D cl tys nz A) (hn : ∀ w ∈ nz, wk_nest w) (hM : wk_kv l y (Cond.code y bytes maxL ret :: Ts) rm D cl tys nz (.ref b :: As) wc Pw) (cw : CallW R s args own q.1 index y bytes maxL ret (Cond.code y bytes maxL ret :: Ts) rm 0 0 n) (w1 w2 : va_W) (hw : ws0 = w1 ++ (wc ++ w2)) (hP : va_P D cl ws0 H) (hD : va_D A ws0) (hS : va_S A s.heap H locs) (hc : cl[ci]? = some q) (he : wc[q0]? = some (b, .inr (ci, fs))) (hst : st0 = As.reverse ++ .ref b :: rest) (hlen : As.length = n) (hsize : ls.size = nL) (hroom : (rest.map fun v => v.category).sum ≤ 8) (hf : cells ≤ R.cells ∧ slots ≤ R.slots) (hdg : decode cc pc = .ok (.invokevirtual index, 3))
    (kk : ∀ (H1 : Heap) (locs1 : List Loc) (wn : va_W), Pw wn → va_P D cl (w1 ++ (wn ++ w2)) H1 → va_D A (w1 ++ (wn ++ w2)) → va_S A s.heap H1 locs1 → W p l e R s m args below meth c H1 locs1 cells slots Q (F0 m (pc + 3) ls rest)) : W p l e R s m args below meth c H locs cells slots Q (F0 m pc ls st0) := by
  subst hst
  have hP0 := hw ▸ hP
  have hD0 := hw ▸ hD
  exact wk_callv (va_runV (g := F0 m pc ls _) (As := As) (rest := rest) X.1 (hM H.size) cw (wk_preV hn X.2.1 X.2.2.1 (wk_cutP hP0) (wk_cutD hD0) hc he) rfl hlen hsize rfl (lv_room hroom) hdg hf) hw hP hD hS X.2.2.2.1 kk
theorem wc_Nv {y : MethodName} {bytes : ByteArray} {maxL n index : Nat} {ret : Option FieldType} {rm : Room} {host : String} (As : List Value) {b : Nat} {q : vw_C} {fs : List Value} (ci q0 : Nat) (X : wk_X p s m args meth c cc own nL Ts D cl tys nz A) (hn : ∀ w ∈ nz, wk_nest w) (hM : wk_kv l y (Cond.code y bytes maxL ret :: Ts) rm D cl tys nz (.ref b :: As) wc Pw) (cw : va_CN R s args own index y host bytes maxL ret (Cond.code y bytes maxL ret :: Ts) rm 0 0 n ∧ (Cond.instanceMethod y).before args s = true ∧ (Cond.selects q.1 y y).before args s = true) (w1 w2 : va_W) (hw : ws0 = w1 ++ (wc ++ w2)) (hP : va_P D cl ws0 H) (hD : va_D A ws0) (hS : va_S A s.heap H locs) (hc : cl[ci]? = some q) (he : wc[q0]? = some (b, .inr (ci, fs))) (hst : st0 = As.reverse ++ .ref b :: rest) (hlen : As.length = n) (hsize : ls.size = nL) (hroom : (rest.map fun v => v.category).sum ≤ 8) (hf : cells ≤ R.cells ∧ slots ≤ R.slots) (hdg : decode cc pc = .ok (.invokevirtual index, 3))
    (kk : ∀ (H1 : Heap) (locs1 : List Loc) (wn : va_W), Pw wn → va_P D cl (w1 ++ (wn ++ w2)) H1 → va_D A (w1 ++ (wn ++ w2)) → va_S A s.heap H1 locs1 → W p l e R s m args below meth c H1 locs1 cells slots Q (F0 m (pc + 3) ls rest)) : W p l e R s m args below meth c H locs cells slots Q (F0 m pc ls st0) := by
  subst hst
  have hP0 := hw ▸ hP
  have hD0 := hw ▸ hD
  exact wk_callv (va_runVN (g := F0 m pc ls _) (As := As) (rest := rest) X.1 (hM H.size) cw (wk_preV hn X.2.1 X.2.2.1 (wk_cutP hP0) (wk_cutD hD0) hc he) rfl hlen hsize rfl (lv_room hroom) hdg hf) hw hP hD hS X.2.2.2.1 kk
theorem wc_Sv {y : MethodName} {bytes : ByteArray} {maxL n index : Nat} {ret : Option FieldType} {rm : Room} (As : List Value) (X : wk_X p s m args meth c cc own nL Ts D cl tys nz A) (hn : ∀ w ∈ nz, wk_nest w) (hM : wk_kv l y (Cond.code y bytes maxL ret :: Ts) rm D cl tys nz As wc Pw) (cw : CallB R s args own index y bytes maxL ret (Cond.code y bytes maxL ret :: Ts) rm 0 0 n ∧ (Cond.static y).before args s = true) (w1 w2 : va_W) (hw : ws0 = w1 ++ (wc ++ w2)) (hP : va_P D cl ws0 H) (hD : va_D A ws0) (hS : va_S A s.heap H locs) (hst : st0 = As.reverse ++ rest) (hlen : As.length = n) (hsize : ls.size = nL) (hroom : (rest.map fun v => v.category).sum ≤ 8) (hf : cells ≤ R.cells ∧ slots ≤ R.slots) (hdg : decode cc pc = .ok (.invokestatic index, 3))
    (kk : ∀ (H1 : Heap) (locs1 : List Loc) (wn : va_W), Pw wn → va_P D cl (w1 ++ (wn ++ w2)) H1 → va_D A (w1 ++ (wn ++ w2)) → va_S A s.heap H1 locs1 → W p l e R s m args below meth c H1 locs1 cells slots Q (F0 m (pc + 3) ls rest)) : W p l e R s m args below meth c H locs cells slots Q (F0 m pc ls st0) := by
  subst hst
  have hP0 := hw ▸ hP
  have hD0 := hw ▸ hD
  exact wk_callv (va_runS (g := F0 m pc ls _) (As := As) (rest := rest) X.1 (hM H.size) cw (wk_pre hn X.2.1 X.2.2.1 (wk_cutP hP0) (wk_cutD hD0)) rfl hlen hsize rfl (lv_room hroom) hdg hf) hw hP hD hS X.2.2.2.1 kk
theorem wc_Tv {y : MethodName} {bytes : ByteArray} {maxL n index : Nat} {ret : Option FieldType} {rm : Room} {host : String} (As : List Value) (X : wk_X p s m args meth c cc own nL Ts D cl tys nz A) (hn : ∀ w ∈ nz, wk_nest w) (hM : wk_kv l y (Cond.code y bytes maxL ret :: Ts) rm D cl tys nz As wc Pw) (cw : va_CN R s args own index y host bytes maxL ret (Cond.code y bytes maxL ret :: Ts) rm 0 0 n ∧ (Cond.static y).before args s = true ∧ True) (w1 w2 : va_W) (hw : ws0 = w1 ++ (wc ++ w2)) (hP : va_P D cl ws0 H) (hD : va_D A ws0) (hS : va_S A s.heap H locs) (hst : st0 = As.reverse ++ rest) (hlen : As.length = n) (hsize : ls.size = nL) (hroom : (rest.map fun v => v.category).sum ≤ 8) (hf : cells ≤ R.cells ∧ slots ≤ R.slots) (hdg : decode cc pc = .ok (.invokestatic index, 3))
    (kk : ∀ (H1 : Heap) (locs1 : List Loc) (wn : va_W), Pw wn → va_P D cl (w1 ++ (wn ++ w2)) H1 → va_D A (w1 ++ (wn ++ w2)) → va_S A s.heap H1 locs1 → W p l e R s m args below meth c H1 locs1 cells slots Q (F0 m (pc + 3) ls rest)) : W p l e R s m args below meth c H locs cells slots Q (F0 m pc ls st0) := by
  subst hst
  have hP0 := hw ▸ hP
  have hD0 := hw ▸ hD
  exact wk_callv (va_runSN (g := F0 m pc ls _) (As := As) (rest := rest) X.1 (hM H.size) cw (wk_pre hn X.2.1 X.2.2.1 (wk_cutP hP0) (wk_cutD hD0)) rfl hlen hsize rfl (lv_room hroom) hdg hf) hw hP hD hS X.2.2.2.1 kk
theorem wc_Vi {y : MethodName} {bytes : ByteArray} {maxL n index : Nat} {ret : Option FieldType} {rm : Room} {r : Int32} (As : List Value) {b : Nat} {q : vw_C} {fs : List Value} (ci q0 : Nat) (X : wk_X p s m args meth c cc own nL Ts D cl tys nz A) (hn : ∀ w ∈ nz, wk_nest w) (hM : wk_ki l y (Cond.code y bytes maxL ret :: Ts) rm D cl tys nz (.ref b :: As) wc Pw r) (cw : CallW R s args own q.1 index y bytes maxL ret (Cond.code y bytes maxL ret :: Ts) rm 0 0 n) (w1 w2 : va_W) (hw : ws0 = w1 ++ (wc ++ w2)) (hP : va_P D cl ws0 H) (hD : va_D A ws0) (hS : va_S A s.heap H locs) (hc : cl[ci]? = some q) (he : wc[q0]? = some (b, .inr (ci, fs))) (hst : st0 = As.reverse ++ .ref b :: rest) (hlen : As.length = n) (hsize : ls.size = nL) (hroom : (rest.map fun v => v.category).sum ≤ 8) (hf : cells ≤ R.cells ∧ slots ≤ R.slots) (hdg : decode cc pc = .ok (.invokevirtual index, 3))
    (kk : ∀ (H1 : Heap) (locs1 : List Loc) (wn : va_W), Pw wn → va_P D cl (w1 ++ (wn ++ w2)) H1 → va_D A (w1 ++ (wn ++ w2)) → va_S A s.heap H1 locs1 → W p l e R s m args below meth c H1 locs1 cells slots Q (F0 m (pc + 3) ls (.int r :: rest))) : W p l e R s m args below meth c H locs cells slots Q (F0 m pc ls st0) := by
  subst hst
  have hP0 := hw ▸ hP
  have hD0 := hw ▸ hD
  exact wk_calli (va_runV (g := F0 m pc ls _) (As := As) (rest := rest) X.1 (hM H.size) cw (wk_preV hn X.2.1 X.2.2.1 (wk_cutP hP0) (wk_cutD hD0) hc he) rfl hlen hsize rfl (lv_room hroom) hdg hf) hw hP hD hS X.2.2.2.1 kk
theorem wc_Ni {y : MethodName} {bytes : ByteArray} {maxL n index : Nat} {ret : Option FieldType} {rm : Room} {host : String} {r : Int32} (As : List Value) {b : Nat} {q : vw_C} {fs : List Value} (ci q0 : Nat) (X : wk_X p s m args meth c cc own nL Ts D cl tys nz A) (hn : ∀ w ∈ nz, wk_nest w) (hM : wk_ki l y (Cond.code y bytes maxL ret :: Ts) rm D cl tys nz (.ref b :: As) wc Pw r) (cw : va_CN R s args own index y host bytes maxL ret (Cond.code y bytes maxL ret :: Ts) rm 0 0 n ∧ (Cond.instanceMethod y).before args s = true ∧ (Cond.selects q.1 y y).before args s = true) (w1 w2 : va_W) (hw : ws0 = w1 ++ (wc ++ w2)) (hP : va_P D cl ws0 H) (hD : va_D A ws0) (hS : va_S A s.heap H locs) (hc : cl[ci]? = some q) (he : wc[q0]? = some (b, .inr (ci, fs))) (hst : st0 = As.reverse ++ .ref b :: rest) (hlen : As.length = n) (hsize : ls.size = nL) (hroom : (rest.map fun v => v.category).sum ≤ 8) (hf : cells ≤ R.cells ∧ slots ≤ R.slots) (hdg : decode cc pc = .ok (.invokevirtual index, 3))
    (kk : ∀ (H1 : Heap) (locs1 : List Loc) (wn : va_W), Pw wn → va_P D cl (w1 ++ (wn ++ w2)) H1 → va_D A (w1 ++ (wn ++ w2)) → va_S A s.heap H1 locs1 → W p l e R s m args below meth c H1 locs1 cells slots Q (F0 m (pc + 3) ls (.int r :: rest))) : W p l e R s m args below meth c H locs cells slots Q (F0 m pc ls st0) := by
  subst hst
  have hP0 := hw ▸ hP
  have hD0 := hw ▸ hD
  exact wk_calli (va_runVN (g := F0 m pc ls _) (As := As) (rest := rest) X.1 (hM H.size) cw (wk_preV hn X.2.1 X.2.2.1 (wk_cutP hP0) (wk_cutD hD0) hc he) rfl hlen hsize rfl (lv_room hroom) hdg hf) hw hP hD hS X.2.2.2.1 kk
theorem wc_Si {y : MethodName} {bytes : ByteArray} {maxL n index : Nat} {ret : Option FieldType} {rm : Room} {r : Int32} (As : List Value) (X : wk_X p s m args meth c cc own nL Ts D cl tys nz A) (hn : ∀ w ∈ nz, wk_nest w) (hM : wk_ki l y (Cond.code y bytes maxL ret :: Ts) rm D cl tys nz As wc Pw r) (cw : CallB R s args own index y bytes maxL ret (Cond.code y bytes maxL ret :: Ts) rm 0 0 n ∧ (Cond.static y).before args s = true) (w1 w2 : va_W) (hw : ws0 = w1 ++ (wc ++ w2)) (hP : va_P D cl ws0 H) (hD : va_D A ws0) (hS : va_S A s.heap H locs) (hst : st0 = As.reverse ++ rest) (hlen : As.length = n) (hsize : ls.size = nL) (hroom : (rest.map fun v => v.category).sum ≤ 8) (hf : cells ≤ R.cells ∧ slots ≤ R.slots) (hdg : decode cc pc = .ok (.invokestatic index, 3))
    (kk : ∀ (H1 : Heap) (locs1 : List Loc) (wn : va_W), Pw wn → va_P D cl (w1 ++ (wn ++ w2)) H1 → va_D A (w1 ++ (wn ++ w2)) → va_S A s.heap H1 locs1 → W p l e R s m args below meth c H1 locs1 cells slots Q (F0 m (pc + 3) ls (.int r :: rest))) : W p l e R s m args below meth c H locs cells slots Q (F0 m pc ls st0) := by
  subst hst
  have hP0 := hw ▸ hP
  have hD0 := hw ▸ hD
  exact wk_calli (va_runS (g := F0 m pc ls _) (As := As) (rest := rest) X.1 (hM H.size) cw (wk_pre hn X.2.1 X.2.2.1 (wk_cutP hP0) (wk_cutD hD0)) rfl hlen hsize rfl (lv_room hroom) hdg hf) hw hP hD hS X.2.2.2.1 kk
theorem wc_Ti {y : MethodName} {bytes : ByteArray} {maxL n index : Nat} {ret : Option FieldType} {rm : Room} {host : String} {r : Int32} (As : List Value) (X : wk_X p s m args meth c cc own nL Ts D cl tys nz A) (hn : ∀ w ∈ nz, wk_nest w) (hM : wk_ki l y (Cond.code y bytes maxL ret :: Ts) rm D cl tys nz As wc Pw r) (cw : va_CN R s args own index y host bytes maxL ret (Cond.code y bytes maxL ret :: Ts) rm 0 0 n ∧ (Cond.static y).before args s = true ∧ True) (w1 w2 : va_W) (hw : ws0 = w1 ++ (wc ++ w2)) (hP : va_P D cl ws0 H) (hD : va_D A ws0) (hS : va_S A s.heap H locs) (hst : st0 = As.reverse ++ rest) (hlen : As.length = n) (hsize : ls.size = nL) (hroom : (rest.map fun v => v.category).sum ≤ 8) (hf : cells ≤ R.cells ∧ slots ≤ R.slots) (hdg : decode cc pc = .ok (.invokestatic index, 3))
    (kk : ∀ (H1 : Heap) (locs1 : List Loc) (wn : va_W), Pw wn → va_P D cl (w1 ++ (wn ++ w2)) H1 → va_D A (w1 ++ (wn ++ w2)) → va_S A s.heap H1 locs1 → W p l e R s m args below meth c H1 locs1 cells slots Q (F0 m (pc + 3) ls (.int r :: rest))) : W p l e R s m args below meth c H locs cells slots Q (F0 m pc ls st0) := by
  subst hst
  have hP0 := hw ▸ hP
  have hD0 := hw ▸ hD
  exact wk_calli (va_runSN (g := F0 m pc ls _) (As := As) (rest := rest) X.1 (hM H.size) cw (wk_pre hn X.2.1 X.2.2.1 (wk_cutP hP0) (wk_cutD hD0)) rfl hlen hsize rfl (lv_room hroom) hdg hf) hw hP hD hS X.2.2.2.1 kk
theorem wc_Vl {y : MethodName} {bytes : ByteArray} {maxL n index : Nat} {ret : Option FieldType} {rm : Room} {r : Int64} (As : List Value) {b : Nat} {q : vw_C} {fs : List Value} (ci q0 : Nat) (X : wk_X p s m args meth c cc own nL Ts D cl tys nz A) (hn : ∀ w ∈ nz, wk_nest w) (hM : wk_kl l y (Cond.code y bytes maxL ret :: Ts) rm D cl tys nz (.ref b :: As) wc Pw r) (cw : CallW R s args own q.1 index y bytes maxL ret (Cond.code y bytes maxL ret :: Ts) rm 0 0 n) (w1 w2 : va_W) (hw : ws0 = w1 ++ (wc ++ w2)) (hP : va_P D cl ws0 H) (hD : va_D A ws0) (hS : va_S A s.heap H locs) (hc : cl[ci]? = some q) (he : wc[q0]? = some (b, .inr (ci, fs))) (hst : st0 = As.reverse ++ .ref b :: rest) (hlen : As.length = n) (hsize : ls.size = nL) (hroom : (rest.map fun v => v.category).sum ≤ 8) (hf : cells ≤ R.cells ∧ slots ≤ R.slots) (hdg : decode cc pc = .ok (.invokevirtual index, 3))
    (kk : ∀ (H1 : Heap) (locs1 : List Loc) (wn : va_W), Pw wn → va_P D cl (w1 ++ (wn ++ w2)) H1 → va_D A (w1 ++ (wn ++ w2)) → va_S A s.heap H1 locs1 → W p l e R s m args below meth c H1 locs1 cells slots Q (F0 m (pc + 3) ls (.long r :: rest))) : W p l e R s m args below meth c H locs cells slots Q (F0 m pc ls st0) := by
  subst hst
  have hP0 := hw ▸ hP
  have hD0 := hw ▸ hD
  exact wk_calll (va_runV (g := F0 m pc ls _) (As := As) (rest := rest) X.1 (hM H.size) cw (wk_preV hn X.2.1 X.2.2.1 (wk_cutP hP0) (wk_cutD hD0) hc he) rfl hlen hsize rfl (lv_room hroom) hdg hf) hw hP hD hS X.2.2.2.1 kk
theorem wc_Nl {y : MethodName} {bytes : ByteArray} {maxL n index : Nat} {ret : Option FieldType} {rm : Room} {host : String} {r : Int64} (As : List Value) {b : Nat} {q : vw_C} {fs : List Value} (ci q0 : Nat) (X : wk_X p s m args meth c cc own nL Ts D cl tys nz A) (hn : ∀ w ∈ nz, wk_nest w) (hM : wk_kl l y (Cond.code y bytes maxL ret :: Ts) rm D cl tys nz (.ref b :: As) wc Pw r) (cw : va_CN R s args own index y host bytes maxL ret (Cond.code y bytes maxL ret :: Ts) rm 0 0 n ∧ (Cond.instanceMethod y).before args s = true ∧ (Cond.selects q.1 y y).before args s = true) (w1 w2 : va_W) (hw : ws0 = w1 ++ (wc ++ w2)) (hP : va_P D cl ws0 H) (hD : va_D A ws0) (hS : va_S A s.heap H locs) (hc : cl[ci]? = some q) (he : wc[q0]? = some (b, .inr (ci, fs))) (hst : st0 = As.reverse ++ .ref b :: rest) (hlen : As.length = n) (hsize : ls.size = nL) (hroom : (rest.map fun v => v.category).sum ≤ 8) (hf : cells ≤ R.cells ∧ slots ≤ R.slots) (hdg : decode cc pc = .ok (.invokevirtual index, 3))
    (kk : ∀ (H1 : Heap) (locs1 : List Loc) (wn : va_W), Pw wn → va_P D cl (w1 ++ (wn ++ w2)) H1 → va_D A (w1 ++ (wn ++ w2)) → va_S A s.heap H1 locs1 → W p l e R s m args below meth c H1 locs1 cells slots Q (F0 m (pc + 3) ls (.long r :: rest))) : W p l e R s m args below meth c H locs cells slots Q (F0 m pc ls st0) := by
  subst hst
  have hP0 := hw ▸ hP
  have hD0 := hw ▸ hD
  exact wk_calll (va_runVN (g := F0 m pc ls _) (As := As) (rest := rest) X.1 (hM H.size) cw (wk_preV hn X.2.1 X.2.2.1 (wk_cutP hP0) (wk_cutD hD0) hc he) rfl hlen hsize rfl (lv_room hroom) hdg hf) hw hP hD hS X.2.2.2.1 kk
theorem wc_Sl {y : MethodName} {bytes : ByteArray} {maxL n index : Nat} {ret : Option FieldType} {rm : Room} {r : Int64} (As : List Value) (X : wk_X p s m args meth c cc own nL Ts D cl tys nz A) (hn : ∀ w ∈ nz, wk_nest w) (hM : wk_kl l y (Cond.code y bytes maxL ret :: Ts) rm D cl tys nz As wc Pw r) (cw : CallB R s args own index y bytes maxL ret (Cond.code y bytes maxL ret :: Ts) rm 0 0 n ∧ (Cond.static y).before args s = true) (w1 w2 : va_W) (hw : ws0 = w1 ++ (wc ++ w2)) (hP : va_P D cl ws0 H) (hD : va_D A ws0) (hS : va_S A s.heap H locs) (hst : st0 = As.reverse ++ rest) (hlen : As.length = n) (hsize : ls.size = nL) (hroom : (rest.map fun v => v.category).sum ≤ 8) (hf : cells ≤ R.cells ∧ slots ≤ R.slots) (hdg : decode cc pc = .ok (.invokestatic index, 3))
    (kk : ∀ (H1 : Heap) (locs1 : List Loc) (wn : va_W), Pw wn → va_P D cl (w1 ++ (wn ++ w2)) H1 → va_D A (w1 ++ (wn ++ w2)) → va_S A s.heap H1 locs1 → W p l e R s m args below meth c H1 locs1 cells slots Q (F0 m (pc + 3) ls (.long r :: rest))) : W p l e R s m args below meth c H locs cells slots Q (F0 m pc ls st0) := by
  subst hst
  have hP0 := hw ▸ hP
  have hD0 := hw ▸ hD
  exact wk_calll (va_runS (g := F0 m pc ls _) (As := As) (rest := rest) X.1 (hM H.size) cw (wk_pre hn X.2.1 X.2.2.1 (wk_cutP hP0) (wk_cutD hD0)) rfl hlen hsize rfl (lv_room hroom) hdg hf) hw hP hD hS X.2.2.2.1 kk
theorem wc_Tl {y : MethodName} {bytes : ByteArray} {maxL n index : Nat} {ret : Option FieldType} {rm : Room} {host : String} {r : Int64} (As : List Value) (X : wk_X p s m args meth c cc own nL Ts D cl tys nz A) (hn : ∀ w ∈ nz, wk_nest w) (hM : wk_kl l y (Cond.code y bytes maxL ret :: Ts) rm D cl tys nz As wc Pw r) (cw : va_CN R s args own index y host bytes maxL ret (Cond.code y bytes maxL ret :: Ts) rm 0 0 n ∧ (Cond.static y).before args s = true ∧ True) (w1 w2 : va_W) (hw : ws0 = w1 ++ (wc ++ w2)) (hP : va_P D cl ws0 H) (hD : va_D A ws0) (hS : va_S A s.heap H locs) (hst : st0 = As.reverse ++ rest) (hlen : As.length = n) (hsize : ls.size = nL) (hroom : (rest.map fun v => v.category).sum ≤ 8) (hf : cells ≤ R.cells ∧ slots ≤ R.slots) (hdg : decode cc pc = .ok (.invokestatic index, 3))
    (kk : ∀ (H1 : Heap) (locs1 : List Loc) (wn : va_W), Pw wn → va_P D cl (w1 ++ (wn ++ w2)) H1 → va_D A (w1 ++ (wn ++ w2)) → va_S A s.heap H1 locs1 → W p l e R s m args below meth c H1 locs1 cells slots Q (F0 m (pc + 3) ls (.long r :: rest))) : W p l e R s m args below meth c H locs cells slots Q (F0 m pc ls st0) := by
  subst hst
  have hP0 := hw ▸ hP
  have hD0 := hw ▸ hD
  exact wk_calll (va_runSN (g := F0 m pc ls _) (As := As) (rest := rest) X.1 (hM H.size) cw (wk_pre hn X.2.1 X.2.2.1 (wk_cutP hP0) (wk_cutD hD0)) rfl hlen hsize rfl (lv_room hroom) hdg hf) hw hP hD hS X.2.2.2.1 kk
end WE
/-! a contract's beginning, its ends as a hypothesis -/
section WS
variable {l : Launch} {y : MethodName} {ws' : List Cond} {rm : Room} {av : List Value} {w : va_W} {Pw : va_W → Prop} {cc : ByteArray} {maxL : Nat} {D : va_G} {cl : List vw_C} {tys : List (ClassId × FieldType)} {nz : List Cond}
theorem ws_v (hy : plainFor y = true) (hlen : (lg_sl av).length ≤ maxL)
    (body : ∀ (p : Program) (e : Env) (s : State) (m : MethodId) (below : List Frame) (meth : Method) (c : Code) (A : Nat → Prop) (ls : Array Slot) (Q : State → Prop), wk_X p s m av.toArray meth c cc y.cls maxL ws' D cl tys nz A →
      (∀ (pc : Nat) (H : Heap) (locs : List Loc) (ls : Array Slot) (ws0 : va_W), va_P D cl ws0 H → va_D A ws0 → va_S A s.heap H locs → decode cc pc = .ok (.return_, 1) → Pw ws0 → W p l e rm s m av.toArray below meth c H locs 0 0 Q (F0 m pc ls [])) →
      lv_has ls maxL (lv_args 0 av) → va_P D cl w s.heap → va_D A w → va_S A s.heap s.heap [] → W p l e rm s m av.toArray below meth c s.heap [] 0 0 Q (F0 m 0 ls [])) :
    wk_kv l y (Cond.code y cc maxL none :: ws') rm D cl tys nz av w Pw := by
  intro sz
  refine wk_start (fun A => va_Qv (fun u : va_W => Pw u) (wk_E D cl A) A) hy hlen ?_
  intro p e s m below meth c A ls X hr hname hl hP hD hS
  exact body p e s m below meth c A ls _ X (fun pc H locs ls ws0 hP hD hS hd hu => we_v X hr hP hD hS hd (Nat.le_refl _) (Nat.le_refl _) hu) hl hP hD hS
theorem ws_i {r : Int32} (hy : plainFor y = true) (hlen : (lg_sl av).length ≤ maxL)
    (body : ∀ (p : Program) (e : Env) (s : State) (m : MethodId) (below : List Frame) (meth : Method) (c : Code) (A : Nat → Prop) (ls : Array Slot) (Q : State → Prop), wk_X p s m av.toArray meth c cc y.cls maxL ws' D cl tys nz A →
      (∀ (pc : Nat) (H : Heap) (locs : List Loc) (ls : Array Slot) (ws0 : va_W) (v : Int32), va_P D cl ws0 H → va_D A ws0 → va_S A s.heap H locs → decode cc pc = .ok (.ireturn, 1) → v = r → Pw ws0 → W p l e rm s m av.toArray below meth c H locs 0 0 Q (F0 m pc ls [.int v])) →
      lv_has ls maxL (lv_args 0 av) → va_P D cl w s.heap → va_D A w → va_S A s.heap s.heap [] → W p l e rm s m av.toArray below meth c s.heap [] 0 0 Q (F0 m 0 ls [])) :
    wk_ki l y (Cond.code y cc maxL (some .int) :: ws') rm D cl tys nz av w Pw r := by
  intro sz
  refine wk_start (fun A => va_Qi (fun (x : Int32) (u : va_W) => x = r ∧ Pw u) (wk_E D cl A) A) hy hlen ?_
  intro p e s m below meth c A ls X hr hname hl hP hD hS
  exact body p e s m below meth c A ls _ X (fun pc H locs ls ws0 v hP hD hS hd hv hu => we_i X hr hP hD hS hd (Nat.le_refl _) (Nat.le_refl _) hv hu) hl hP hD hS
theorem ws_z {r : Int32} (hy : plainFor y = true) (hlen : (lg_sl av).length ≤ maxL)
    (body : ∀ (p : Program) (e : Env) (s : State) (m : MethodId) (below : List Frame) (meth : Method) (c : Code) (A : Nat → Prop) (ls : Array Slot) (Q : State → Prop), wk_X p s m av.toArray meth c cc y.cls maxL ws' D cl tys nz A →
      (∀ (pc : Nat) (H : Heap) (locs : List Loc) (ls : Array Slot) (ws0 : va_W) (v : Int32), va_P D cl ws0 H → va_D A ws0 → va_S A s.heap H locs → decode cc pc = .ok (.ireturn, 1) → (v = 0 ∨ v = 1) → v = r → Pw ws0 → W p l e rm s m av.toArray below meth c H locs 0 0 Q (F0 m pc ls [.int v])) →
      lv_has ls maxL (lv_args 0 av) → va_P D cl w s.heap → va_D A w → va_S A s.heap s.heap [] → W p l e rm s m av.toArray below meth c s.heap [] 0 0 Q (F0 m 0 ls [])) :
    wk_ki l y (Cond.code y cc maxL (some .boolean) :: ws') rm D cl tys nz av w Pw r := by
  intro sz
  refine wk_start (fun A => va_Qi (fun (x : Int32) (u : va_W) => x = r ∧ Pw u) (wk_E D cl A) A) hy hlen ?_
  intro p e s m below meth c A ls X hr hname hl hP hD hS
  exact body p e s m below meth c A ls _ X (fun pc H locs ls ws0 v hP hD hS hd hz hv hu => we_z X hr hP hD hS hd (Nat.le_refl _) (Nat.le_refl _) hz hv hu) hl hP hD hS
theorem ws_l {r : Int64} (hy : plainFor y = true) (hlen : (lg_sl av).length ≤ maxL)
    (body : ∀ (p : Program) (e : Env) (s : State) (m : MethodId) (below : List Frame) (meth : Method) (c : Code) (A : Nat → Prop) (ls : Array Slot) (Q : State → Prop), wk_X p s m av.toArray meth c cc y.cls maxL ws' D cl tys nz A →
      (∀ (pc : Nat) (H : Heap) (locs : List Loc) (ls : Array Slot) (ws0 : va_W) (v : Int64), va_P D cl ws0 H → va_D A ws0 → va_S A s.heap H locs → decode cc pc = .ok (.lreturn, 1) → v = r → Pw ws0 → W p l e rm s m av.toArray below meth c H locs 0 0 Q (F0 m pc ls [.long v])) →
      lv_has ls maxL (lv_args 0 av) → va_P D cl w s.heap → va_D A w → va_S A s.heap s.heap [] → W p l e rm s m av.toArray below meth c s.heap [] 0 0 Q (F0 m 0 ls [])) :
    wk_kl l y (Cond.code y cc maxL (some .long) :: ws') rm D cl tys nz av w Pw r := by
  intro sz
  refine wk_start (fun A => va_Ql (fun (x : Int64) (u : va_W) => x = r ∧ Pw u) (wk_E D cl A) A) hy hlen ?_
  intro p e s m below meth c A ls X hr hname hl hP hD hS
  exact body p e s m below meth c A ls _ X (fun pc H locs ls ws0 v hP hD hS hd hv hu => we_l X hr hP hD hS hd (Nat.le_refl _) (Nat.le_refl _) hv hu) hl hP hD hS
end WS
/-! numbers that are no less than 0 and small -/
theorem wn_0 {a : Nat} (h : a < 2 ^ 31) : nI a = 0 ↔ a = 0 := by rw [← nI_0, nI_eq h (by decide)]
section WN
variable {p : Program} {l : Launch} {e : Env} {R : Room} {s : State} {m : MethodId} {args : Array Value} {below : List Frame} {meth : Method} {c : Code} {H : Heap} {locs : List Loc} {cells slots : Nat} {Q : State → Prop}
variable {cc : ByteArray} {pc : Nat} {ls : Array Slot} {rest : List Value}
theorem wi_eq {x y : Int32} (hx : p.tables.exec = Jvm.exec) (hb : c.code = cc) {off : Int} {tgt : Nat} (hdg : decode cc pc = .ok (.if_icmp .eq off, 3)) (ht : (pc : Int) + off = (tgt : Int))
    (kt : x = y → W p l e R s m args below meth c H locs cells slots Q (F0 m tgt ls rest)) (kf : ¬ x = y → W p l e R s m args below meth c H locs cells slots Q (F0 m (pc + 3) ls rest)) : W p l e R s m args below meth c H locs cells slots Q (F0 m pc ls (.int y :: .int x :: rest)) :=
  lv_icmp_eq hx hb hdg ht (fun h => kt h) (fun h => kf h)
theorem wi_ne {x y : Int32} (hx : p.tables.exec = Jvm.exec) (hb : c.code = cc) {off : Int} {tgt : Nat} (hdg : decode cc pc = .ok (.if_icmp .ne off, 3)) (ht : (pc : Int) + off = (tgt : Int))
    (kt : ¬ x = y → W p l e R s m args below meth c H locs cells slots Q (F0 m tgt ls rest)) (kf : x = y → W p l e R s m args below meth c H locs cells slots Q (F0 m (pc + 3) ls rest)) : W p l e R s m args below meth c H locs cells slots Q (F0 m pc ls (.int y :: .int x :: rest)) :=
  lv_icmp_ne hx hb hdg ht (fun h => kt h) (fun h => kf h)
theorem wi_lt {x y : Int32} (hx : p.tables.exec = Jvm.exec) (hb : c.code = cc) {off : Int} {tgt : Nat} (hdg : decode cc pc = .ok (.if_icmp .lt off, 3)) (ht : (pc : Int) + off = (tgt : Int))
    (kt : x < y → W p l e R s m args below meth c H locs cells slots Q (F0 m tgt ls rest)) (kf : ¬ x < y → W p l e R s m args below meth c H locs cells slots Q (F0 m (pc + 3) ls rest)) : W p l e R s m args below meth c H locs cells slots Q (F0 m pc ls (.int y :: .int x :: rest)) :=
  lv_icmp_lt hx hb hdg ht (fun h => kt h) (fun h => kf h)
theorem wi_ge {x y : Int32} (hx : p.tables.exec = Jvm.exec) (hb : c.code = cc) {off : Int} {tgt : Nat} (hdg : decode cc pc = .ok (.if_icmp .ge off, 3)) (ht : (pc : Int) + off = (tgt : Int))
    (kt : ¬ x < y → W p l e R s m args below meth c H locs cells slots Q (F0 m tgt ls rest)) (kf : x < y → W p l e R s m args below meth c H locs cells slots Q (F0 m (pc + 3) ls rest)) : W p l e R s m args below meth c H locs cells slots Q (F0 m pc ls (.int y :: .int x :: rest)) :=
  lv_icmp_ge hx hb hdg ht (fun h => kt (Int32.not_lt.mpr h)) (fun h => kf (Int32.not_le.mp h))
theorem wi_gt {x y : Int32} (hx : p.tables.exec = Jvm.exec) (hb : c.code = cc) {off : Int} {tgt : Nat} (hdg : decode cc pc = .ok (.if_icmp .gt off, 3)) (ht : (pc : Int) + off = (tgt : Int))
    (kt : y < x → W p l e R s m args below meth c H locs cells slots Q (F0 m tgt ls rest)) (kf : ¬ y < x → W p l e R s m args below meth c H locs cells slots Q (F0 m (pc + 3) ls rest)) : W p l e R s m args below meth c H locs cells slots Q (F0 m pc ls (.int y :: .int x :: rest)) :=
  lv_icmp_gt hx hb hdg ht (fun h => kt h) (fun h => kf h)
theorem wi_le {x y : Int32} (hx : p.tables.exec = Jvm.exec) (hb : c.code = cc) {off : Int} {tgt : Nat} (hdg : decode cc pc = .ok (.if_icmp .le off, 3)) (ht : (pc : Int) + off = (tgt : Int))
    (kt : ¬ y < x → W p l e R s m args below meth c H locs cells slots Q (F0 m tgt ls rest)) (kf : y < x → W p l e R s m args below meth c H locs cells slots Q (F0 m (pc + 3) ls rest)) : W p l e R s m args below meth c H locs cells slots Q (F0 m pc ls (.int y :: .int x :: rest)) :=
  lv_icmp_le hx hb hdg ht (fun h => kt (Int32.not_lt.mpr h)) (fun h => kf (Int32.not_le.mp h))
theorem wi0_eq {x : Int32} (hx : p.tables.exec = Jvm.exec) (hb : c.code = cc) {off : Int} {tgt : Nat} (hdg : decode cc pc = .ok (.ifCond .eq off, 3)) (ht : (pc : Int) + off = (tgt : Int))
    (kt : x = 0 → W p l e R s m args below meth c H locs cells slots Q (F0 m tgt ls rest)) (kf : ¬ x = 0 → W p l e R s m args below meth c H locs cells slots Q (F0 m (pc + 3) ls rest)) : W p l e R s m args below meth c H locs cells slots Q (F0 m pc ls (.int x :: rest)) :=
  lv_if_eq hx hb hdg ht (fun h => kt h) (fun h => kf h)
theorem wi0_ne {x : Int32} (hx : p.tables.exec = Jvm.exec) (hb : c.code = cc) {off : Int} {tgt : Nat} (hdg : decode cc pc = .ok (.ifCond .ne off, 3)) (ht : (pc : Int) + off = (tgt : Int))
    (kt : ¬ x = 0 → W p l e R s m args below meth c H locs cells slots Q (F0 m tgt ls rest)) (kf : x = 0 → W p l e R s m args below meth c H locs cells slots Q (F0 m (pc + 3) ls rest)) : W p l e R s m args below meth c H locs cells slots Q (F0 m pc ls (.int x :: rest)) :=
  lv_if_ne hx hb hdg ht (fun h => kt h) (fun h => kf h)
theorem wi0_lt {x : Int32} (hx : p.tables.exec = Jvm.exec) (hb : c.code = cc) {off : Int} {tgt : Nat} (hdg : decode cc pc = .ok (.ifCond .lt off, 3)) (ht : (pc : Int) + off = (tgt : Int))
    (kt : x < 0 → W p l e R s m args below meth c H locs cells slots Q (F0 m tgt ls rest)) (kf : ¬ x < 0 → W p l e R s m args below meth c H locs cells slots Q (F0 m (pc + 3) ls rest)) : W p l e R s m args below meth c H locs cells slots Q (F0 m pc ls (.int x :: rest)) :=
  lv_if_lt hx hb hdg ht (fun h => kt h) (fun h => kf h)
theorem wi0_ge {x : Int32} (hx : p.tables.exec = Jvm.exec) (hb : c.code = cc) {off : Int} {tgt : Nat} (hdg : decode cc pc = .ok (.ifCond .ge off, 3)) (ht : (pc : Int) + off = (tgt : Int))
    (kt : ¬ x < 0 → W p l e R s m args below meth c H locs cells slots Q (F0 m tgt ls rest)) (kf : x < 0 → W p l e R s m args below meth c H locs cells slots Q (F0 m (pc + 3) ls rest)) : W p l e R s m args below meth c H locs cells slots Q (F0 m pc ls (.int x :: rest)) :=
  lv_if_ge hx hb hdg ht (fun h => kt (Int32.not_lt.mpr h)) (fun h => kf (Int32.not_le.mp h))
theorem wi0_gt {x : Int32} (hx : p.tables.exec = Jvm.exec) (hb : c.code = cc) {off : Int} {tgt : Nat} (hdg : decode cc pc = .ok (.ifCond .gt off, 3)) (ht : (pc : Int) + off = (tgt : Int))
    (kt : 0 < x → W p l e R s m args below meth c H locs cells slots Q (F0 m tgt ls rest)) (kf : ¬ 0 < x → W p l e R s m args below meth c H locs cells slots Q (F0 m (pc + 3) ls rest)) : W p l e R s m args below meth c H locs cells slots Q (F0 m pc ls (.int x :: rest)) :=
  lv_if_gt hx hb hdg ht (fun h => kt h) (fun h => kf h)
theorem wi0_le {x : Int32} (hx : p.tables.exec = Jvm.exec) (hb : c.code = cc) {off : Int} {tgt : Nat} (hdg : decode cc pc = .ok (.ifCond .le off, 3)) (ht : (pc : Int) + off = (tgt : Int))
    (kt : ¬ 0 < x → W p l e R s m args below meth c H locs cells slots Q (F0 m tgt ls rest)) (kf : 0 < x → W p l e R s m args below meth c H locs cells slots Q (F0 m (pc + 3) ls rest)) : W p l e R s m args below meth c H locs cells slots Q (F0 m pc ls (.int x :: rest)) :=
  lv_if_le hx hb hdg ht (fun h => kt (Int32.not_lt.mpr h)) (fun h => kf (Int32.not_le.mp h))
theorem wn_top {x : Int32} {k : Nat} (h : x = nI k) (kk : W p l e R s m args below meth c H locs cells slots Q (F0 m pc ls (.int (nI k) :: rest))) : W p l e R s m args below meth c H locs cells slots Q (F0 m pc ls (.int x :: rest)) := by
  rw [h]; exact kk
theorem wn_add {a b : Nat} (hx : p.tables.exec = Jvm.exec) (hb : c.code = cc) (hdg : decode cc pc = .ok (.iadd, 1)) (k : W p l e R s m args below meth c H locs cells slots Q (F0 m (pc + 1) ls (.int (nI (a + b)) :: rest))) : W p l e R s m args below meth c H locs cells slots Q (F0 m pc ls (.int (nI b) :: .int (nI a) :: rest)) :=
  lv_iadd hx hb hdg (by rw [nI_add]; exact k)
theorem wn_mul {a b : Nat} (hx : p.tables.exec = Jvm.exec) (hb : c.code = cc) (hdg : decode cc pc = .ok (.imul, 1)) (k : W p l e R s m args below meth c H locs cells slots Q (F0 m (pc + 1) ls (.int (nI (a * b)) :: rest))) : W p l e R s m args below meth c H locs cells slots Q (F0 m pc ls (.int (nI b) :: .int (nI a) :: rest)) :=
  lv_imul hx hb hdg (by rw [pk_mul]; exact k)
theorem wn_sub {a b : Nat} (hx : p.tables.exec = Jvm.exec) (hb : c.code = cc) (hdg : decode cc pc = .ok (.isub, 1)) (h : b ≤ a) (k : W p l e R s m args below meth c H locs cells slots Q (F0 m (pc + 1) ls (.int (nI (a - b)) :: rest))) : W p l e R s m args below meth c H locs cells slots Q (F0 m pc ls (.int (nI b) :: .int (nI a) :: rest)) :=
  lv_isub hx hb hdg (by rw [pk_sub h]; exact k)
theorem wn_eq {a b : Nat} (hx : p.tables.exec = Jvm.exec) (hb : c.code = cc) {off : Int} {tgt : Nat} (hdg : decode cc pc = .ok (.if_icmp .eq off, 3)) (ht : (pc : Int) + off = (tgt : Int)) (ba : a < 2 ^ 31) (bb : b < 2 ^ 31)
    (kt : a = b → W p l e R s m args below meth c H locs cells slots Q (F0 m tgt ls rest)) (kf : ¬ a = b → W p l e R s m args below meth c H locs cells slots Q (F0 m (pc + 3) ls rest)) : W p l e R s m args below meth c H locs cells slots Q (F0 m pc ls (.int (nI b) :: .int (nI a) :: rest)) :=
  lv_icmp_eq hx hb hdg ht (fun h => kt ((nI_eq ba bb).mp h)) (fun h => kf (fun z => h ((nI_eq ba bb).mpr z)))
theorem wn_ne {a b : Nat} (hx : p.tables.exec = Jvm.exec) (hb : c.code = cc) {off : Int} {tgt : Nat} (hdg : decode cc pc = .ok (.if_icmp .ne off, 3)) (ht : (pc : Int) + off = (tgt : Int)) (ba : a < 2 ^ 31) (bb : b < 2 ^ 31)
    (kt : ¬ a = b → W p l e R s m args below meth c H locs cells slots Q (F0 m tgt ls rest)) (kf : a = b → W p l e R s m args below meth c H locs cells slots Q (F0 m (pc + 3) ls rest)) : W p l e R s m args below meth c H locs cells slots Q (F0 m pc ls (.int (nI b) :: .int (nI a) :: rest)) :=
  lv_icmp_ne hx hb hdg ht (fun h => kt (fun z => h ((nI_eq ba bb).mpr z))) (fun h => kf ((nI_eq ba bb).mp h))
theorem wn_lt {a b : Nat} (hx : p.tables.exec = Jvm.exec) (hb : c.code = cc) {off : Int} {tgt : Nat} (hdg : decode cc pc = .ok (.if_icmp .lt off, 3)) (ht : (pc : Int) + off = (tgt : Int)) (ba : a < 2 ^ 31) (bb : b < 2 ^ 31)
    (kt : a < b → W p l e R s m args below meth c H locs cells slots Q (F0 m tgt ls rest)) (kf : ¬ a < b → W p l e R s m args below meth c H locs cells slots Q (F0 m (pc + 3) ls rest)) : W p l e R s m args below meth c H locs cells slots Q (F0 m pc ls (.int (nI b) :: .int (nI a) :: rest)) :=
  lv_icmp_lt hx hb hdg ht (fun h => kt ((nI_ltI ba bb).mp h)) (fun h => kf (fun z => h ((nI_ltI ba bb).mpr z)))
theorem wn_ge {a b : Nat} (hx : p.tables.exec = Jvm.exec) (hb : c.code = cc) {off : Int} {tgt : Nat} (hdg : decode cc pc = .ok (.if_icmp .ge off, 3)) (ht : (pc : Int) + off = (tgt : Int)) (ba : a < 2 ^ 31) (bb : b < 2 ^ 31)
    (kt : ¬ a < b → W p l e R s m args below meth c H locs cells slots Q (F0 m tgt ls rest)) (kf : a < b → W p l e R s m args below meth c H locs cells slots Q (F0 m (pc + 3) ls rest)) : W p l e R s m args below meth c H locs cells slots Q (F0 m pc ls (.int (nI b) :: .int (nI a) :: rest)) :=
  lv_icmp_ge hx hb hdg ht (fun h => kt (Nat.not_lt.mpr ((nI_leI bb ba).mp h))) (fun h => kf (Nat.lt_of_not_le (fun z => h ((nI_leI bb ba).mpr z))))
theorem wn_gt {a b : Nat} (hx : p.tables.exec = Jvm.exec) (hb : c.code = cc) {off : Int} {tgt : Nat} (hdg : decode cc pc = .ok (.if_icmp .gt off, 3)) (ht : (pc : Int) + off = (tgt : Int)) (ba : a < 2 ^ 31) (bb : b < 2 ^ 31)
    (kt : b < a → W p l e R s m args below meth c H locs cells slots Q (F0 m tgt ls rest)) (kf : ¬ b < a → W p l e R s m args below meth c H locs cells slots Q (F0 m (pc + 3) ls rest)) : W p l e R s m args below meth c H locs cells slots Q (F0 m pc ls (.int (nI b) :: .int (nI a) :: rest)) :=
  lv_icmp_gt hx hb hdg ht (fun h => kt ((nI_ltI bb ba).mp h)) (fun h => kf (fun z => h ((nI_ltI bb ba).mpr z)))
theorem wn_le {a b : Nat} (hx : p.tables.exec = Jvm.exec) (hb : c.code = cc) {off : Int} {tgt : Nat} (hdg : decode cc pc = .ok (.if_icmp .le off, 3)) (ht : (pc : Int) + off = (tgt : Int)) (ba : a < 2 ^ 31) (bb : b < 2 ^ 31)
    (kt : ¬ b < a → W p l e R s m args below meth c H locs cells slots Q (F0 m tgt ls rest)) (kf : b < a → W p l e R s m args below meth c H locs cells slots Q (F0 m (pc + 3) ls rest)) : W p l e R s m args below meth c H locs cells slots Q (F0 m pc ls (.int (nI b) :: .int (nI a) :: rest)) :=
  lv_icmp_le hx hb hdg ht (fun h => kt (Nat.not_lt.mpr ((nI_leI ba bb).mp h))) (fun h => kf (Nat.lt_of_not_le (fun z => h ((nI_leI ba bb).mpr z))))
theorem wn_if_eq {a : Nat} (hx : p.tables.exec = Jvm.exec) (hb : c.code = cc) {off : Int} {tgt : Nat} (hdg : decode cc pc = .ok (.ifCond .eq off, 3)) (ht : (pc : Int) + off = (tgt : Int)) (ba : a < 2 ^ 31)
    (kt : a = 0 → W p l e R s m args below meth c H locs cells slots Q (F0 m tgt ls rest)) (kf : ¬ a = 0 → W p l e R s m args below meth c H locs cells slots Q (F0 m (pc + 3) ls rest)) : W p l e R s m args below meth c H locs cells slots Q (F0 m pc ls (.int (nI a) :: rest)) :=
  lv_if_eq hx hb hdg ht (fun h => kt ((wn_0 ba).mp h)) (fun h => kf (fun z => h ((wn_0 ba).mpr z)))
theorem wn_if_ne {a : Nat} (hx : p.tables.exec = Jvm.exec) (hb : c.code = cc) {off : Int} {tgt : Nat} (hdg : decode cc pc = .ok (.ifCond .ne off, 3)) (ht : (pc : Int) + off = (tgt : Int)) (ba : a < 2 ^ 31)
    (kt : ¬ a = 0 → W p l e R s m args below meth c H locs cells slots Q (F0 m tgt ls rest)) (kf : a = 0 → W p l e R s m args below meth c H locs cells slots Q (F0 m (pc + 3) ls rest)) : W p l e R s m args below meth c H locs cells slots Q (F0 m pc ls (.int (nI a) :: rest)) :=
  lv_if_ne hx hb hdg ht (fun h => kt (fun z => h ((wn_0 ba).mpr z))) (fun h => kf ((wn_0 ba).mp h))
theorem wn_if_gt {a : Nat} (hx : p.tables.exec = Jvm.exec) (hb : c.code = cc) {off : Int} {tgt : Nat} (hdg : decode cc pc = .ok (.ifCond .gt off, 3)) (ht : (pc : Int) + off = (tgt : Int)) (ba : a < 2 ^ 31)
    (kt : ¬ a = 0 → W p l e R s m args below meth c H locs cells slots Q (F0 m tgt ls rest)) (kf : a = 0 → W p l e R s m args below meth c H locs cells slots Q (F0 m (pc + 3) ls rest)) : W p l e R s m args below meth c H locs cells slots Q (F0 m pc ls (.int (nI a) :: rest)) :=
  lv_if_gt hx hb hdg ht (fun h => kt (fun z => by subst z; exact absurd h (by decide))) (fun h => kf (Classical.byContradiction fun z => h (nI_lt (a := 0) (by omega) ba)))
theorem wn_if_le {a : Nat} (hx : p.tables.exec = Jvm.exec) (hb : c.code = cc) {off : Int} {tgt : Nat} (hdg : decode cc pc = .ok (.ifCond .le off, 3)) (ht : (pc : Int) + off = (tgt : Int)) (ba : a < 2 ^ 31)
    (kt : a = 0 → W p l e R s m args below meth c H locs cells slots Q (F0 m tgt ls rest)) (kf : ¬ a = 0 → W p l e R s m args below meth c H locs cells slots Q (F0 m (pc + 3) ls rest)) : W p l e R s m args below meth c H locs cells slots Q (F0 m pc ls (.int (nI a) :: rest)) :=
  lv_if_le hx hb hdg ht (fun h => kt (Classical.byContradiction fun z => nI_nle (by omega) ba h)) (fun h => kf (fun z => h (by subst z; decide)))
end WN
