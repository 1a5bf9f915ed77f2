/-! Constructors: what they make costs cells and slots -/
def wk_kc (l : Launch) (y : MethodName) (ws : List Cond) (rm : Room) (D : va_G) (cl : List vw_C) (tys : List (ClassId × FieldType)) (nz : List Cond) (av : List Value) (w : va_W) (Pw : va_W → Prop) (mc ms : Nat) : Prop :=
  ∀ sz, Met l y ws rm (va_Pc av (wk_B D cl tys nz w sz)) (va_Qv (fun u : va_W => Pw u) (wk_E D cl (va_A w sz)) (va_A w sz)) mc ms (va_A w sz)
section WKC
variable {p : Program} {l : Launch} {e : Env} {R : Room} {s : State} {m : MethodId} {args : Array Value} {below : List Frame} {meth : Method} {c : Code} {H H0 : Heap} {locs : List Loc} {cells slots : Nat} {Q : State → Prop}
variable {D : va_G} {cl : List vw_C} {tys : List (ClassId × FieldType)} {nz Ts : List Cond} {A A0 : Nat → Prop} {w1 wc w2 ws0 : va_W} {Pw : va_W → Prop} {cc : ByteArray} {pc nL : Nat} {own : String} {ls : Array Slot} {rest st0 : List Value} {a : Array Value}
theorem wk_callc {mc ms : Nat} (hr : va_Run p l e R s m args below meth c H locs cells slots mc ms (F0 m pc ls st0) rest (va_Qv (fun u : va_W => Pw u) (wk_E D cl (va_A wc H.size)) (va_A wc H.size) a) (va_A wc H.size)) (hw : ws0 = w1 ++ (wc ++ w2)) (hP : va_P D cl ws0 H) (hD : va_D A0 ws0) (hS : va_S A0 H0 H locs) (hA : ∀ q, H0.size ≤ q → A0 q)
    (kk : ∀ (H1 : Heap) (locs1 : List Loc) (wn : va_W), Pw wn → va_P D cl (w1 ++ (wn ++ w2)) H1 → va_D A0 (w1 ++ (wn ++ w2)) → va_S A0 H0 H1 locs1 → W p l e R s m args below meth c H1 locs1 (cells + mc) (slots + ms) Q (F0 m (pc + 3) ls rest)) : W p l e R s m args below meth c H locs cells slots Q (F0 m pc ls st0) := by
  subst hw
  have hF := wk_free hD hS hA
  refine va_callv hr hS (fun q _ h => hF q h) hF (fun u t H1 locs1 ht hvm h5 hB hz1 hk1 hS1 => ?_)
  obtain ⟨hP1, hD1⟩ := hB
  rw [ht] at hP1
  obtain ⟨hP2, hD2⟩ := wk_join hP hD hk1 hF hP1 hD1
  exact kk H1 locs1 u h5 hP2 hD2 hS1
/-- a private constructor, called from its nest -/
theorem wc_IN {y : MethodName} {bytes : ByteArray} {maxL index mc ms : Nat} {rm : Room} {host : String} {b : Nat} (X : wk_X p s m args meth c cc own nL Ts D cl tys nz A) (hn : ∀ w ∈ nz, wk_nest w) (hM : wk_kc l y (Cond.code y bytes maxL none :: Ts) rm D cl tys nz [.ref b] wc Pw mc ms) (cw : va_CN R s args own index y host bytes maxL none (Cond.code y bytes maxL none :: Ts) rm mc ms 0 ∧ y.name = "<init>" ∧ (Cond.instanceMethod y).before args s = true) (w1 w2 : va_W) (hw : ws0 = w1 ++ (wc ++ w2)) (hP : va_P D cl ws0 H) (hD : va_D A ws0) (hS : va_S A s.heap H locs) (hsize : ls.size = nL) (hroom : (rest.map fun v => v.category).sum ≤ 8) (hf : cells + mc ≤ R.cells ∧ slots + ms ≤ R.slots) (hdg : decode cc pc = .ok (.invokespecial index, 3))
    (kk : ∀ (H1 : Heap) (locs1 : List Loc) (wn : va_W), Pw wn → va_P D cl (w1 ++ (wn ++ w2)) H1 → va_D A (w1 ++ (wn ++ w2)) → va_S A s.heap H1 locs1 → W p l e R s m args below meth c H1 locs1 (cells + mc) (slots + ms) Q (F0 m (pc + 3) ls rest)) : W p l e R s m args below meth c H locs cells slots Q (F0 m pc ls (.ref b :: rest)) := by
  have hP0 := hw ▸ hP
  have hD0 := hw ▸ hD
  exact wk_callc (va_runIN (g := F0 m pc ls _) (As := []) (rest := rest) X.1 (hM H.size) cw (wk_pre hn X.2.1 X.2.2.1 (wk_cutP hP0) (wk_cutD hD0)) rfl rfl hsize rfl (lv_room hroom) hdg hf) hw hP hD hS X.2.2.2.1 kk
/-- a constructor that the pool names without a nest -/
theorem wc_I {y : MethodName} {bytes : ByteArray} {maxL index mc ms : Nat} {rm : Room} {b : Nat} (X : wk_X p s m args meth c cc own nL Ts D cl tys nz A) (hn : ∀ w ∈ nz, wk_nest w) (hM : wk_kc l y (Cond.code y bytes maxL none :: Ts) rm D cl tys nz [.ref b] wc Pw mc ms) (cw : CallB R s args own index y bytes maxL none (Cond.code y bytes maxL none :: Ts) rm mc ms 0 ∧ y.name = "<init>" ∧ (Cond.instanceMethod y).before args s = true) (w1 w2 : va_W) (hw : ws0 = w1 ++ (wc ++ w2)) (hP : va_P D cl ws0 H) (hD : va_D A ws0) (hS : va_S A s.heap H locs) (hsize : ls.size = nL) (hroom : (rest.map fun v => v.category).sum ≤ 8) (hf : cells + mc ≤ R.cells ∧ slots + ms ≤ R.slots) (hdg : decode cc pc = .ok (.invokespecial index, 3))
    (kk : ∀ (H1 : Heap) (locs1 : List Loc) (wn : va_W), Pw wn → va_P D cl (w1 ++ (wn ++ w2)) H1 → va_D A (w1 ++ (wn ++ w2)) → va_S A s.heap H1 locs1 → W p l e R s m args below meth c H1 locs1 (cells + mc) (slots + ms) Q (F0 m (pc + 3) ls rest)) : W p l e R s m args below meth c H locs cells slots Q (F0 m pc ls (.ref b :: rest)) := by
  have hP0 := hw ▸ hP
  have hD0 := hw ▸ hD
  exact wk_callc (va_runI (g := F0 m pc ls _) (As := []) (rest := rest) X.1 (hM H.size) cw (wk_pre hn X.2.1 X.2.2.1 (wk_cutP hP0) (wk_cutD hD0)) rfl rfl hsize rfl (lv_room hroom) hdg hf) hw hP hD hS X.2.2.2.1 kk
/-! an array: its class is the one that is known -/
theorem wo_ni {cI cJ cS : ClassId} (X : wk_X p s m args meth c cc own nL Ts D cl (kT cI cJ cS) nz A) (harr : (Cond.arrayClass .int).before args s = true) (hP : va_P D cl ws0 H) (hD : va_D A ws0) (hS : va_S A s.heap H locs) {n : Int32} (N : Nat) (hn : n = nI N) (hN : N ≤ 100) (hcells : cells + 1 ≤ R.cells) (hslots : slots + N ≤ R.slots) (hdg : decode cc pc = .ok (.newarray .int, 2))
    (kk : ∀ (q : Nat) (H1 : Heap), va_P D cl (ws0 ++ [(q, .inl (cI, N, .inl (fun _ => 0)))]) H1 → va_D A (ws0 ++ [(q, .inl (cI, N, .inl (fun _ => 0)))]) → va_S A s.heap H1 locs → W p l e R s m args below meth c H1 locs (cells + 1) (slots + N) Q (F0 m (pc + 2) ls (.ref q :: rest))) : W p l e R s m args below meth c H locs cells slots Q (F0 m pc ls (.int n :: rest)) := by
  subst hn
  refine va_newa (atype := .int) (ty := .int) (a0 := (N, .inl (fun _ => 0))) X.1.1 X.1.2.1 harr rfl X.2.1 hP hD hS X.2.2.2.1 (fun _ => rfl) (nI_pos (by omega)) (nI_clamp (by omega)) ?_ hcells hslots hdg (fun q cA H1 hK hP hD hS => ?_)
  · show N * 4 ≤ _
    omega
  · have e1 := (hK.2 3 _ rfl).2
    have e2 := (X.2.1.2 0 _ rfl).2
    have e : cA = cI := Option.some.inj (e1.symm.trans e2)
    subst e
    exact kk q H1 hP hD hS
theorem wo_nl {cI cJ cS : ClassId} (X : wk_X p s m args meth c cc own nL Ts D cl (kT cI cJ cS) nz A) (harr : (Cond.arrayClass .long).before args s = true) (hP : va_P D cl ws0 H) (hD : va_D A ws0) (hS : va_S A s.heap H locs) {n : Int32} (N : Nat) (hn : n = nI N) (hN : N ≤ 100) (hcells : cells + 1 ≤ R.cells) (hslots : slots + N ≤ R.slots) (hdg : decode cc pc = .ok (.newarray .long, 2))
    (kk : ∀ (q : Nat) (H1 : Heap), va_P D cl (ws0 ++ [(q, .inl (cJ, N, .inr (.inl (fun _ => 0))))]) H1 → va_D A (ws0 ++ [(q, .inl (cJ, N, .inr (.inl (fun _ => 0))))]) → va_S A s.heap H1 locs → W p l e R s m args below meth c H1 locs (cells + 1) (slots + N) Q (F0 m (pc + 2) ls (.ref q :: rest))) : W p l e R s m args below meth c H locs cells slots Q (F0 m pc ls (.int n :: rest)) := by
  subst hn
  refine va_newa (atype := .long) (ty := .long) (a0 := (N, .inr (.inl (fun _ => 0)))) X.1.1 X.1.2.1 harr rfl X.2.1 hP hD hS X.2.2.2.1 (fun _ => rfl) (nI_pos (by omega)) (nI_clamp (by omega)) ?_ hcells hslots hdg (fun q cA H1 hK hP hD hS => ?_)
  · show N * 8 ≤ _
    omega
  · have e1 := (hK.2 3 _ rfl).2
    have e2 := (X.2.1.2 1 _ rfl).2
    have e : cA = cJ := Option.some.inj (e1.symm.trans e2)
    subst e
    exact kk q H1 hP hD hS
theorem wo_ns {cI cJ cS : ClassId} {index : Nat} (X : wk_X p s m args meth c cc own nL Ts D cl (kT cI cJ cS) nz A) (hlink : (Cond.classLink own index "LoopRanker$Step").before args s = true) (hover : va_AO "LoopRanker$Step" s) (hP : va_P D cl ws0 H) (hD : va_D A ws0) (hS : va_S A s.heap H locs) {n : Int32} (N : Nat) (hn : n = nI N) (hN : N ≤ 100) (hcells : cells + 1 ≤ R.cells) (hslots : slots + N ≤ R.slots) (hdg : decode cc pc = .ok (.anewarray index, 3))
    (kk : ∀ (q : Nat) (H1 : Heap), va_P D cl (ws0 ++ [(q, .inl (cS, N, .inr (.inr (.inr (.inr (fun _ => none))))))]) H1 → va_D A (ws0 ++ [(q, .inl (cS, N, .inr (.inr (.inr (.inr (fun _ => none))))))]) → va_S A s.heap H1 locs → W p l e R s m args below meth c H1 locs (cells + 1) (slots + N) Q (F0 m (pc + 3) ls (.ref q :: rest))) : W p l e R s m args below meth c H locs cells slots Q (F0 m pc ls (.int n :: rest)) := by
  subst hn
  refine va_newq X.1.1 X.1.2.1 X.1.2.2.2.1 hlink hover X.2.1 hP hD hS X.2.2.2.1 (nI_pos (by omega)) (nI_clamp (by omega)) (by omega) hcells hslots hdg (fun q cA H1 hK hP hD hS => ?_)
  obtain ⟨-, -, -, -, -, e1⟩ := (hK.2 3 _ rfl).2
  obtain ⟨-, -, -, -, -, e2⟩ := (X.2.1.2 2 _ rfl).2
  have e : cA = cS := Option.some.inj (e1.symm.trans e2)
  subst e
  exact kk q H1 hP hD hS
end WKC
section WSC
variable {l : Launch} {y : MethodName} {ws' : List Cond} {rm : Room} {av : List Value} {w : va_W} {Pw : va_W → Prop} {cc : ByteArray} {maxL mc ms : Nat} {D : va_G} {cl : List vw_C} {tys : List (ClassId × FieldType)} {nz : List Cond}
theorem ws_c (hy : plainFor y = true) (hlen : (lg_sl av).length ≤ maxL)
    (body : ∀ (p : Program) (e : Env) (s : State) (m : MethodId) (below : List Frame) (meth : Method) (c : Code) (A : Nat → Prop) (ls : Array Slot) (Q : State → Prop), wk_X p s m av.toArray meth c cc y.cls maxL ws' D cl tys nz A → meth.name = y.name →
      (∀ (pc : Nat) (H : Heap) (locs : List Loc) (ls : Array Slot) (ws0 : va_W) (cells slots : Nat), va_P D cl ws0 H → va_D A ws0 → va_S A s.heap H locs → decode cc pc = .ok (.return_, 1) → cells ≤ mc → slots ≤ ms → Pw ws0 → W p l e rm s m av.toArray below meth c H locs cells slots Q (F0 m pc ls [])) →
      lv_has ls maxL (lv_args 0 av) → va_P D cl w s.heap → va_D A w → va_S A s.heap s.heap [] → W p l e rm s m av.toArray below meth c s.heap [] 0 0 Q (F0 m 0 ls [])) :
    wk_kc l y (Cond.code y cc maxL none :: ws') rm D cl tys nz av w Pw mc ms := by
  intro sz
  refine wk_start (fun A => va_Qv (fun u : va_W => Pw u) (wk_E D cl A) A) hy hlen ?_
  intro p e s m below meth c A ls X hr hname hl hP hD hS
  exact body p e s m below meth c A ls _ X hname (fun pc H locs ls ws0 cells slots hP hD hS hd h1 h2 hu => we_v X hr hP hD hS hd h1 h2 hu) hl hP hD hS
end WSC
