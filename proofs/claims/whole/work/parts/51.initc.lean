/-! The constructor of the class -/
def wk_ke (l : Launch) (y : MethodName) (ws : List Cond) (rm : Room) (D : va_G) (cl : List vw_C) (tys : List (ClassId × FieldType)) (nz : List Cond) (av : List Value) (w : va_W) (E : State → Prop) (Pw : va_W → Prop) (mc ms : Nat) : Prop :=
  ∀ sz, Met l y ws rm (va_Pc av (fun U => wk_B D cl tys nz w sz U ∧ E U)) (va_Qv (fun u : va_W => Pw u) (wk_E D cl (va_A w sz)) (va_A w sz)) mc ms (va_A w sz)
section WSE
variable {l : Launch} {y : MethodName} {ws' : List Cond} {rm : Room} {av : List Value} {w : va_W} {E : State → Prop} {Pw : va_W → Prop} {cc : ByteArray} {maxL mc ms : Nat} {D : va_G} {cl : List vw_C} {tys : List (ClassId × FieldType)} {nz : List Cond}
theorem ws_e (hy : plainFor y = true) (hlen : (lg_sl av).length ≤ maxL)
    (body : ∀ (p : Program) (e : Env) (s : State) (m : MethodId) (below : List Frame) (meth : Method) (c : Code) (A : Nat → Prop) (ls : Array Slot) (Q : State → Prop), wk_X p s m av.toArray meth c cc y.cls maxL ws' D cl tys nz A → E s → meth.name = y.name →
      (∀ (pc : Nat) (H : Heap) (locs : List Loc) (ls : Array Slot) (ws0 : va_W) (cells slots : Nat), va_P D cl ws0 H → va_D A ws0 → va_S A s.heap H locs → decode cc pc = .ok (.return_, 1) → cells ≤ mc → slots ≤ ms → Pw ws0 → W p l e rm s m av.toArray below meth c H locs cells slots Q (F0 m pc ls [])) →
      lv_has ls maxL (lv_args 0 av) → va_P D cl w s.heap → va_D A w → va_S A s.heap s.heap [] → W p l e rm s m av.toArray below meth c s.heap [] 0 0 Q (F0 m 0 ls [])) :
    wk_ke l y (Cond.code y cc maxL none :: ws') rm D cl tys nz av w E Pw mc ms := by
  intro sz
  refine wk_met hy ?_
  intro p e s m args below meth c s₁ B hml hv
  obtain ⟨rfl, ⟨hsz, hP, hK, hD0, hZ⟩, hE⟩ := hv
  have hts := atoms_spec (ws := Cond.code y cc maxL none :: ws') B.pre
  have hown := findClass_of_methodNamed B.named
  have hname := (name_of_methodNamed B.named B.method).1
  subst hsz
  have hD := hD0.self (sz := s.heap.size)
  have hl := lv_entry av (n := maxL) hlen
  rw [lg_entry_eq]
  have X : wk_X p s m av.toArray meth c cc y.cls maxL ws' D cl tys nz (va_A w s.heap.size) := ⟨⟨B.exec, B.bytes, hml, hown, fun w hw => hts w (List.mem_cons_of_mem _ hw)⟩, hK, hZ, fun q h => Or.inr h, B.notSynchronized⟩
  exact body p e s m below meth c (va_A w s.heap.size) _ _ X hE hname (fun pc H locs ls ws0 cells slots hP hD hS hd h1 h2 hu => we_v X B.returns hP hD hS hd h1 h2 hu) hl hP hD va_S.rf
end WSE
abbrev rmLI : Room := { frames := 3, cells := 50, slots := 853, locals := 67 }
def nb (q q1 a1 a2 a3 q2 q3 : Nat) : bT := (fun i => match i with | 0 => q | 1 => q1 | 2 => a1 | 3 => a2 | 4 => a3 | 5 => q2 | _ => q3, (fun _ => 0, fun _ => 0, fun _ => 0), (0, 0), (0, 0), (fun _ => 0, fun _ => 0, 0))
theorem nb_OK (us vs : Nat → Int32) (q q1 a1 a2 a3 q2 q3 : Nat) : bOK us vs (nb q q1 a1 a2 a3 q2 q3) := ⟨Nat.zero_le _, Or.inl rfl, fun h => absurd rfl h, fun h => absurd rfl h⟩
theorem fW_snoc (cI : ClassId) (pre : va_W) (bs : List bT) (b : bT) : pre ++ fW cI (bs ++ [b]) = (pre ++ fW cI bs) ++ (bW cI b ++ []) := by
  unfold fW
  rw [List.flatMap_append, List.flatMap_cons, List.flatMap_nil, List.append_assoc]
theorem bF_snoc (bs : List bT) (b : bT) : va_up (bF bs) bs.length (some (b.1 0)) = bF (bs ++ [b]) := by
  funext j
  unfold bF
  by_cases c : j = bs.length
  · subst c
    rw [va_up_self, List.getElem?_append_right (Nat.le_refl _), Nat.sub_self]
    rfl
  · rw [va_up_ne _ _ c]
    by_cases c2 : j < bs.length
    · rw [List.getElem?_append_left c2]
    · rw [List.getElem?_eq_none (by omega), List.getElem?_eq_none (by rw [List.length_append, List.length_singleton]; omega)]
theorem bF_nil : (fun _ => none) = bF [] := by
  funext j
  unfold bF
  rw [List.getElem?_nil]
  rfl
abbrev iP (cS : ClassId) (lr sa : Nat) (bs : List bT) : va_W := [(lr, .inr (3, [.ref sa, .null, .int 0, .long 0, .long 0, .int 0])), (sa, .inl (cS, 6, .inr (.inr (.inr (.inr (bF bs))))))]
section CT
variable {l : Launch} {D : va_G} {cI cJ cS : ClassId}
set_option maxHeartbeats 4000000 in
set_option maxRecDepth 100000 in
theorem c_LoopRanker_init (lr : Nat) : wk_ke l y_LoopRanker_init (Cond.code y_LoopRanker_init b_LoopRanker_init 2 none :: BW) rmLI D cls (kT cI cJ cS) nz [.ref lr] [(lr, .inr (3, [.null, .null, .int 0, .long 0, .long 0, .int 0]))] (va_AO "LoopRanker$Step") (fun wz => ∃ sa po u1 u2 l1 l2 l3 l4 bs, wz = rW cI cJ cS lr sa po u1 u2 l1 l2 l3 l4 uS vS (fun _ => 0) (fun _ => 0) (fun _ => 0) (fun _ => 0) 0 0 0 bs 0 0 0 0 ∧ bsOK uS vS bs) 50 853 := by
  refine ws_e (plainFor_of_name (by decide)) (Nat.le_of_ble_eq_true rfl) ?_
  intro p e s m below meth c A ls Q X hE hname hret hl hP hD hS
  have hin : meth.name = "<init>" := hname
  obtain ⟨H, hH⟩ : ∃ H, H = s.heap := ⟨_, rfl⟩
  obtain ⟨locs, hlo⟩ : ∃ locs : List Loc, locs = [] := ⟨_, rfl⟩
  have hP : va_P D cls [(lr, .inr (3, [.null, .null, .int 0, .long 0, .long 0, .int 0]))] H := by rw [hH]; exact hP
  have hS : va_S A s.heap H locs := by rw [hH, hlo]; exact hS
  suffices hgo : W p l e rmLI s m ([.ref lr] : List Value).toArray below meth c H locs 0 0 Q (F0 m 0 ls []) by rw [hH, hlo] at hgo; exact hgo
  clear hH hlo
  have hl : lv_has ls 2 [(0, .ref lr)] := hl
  refine lv_aload_n X.1.1 X.1.2.1 d_LoopRanker_init_0 rfl (lv_at hl 0 rfl) ?_
  refine W.objInit X.1.1 X.1.2.1 X.1.2.2.2.1 (X.1.2.2.2.2 _ (List.mem_append_left _ (List.mem_of_getElem? (i := 12) rfl))) (X.1.2.2.2.2 _ (List.mem_append_left _ (List.mem_of_getElem? (i := 13) rfl))) (X.1.2.2.2.2 _ (List.mem_append_left _ (List.mem_of_getElem? (i := 14) rfl))) rfl (by rw [X.1.2.2.1]; exact hl.1) rfl d_LoopRanker_init_1 (Nat.le_of_ble_eq_true rfl) (Nat.le_of_ble_eq_true rfl) ?_
  refine W.eq (g2 := F0 m 4 ls []) rfl ?_
  refine lv_aload_n X.1.1 X.1.2.1 d_LoopRanker_init_4 rfl (lv_at hl 0 rfl) ?_
  refine lv_bipush (v := (6 : Int32)) X.1.1 X.1.2.1 d_LoopRanker_init_5 (by decide) ?_
  refine wo_ns X (X.1.2.2.2.2 _ (List.mem_append_left _ (List.mem_of_getElem? (i := 15) rfl))) hE hP hD hS 6 (by decide) (by decide) (Nat.le_of_ble_eq_true rfl) (Nat.le_of_ble_eq_true rfl) d_LoopRanker_init_7 (fun sa H hP hD hS => ?_)
  refine W.widen (k := 1) (n := 6) (Nat.le_of_ble_eq_true rfl) (Nat.le_of_ble_eq_true rfl) ?_
  have hP : va_P D cls [(lr, .inr (3, [.null, .null, .int 0, .long 0, .long 0, .int 0])), (sa, .inl (cS, 6, .inr (.inr (.inr (.inr (fun _ => none))))))] H := hP
  have hD : va_D A [(lr, .inr (3, [.null, .null, .int 0, .long 0, .long 0, .int 0])), (sa, .inl (cS, 6, .inr (.inr (.inr (.inr (fun _ => none))))))] := hD
  refine fp_LoopRanker_11 X hin hP hD hS 0 rfl rfl rfl rfl d_LoopRanker_init_10 (fun H locs hP hD hS => ?_)
  have hP : va_P D cls [(lr, .inr (3, [.ref sa, .null, .int 0, .long 0, .long 0, .int 0])), (sa, .inl (cS, 6, .inr (.inr (.inr (.inr (fun _ => none))))))] H := hP
  have hD : va_D A [(lr, .inr (3, [.ref sa, .null, .int 0, .long 0, .long 0, .int 0])), (sa, .inl (cS, 6, .inr (.inr (.inr (.inr (fun _ => none))))))] := hD
  rw [bF_nil] at hP hD
  have hP : va_P D cls (iP cS lr sa [] ++ fW cI []) H := hP
  have hD : va_D A (iP cS lr sa [] ++ fW cI []) := hD
  refine lv_iconst (v := (0 : Int32)) X.1.1 X.1.2.1 d_LoopRanker_init_13 (by decide) ?_
  refine lv_istore_n X.1.1 X.1.2.1 d_LoopRanker_init_14 rfl hl (by decide) rfl (fun ls hl => ?_)
  have hl : lv_has ls 2 [(1, .int (nI 0)), (0, .ref lr)] := hl
  have lp15 : ∀ (k15 : Nat) (i : Nat) (bs : List bT) (ls : Array Slot) (H : Heap) (locs : List Loc), i + k15 = 6 → bs.length = i → (∀ (k : Nat) (b : bT), bs[k]? = some b → bOK uS vS b) → lv_has ls 2 [(1, .int (nI i)), (0, .ref lr)] → va_P D cls (iP cS lr sa bs ++ fW cI bs) H → va_D A (iP cS lr sa bs ++ fW cI bs) → va_S A s.heap H locs → W p l e rmLI s m ([.ref lr] : List Value).toArray below meth c H locs (1 + 7 * i) (6 + 109 * i) Q (F0 m 15 ls ([])) := by
    intro k15
    induction k15 with
    | zero =>
      intro i bs ls H locs hik hbl hbo hl hP hD hS
      have hi6 : i = 6 := by omega
      subst hi6
      refine W.widen (k := 43) (n := 660) (by omega) (by omega) ?_
      refine lv_iload_n X.1.1 X.1.2.1 d_LoopRanker_init_15 rfl (lv_at hl 0 rfl) ?_
      refine lv_bipush (v := (6 : Int32)) X.1.1 X.1.2.1 d_LoopRanker_init_16 (by decide) ?_
      refine wn_ge (a := 6) (b := 6) (tgt := 40) X.1.1 X.1.2.1 d_LoopRanker_init_18 (by decide) (by omega) (by omega) (fun h18 => ?_) (fun h18 => by exfalso; omega)
      refine lv_aload_n X.1.1 X.1.2.1 d_LoopRanker_init_40 rfl (lv_at hl 1 rfl) ?_
      refine va_new (ci := 2) (fs := [.null, .null, .null, .null, .null, .null, .int 0, .int 0, .int 0]) (C := R_Proof) (T := F_Proof) (N := 9) X.1.1 X.1.2.1 X.1.2.2.2.2 hin_Proof t_Proof t_Proof_ok X.1.2.2.2.1 (X.1.2.2.2.2 _ (List.mem_append_right _ (List.mem_append_right _ (List.mem_append_right _ (List.mem_append_left _ (List.mem_of_getElem? (i := 4) rfl)))))) (X.1.2.2.2.2 _ (List.mem_append_right _ (List.mem_append_right _ (List.mem_append_right _ (List.mem_append_left _ (List.mem_of_getElem? (i := 5) rfl)))))) (X.1.2.2.2.2 _ (List.mem_append_left _ (List.mem_of_getElem? (i := 4) rfl))) X.2.1 hP hD hS X.2.2.2.1 rfl (fun j hj => by rcases (show j = 0 ∨ j = 1 ∨ j = 2 ∨ j = 3 ∨ j = 4 ∨ j = 5 ∨ j = 6 ∨ j = 7 ∨ j = 8 by omega) with rfl | rfl | rfl | rfl | rfl | rfl | rfl | rfl | rfl <;> rfl) (Nat.le_of_ble_eq_true rfl) (Nat.le_of_ble_eq_true rfl) d_LoopRanker_init_41 (fun po H hP hD hS => ?_)
      refine W.widen (k := 44) (n := 669) (Nat.le_of_ble_eq_true rfl) (Nat.le_of_ble_eq_true rfl) ?_
      refine lv_dup X.1.1 X.1.2.1 d_LoopRanker_init_44 rfl ?_
      refine wc_IN X nz_nest (c_Proof_init po) ⟨va_cnB 0 X.1.2.2.2.2 (BW_good kw_Proof_init) rfl rfl rfl (X.2.2.1 _ (List.mem_of_getElem? (i := 9) rfl)) (X.1.2.2.2.2 _ (List.mem_append_left _ (List.mem_of_getElem? (i := 4) rfl))) ⟨by decide, by decide, by decide +kernel⟩ (by decide), rfl, (X.1.2.2.2.2 _ (List.mem_append_right _ (List.mem_append_right _ (List.mem_append_right _ (List.mem_append_left _ (List.mem_of_getElem? (i := 6) rfl))))))⟩ (iP cS lr sa bs ++ fW cI bs) [] (by rw [List.append_nil]) hP hD hS hl.1 (Nat.le_of_ble_eq_true rfl) (by decide) d_LoopRanker_init_45 (fun H locs wn hwn hP hD hS => ?_)
      obtain ⟨u1, u2, l1, l2, l3, l4, rfl⟩ := hwn
      refine W.widen (k := 50) (n := 853) (Nat.le_of_ble_eq_true rfl) (Nat.le_of_ble_eq_true rfl) ?_
      have hpm : ∀ f0 : Value, ((([(lr, .inr (3, [.ref sa, f0, .int 0, .long 0, .long 0, .int 0])), (sa, .inl (cS, 6, .inr (.inr (.inr (.inr (bF bs))))))] : va_W) ++ lW cI cJ po u1 u2 l1 l2 l3 l4 uS vS (fun _ => 0) (fun _ => 0) (fun _ => 0) (fun _ => 0) 0 0 0) ++ fW cI bs).Perm ((([(lr, .inr (3, [.ref sa, f0, .int 0, .long 0, .long 0, .int 0])), (sa, .inl (cS, 6, .inr (.inr (.inr (.inr (bF bs))))))] : va_W) ++ fW cI bs) ++ (lW cI cJ po u1 u2 l1 l2 l3 l4 uS vS (fun _ => 0) (fun _ => 0) (fun _ => 0) (fun _ => 0) 0 0 0 ++ [])) := by
        intro f0
        rw [List.append_nil, List.append_assoc, List.append_assoc]
        exact List.Perm.append_left _ List.perm_append_comm
      have hP := wk_permP hP (hpm .null)
      have hD := wk_permD hD (hpm .null)
      refine fp_LoopRanker_19 X hin hP hD hS 0 rfl rfl rfl rfl d_LoopRanker_init_48 (fun H locs hP hD hS => ?_)
      have hP : va_P D cls (rW cI cJ cS lr sa po u1 u2 l1 l2 l3 l4 uS vS (fun _ => 0) (fun _ => 0) (fun _ => 0) (fun _ => 0) 0 0 0 bs 0 0 0 0) H := hP
      have hD : va_D A (rW cI cJ cS lr sa po u1 u2 l1 l2 l3 l4 uS vS (fun _ => 0) (fun _ => 0) (fun _ => 0) (fun _ => 0) 0 0 0 bs 0 0 0 0) := hD
      refine lv_aload_n X.1.1 X.1.2.1 d_LoopRanker_init_51 rfl (lv_at hl 1 rfl) ?_
      refine lv_iconst (v := (0 : Int32)) X.1.1 X.1.2.1 d_LoopRanker_init_52 (by decide) ?_
      refine fp_LoopRanker_23 X hP hD hS 0 rfl rfl rfl rfl d_LoopRanker_init_53 (fun H locs hP hD hS => ?_)
      have hP : va_P D cls (rW cI cJ cS lr sa po u1 u2 l1 l2 l3 l4 uS vS (fun _ => 0) (fun _ => 0) (fun _ => 0) (fun _ => 0) 0 0 0 bs 0 0 0 0) H := hP
      have hD : va_D A (rW cI cJ cS lr sa po u1 u2 l1 l2 l3 l4 uS vS (fun _ => 0) (fun _ => 0) (fun _ => 0) (fun _ => 0) 0 0 0 bs 0 0 0 0) := hD
      refine lv_aload_n X.1.1 X.1.2.1 d_LoopRanker_init_56 rfl (lv_at hl 1 rfl) ?_
      refine lv_lconst (v := 0) X.1.1 X.1.2.1 d_LoopRanker_init_57 (by decide) ?_
      refine fp_LoopRanker_27 X hP hD hS 0 rfl rfl rfl rfl d_LoopRanker_init_58 (fun H locs hP hD hS => ?_)
      have hP : va_P D cls (rW cI cJ cS lr sa po u1 u2 l1 l2 l3 l4 uS vS (fun _ => 0) (fun _ => 0) (fun _ => 0) (fun _ => 0) 0 0 0 bs 0 0 0 0) H := hP
      have hD : va_D A (rW cI cJ cS lr sa po u1 u2 l1 l2 l3 l4 uS vS (fun _ => 0) (fun _ => 0) (fun _ => 0) (fun _ => 0) 0 0 0 bs 0 0 0 0) := hD
      refine lv_aload_n X.1.1 X.1.2.1 d_LoopRanker_init_61 rfl (lv_at hl 1 rfl) ?_
      refine lv_lconst (v := 0) X.1.1 X.1.2.1 d_LoopRanker_init_62 (by decide) ?_
      refine fp_LoopRanker_31 X hP hD hS 0 rfl rfl rfl rfl d_LoopRanker_init_63 (fun H locs hP hD hS => ?_)
      have hP : va_P D cls (rW cI cJ cS lr sa po u1 u2 l1 l2 l3 l4 uS vS (fun _ => 0) (fun _ => 0) (fun _ => 0) (fun _ => 0) 0 0 0 bs 0 0 0 0) H := hP
      have hD : va_D A (rW cI cJ cS lr sa po u1 u2 l1 l2 l3 l4 uS vS (fun _ => 0) (fun _ => 0) (fun _ => 0) (fun _ => 0) 0 0 0 bs 0 0 0 0) := hD
      refine lv_aload_n X.1.1 X.1.2.1 d_LoopRanker_init_66 rfl (lv_at hl 1 rfl) ?_
      refine lv_iconst (v := (0 : Int32)) X.1.1 X.1.2.1 d_LoopRanker_init_67 (by decide) ?_
      refine fp_LoopRanker_34 X hP hD hS 0 rfl rfl rfl rfl d_LoopRanker_init_68 (fun H locs hP hD hS => ?_)
      have hP : va_P D cls (rW cI cJ cS lr sa po u1 u2 l1 l2 l3 l4 uS vS (fun _ => 0) (fun _ => 0) (fun _ => 0) (fun _ => 0) 0 0 0 bs 0 0 0 0) H := hP
      have hD : va_D A (rW cI cJ cS lr sa po u1 u2 l1 l2 l3 l4 uS vS (fun _ => 0) (fun _ => 0) (fun _ => 0) (fun _ => 0) 0 0 0 bs 0 0 0 0) := hD
      exact hret 71 H locs ls _ _ _ hP hD hS d_LoopRanker_init_71 (Nat.le_of_ble_eq_true rfl) (Nat.le_of_ble_eq_true rfl) ⟨sa, po, u1, u2, l1, l2, l3, l4, bs, rfl, hbl, hbo⟩
    | succ k15 ih15 =>
      intro i bs ls H locs hik hbl hbo hl hP hD hS
      refine lv_iload_n X.1.1 X.1.2.1 d_LoopRanker_init_15 rfl (lv_at hl 0 rfl) ?_
      refine lv_bipush (v := (6 : Int32)) X.1.1 X.1.2.1 d_LoopRanker_init_16 (by decide) ?_
      refine wn_ge (a := i) (b := 6) (tgt := 40) X.1.1 X.1.2.1 d_LoopRanker_init_18 (by decide) (by omega) (by omega) (fun h18 => by exfalso; omega) (fun h18 => ?_)
      refine lv_aload_n X.1.1 X.1.2.1 d_LoopRanker_init_21 rfl (lv_at hl 1 rfl) ?_
      refine fg_LoopRanker_11 X hP 0 rfl rfl d_LoopRanker_init_22 ?_
      refine lv_iload_n X.1.1 X.1.2.1 d_LoopRanker_init_25 rfl (lv_at hl 0 rfl) ?_
      refine va_new (ci := 1) (fs := [.null, .null, .null, .int 0]) (C := R_Step) (T := F_Step) (N := 4) X.1.1 X.1.2.1 X.1.2.2.2.2 hin_Step t_Step t_Step_ok X.1.2.2.2.1 (X.1.2.2.2.2 _ (List.mem_append_left _ (List.mem_of_getElem? (i := 15) rfl))) (X.1.2.2.2.2 _ (List.mem_append_left _ (List.mem_of_getElem? (i := 16) rfl))) (X.1.2.2.2.2 _ (List.mem_append_left _ (List.mem_of_getElem? (i := 2) rfl))) X.2.1 hP hD hS X.2.2.2.1 rfl (fun j hj => by rcases (show j = 0 ∨ j = 1 ∨ j = 2 ∨ j = 3 by omega) with rfl | rfl | rfl | rfl <;> rfl) (show 1 + 7 * i + 1 ≤ 50 by omega) (show 6 + 109 * i + 4 ≤ 853 by omega) d_LoopRanker_init_26 (fun q H hP hD hS => ?_)
      refine lv_dup X.1.1 X.1.2.1 d_LoopRanker_init_29 rfl ?_
      refine wc_IN X nz_nest (c_Step_init q) ⟨va_cnB 0 X.1.2.2.2.2 (BW_good kw_Step_init) rfl rfl rfl (X.2.2.1 _ (List.mem_of_getElem? (i := 0) rfl)) (X.1.2.2.2.2 _ (List.mem_append_left _ (List.mem_of_getElem? (i := 2) rfl))) ⟨by decide, by decide, by decide +kernel⟩ (by decide), rfl, (X.1.2.2.2.2 _ (List.mem_append_left _ (List.mem_of_getElem? (i := 17) rfl)))⟩ (iP cS lr sa bs ++ fW cI bs) [] (by rw [List.append_nil]) hP hD hS hl.1 (Nat.le_of_ble_eq_true rfl) ⟨show 1 + 7 * i + 1 + 6 ≤ 50 by omega, show 6 + 109 * i + 4 + 105 ≤ 853 by omega⟩ d_LoopRanker_init_30 (fun H locs wn hwn hP hD hS => ?_)
      obtain ⟨q1, a1, a2, a3, q2, q3, rfl⟩ := hwn
      refine W.widen (k := 1 + 7 * (i + 1)) (n := 6 + 109 * (i + 1)) (by omega) (by omega) ?_
      have hP : va_P D cls (iP cS lr sa bs ++ fW cI (bs ++ [nb q q1 a1 a2 a3 q2 q3])) H := by rw [fW_snoc]; exact hP
      have hD : va_D A (iP cS lr sa bs ++ fW cI (bs ++ [nb q q1 a1 a2 a3 q2 q3])) := by rw [fW_snoc]; exact hD
      have hbn : (bs ++ [nb q q1 a1 a2 a3 q2 q3])[bs.length]? = some (nb q q1 a1 a2 a3 q2 q3) := by
        rw [List.getElem?_append_right (Nat.le_refl _), Nat.sub_self]
        rfl
      obtain ⟨qk, hqk⟩ := wb_pos (cI := cI) hbn (iP cS lr sa bs)
      refine wa_ast X.1.1 X.1.2.1 X.2.1 hP hD hS 1 2 qk 1 rfl rfl hqk rfl i rfl (by omega) (by decide) d_LoopRanker_init_33 (fun H locs hP hD hS => ?_)
      have hbf : va_up (bF bs) i (some ((nb q q1 a1 a2 a3 q2 q3).1 0)) = bF (bs ++ [nb q q1 a1 a2 a3 q2 q3]) := by rw [← hbl]; exact bF_snoc bs _
      have hP : va_P D cls ([(lr, .inr (3, [.ref sa, .null, .int 0, .long 0, .long 0, .int 0])), (sa, .inl (cS, 6, .inr (.inr (.inr (.inr (va_up (bF bs) i (some ((nb q q1 a1 a2 a3 q2 q3).1 0))))))))] ++ fW cI (bs ++ [nb q q1 a1 a2 a3 q2 q3])) H := hP
      have hD : va_D A ([(lr, .inr (3, [.ref sa, .null, .int 0, .long 0, .long 0, .int 0])), (sa, .inl (cS, 6, .inr (.inr (.inr (.inr (va_up (bF bs) i (some ((nb q q1 a1 a2 a3 q2 q3).1 0))))))))] ++ fW cI (bs ++ [nb q q1 a1 a2 a3 q2 q3])) := hD
      rw [hbf] at hP hD
      refine lv_iinc (k := 0) (v := nI (i + 1)) X.1.1 X.1.2.1 d_LoopRanker_init_34 hl rfl (nI_1 i) (by decide) rfl (fun ls hl => ?_)
      have hl : lv_has ls 2 [(1, .int (nI (i + 1))), (0, .ref lr)] := hl
      refine lv_goto (tgt := 15) X.1.1 X.1.2.1 d_LoopRanker_init_37 (by decide) ?_
      exact ih15 (i + 1) _ ls H locs (by omega) (by rw [List.length_append, List.length_singleton]; omega) (fun k b hb => by
        by_cases ck : k < bs.length
        · rw [List.getElem?_append_left ck] at hb; exact hbo k b hb
        · rw [List.getElem?_append_right (by omega)] at hb
          have hz : k - bs.length < 1 := (List.getElem?_eq_some_iff.mp hb).1
          rw [show k - bs.length = 0 by omega] at hb
          cases hb
          exact nb_OK uS vS q q1 a1 a2 a3 q2 q3) hl hP hD hS
  exact lp15 6 0 [] ls H locs (by omega) rfl (fun k b hb => by rw [List.getElem?_nil] at hb; cases hb) hl hP hD hS
end CT
