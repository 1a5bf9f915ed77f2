/-! THE CLAIM OUT OF ONE WALK OF THE LAW'S BODY. Your part is whole_start (and what it stands on); all else here is the same for every law, but numbers. -/
def R_law : String := "LoopRankerLaw"
def lw_P (b : Addr) (xs : List Int32) (args : Array Value) (s : State) : Prop := args = #[.ref b] ∧ s.IntsAt b xs ∧ xs.length ≤ 3072 ∧ (Jvm.Cond.and given_1 narrow_1).before args s = true
def lw_Q (_ : Array Value) (s : State) (o : Outcome) (t : State) : Prop := o = .returned (some (.int 1)) ∧ Framed s o t [] 600000 7302250
def lw_Z (below : List Frame) (a : Array Value) (s : State) : State → Prop := fun t => ∃ o, t.status = .running ∧ Ended t below o ∧ lw_Q a s o t
/-- the law's own end, with 1 on the stack, nothing written that was there before, its room as the claim has it -/
theorem lw_ret {p : Program} {l : Launch} {e : Env} {s : State} {m : MethodId} {below : List Frame} {meth : Method} {c : Code} {b : Nat} (hx : p.tables.exec = Jvm.exec) (hb : c.code = code) (hr : meth.sig.returnType = ret) (hlocks : meth.locks = false) {pc : Nat} {H : Heap} {ls : Array Slot} (hdg : decode code pc = .ok (.ireturn, 1)) : W p l e room_1 s m #[Value.ref b] below meth c H [] 600000 7302250 (lw_Z below #[Value.ref b] s) (F0 m pc ls [.int 1]) := by
  intro T hT X
  obtain ⟨fs, hret, hrun, hended, hW, hframe⟩ := X.leave (v := some (.int 1)) (hlocks := hlocks) (fun h => by rw [hr] at h; cases h)
  have hmeth' : T.vm.method? m = some meth := X.method'
  refine ⟨T.setFrames fs, ?_, .returned (some (.int 1)), hrun, hended, rfl, ⟨_, rfl⟩, hW, hframe⟩
  jvm_step X.here [X.here.top, hx, hb, hdg, hmeth', hr, ret, narrow_b1]
  (try refine ⟨rfl, ?_⟩); (try refine ⟨rfl, ?_⟩)
  first | (intro acts; rw [hret _ acts rfl rfl rfl]) | rw [hret _ _ rfl rfl rfl]
  exact Steps.refl _
/-- what holds at the law's entry: the machine, the code, the tables' words (any of lw_tbl by 'hts w (by decide +kernel)'), the script of L ints xs at the cell b, what the Statement gives of the start (any of its parts by flat_of_before) -/
def lw_At (p : Program) (s : State) (m : MethodId) (meth : Method) (c : Code) (b L : Nat) (xs : Nat → Int32) : Prop :=
  p.tables.exec = Jvm.exec ∧ c.code = code ∧ meth.sig.returnType = ret ∧ c.maxLocals = 4 ∧ s.vm.findClass R_law = some m.cls ∧ (∀ w ∈ lw_tbl, w.before #[Value.ref b] s = true) ∧ va_X b L xs s s.heap ∧ b < s.heap.size ∧ meth.locks = false ∧ (Jvm.Cond.and given_1 narrow_1).before #[Value.ref b] s = true
set_option maxHeartbeats 8000000 in
set_option maxRecDepth 100000 in
/-- from the entry, for every script of at most 3072 ints, the law comes to its end with true -/
theorem whole_start {p : Program} {e : Env} {s : State} {m : MethodId} {below : List Frame} {meth : Method} {c : Code} (l : Launch) {b L : Nat} {xs : Nat → Int32} (hL : L ≤ 3072) (C0 : lw_At p s m meth c b L xs) : W p l e room_1 s m #[Value.ref b] below meth c s.heap [] 0 0 (lw_Z below #[Value.ref b] s) (entryFrame m ([Value.ref b] : List Value).toArray 4) := by
  obtain ⟨hx, hcd, hret, hml, hown, hts, hX, hbl, hlocks, -⟩ := C0
  obtain ⟨D, cI, cJ, cS, hK, hZ, hAO⟩ := lw_K hts
  have X : wk_X p s m #[Value.ref b] meth c code "LoopRankerLaw" 4 BW D cls (kT cI cJ cS) nz (fun q => s.heap.size ≤ q) := ⟨⟨hx, hcd, hml, hown, fun w hw => hts w (BW_in w hw)⟩, hK, hZ, fun q h => h, hlocks⟩
  have hbA : ¬ (fun q => s.heap.size ≤ q) b := fun z => Nat.lt_irrefl _ (Nat.lt_of_lt_of_le hbl z)
  generalize hAe : (fun q => s.heap.size ≤ q) = A at X hbA
  have hAs : ∀ q, A q → s.heap.size ≤ q := fun q h => by rw [← hAe] at h; exact h
  clear hAe
  have hl := lv_entry ([.ref b] : List Value) (n := 4) (Nat.le_of_ble_eq_true rfl)
  rw [lg_entry_eq]
  generalize (lg_sl ([.ref b] : List Value) ++ List.replicate (4 - (lg_sl ([.ref b] : List Value)).length) Slot.unset).toArray = ls at hl ⊢
  have hl : lv_has ls 4 [(0, .ref b)] := hl
  have hP : va_P D cls [] s.heap := wk_P.mpr (fun q hq => absurd hq List.not_mem_nil)
  have hD : va_D A [] := wk_D.mpr ⟨List.Pairwise.nil, fun q hq => absurd hq List.not_mem_nil⟩
  have hS : va_S A s.heap s.heap [] := va_S.rf
  refine va_new (ci := 3) (fs := [.null, .null, .int 0, .long 0, .long 0, .int 0]) (C := R_LoopRanker) (T := F_LoopRanker) (N := 6) X.1.1 X.1.2.1 X.1.2.2.2.2 hin_LoopRanker t_LoopRanker t_LoopRanker_ok X.1.2.2.2.1 (X.1.2.2.2.2 _ (List.mem_append_left _ (List.mem_of_getElem? (i := 7) rfl))) (X.1.2.2.2.2 _ (List.mem_append_left _ (List.mem_of_getElem? (i := 8) rfl))) (X.1.2.2.2.2 _ (List.mem_append_left _ (List.mem_of_getElem? (i := 1) rfl))) X.2.1 hP hD hS X.2.2.2.1 rfl (fun j hj => by rcases (show j = 0 ∨ j = 1 ∨ j = 2 ∨ j = 3 ∨ j = 4 ∨ j = 5 by omega) with rfl | rfl | rfl | rfl | rfl | rfl <;> rfl) (Nat.le_of_ble_eq_true rfl) (Nat.le_of_ble_eq_true rfl) d_law_0 (fun lr H hP hD hS => ?_)
  refine W.widen (k := 1) (n := 6) (Nat.le_of_ble_eq_true rfl) (Nat.le_of_ble_eq_true rfl) ?_
  refine lv_dup X.1.1 X.1.2.1 d_law_3 rfl ?_
  refine wc_IE X nz_nest hAO (c_LoopRanker_init lr) (cw_law_9 X.1.2.2.2.2 (by decide)) [] [] rfl hP hD hS hl.1 (Nat.le_of_ble_eq_true rfl) (by decide) d_law_4 (fun H locs wn hwn hP hD hS => ?_)
  obtain ⟨sa, po, u1, u2, l1, l2, l3, l4, bs, rfl, hbs⟩ := hwn
  refine W.widen (k := 51) (n := 859) (Nat.le_of_ble_eq_true rfl) (Nat.le_of_ble_eq_true rfl) ?_
  have hP : va_P D cls (rW cI cJ cS lr sa po u1 u2 l1 l2 l3 l4 uS vS (fun _ => 0) (fun _ => 0) (fun _ => 0) (fun _ => 0) 0 0 0 bs 0 0 0 0) H := by rw [List.nil_append, List.append_nil] at hP; exact hP
  have hD : va_D A (rW cI cJ cS lr sa po u1 u2 l1 l2 l3 l4 uS vS (fun _ => 0) (fun _ => 0) (fun _ => 0) (fun _ => 0) 0 0 0 bs 0 0 0 0) := by rw [List.nil_append, List.append_nil] at hD; exact hD
  refine lv_astore_n X.1.1 X.1.2.1 d_law_7 rfl hl (by decide) rfl (fun ls hl => ?_)
  have hl : lv_has ls 4 [(1, .ref lr), (0, .ref b)] := hl
  refine va_new (ci := 4) (fs := [.int 0, .null, .null, .null, .null, .null, .int 0, .long 0, .long 0, .int 0, .null, .null, .null, .long 0, .long 0, .int 0]) (C := R_LoopRankerModel) (T := F_LoopRankerModel) (N := 16) X.1.1 X.1.2.1 X.1.2.2.2.2 hin_LoopRankerModel t_LoopRankerModel t_LoopRankerModel_ok X.1.2.2.2.1 (X.1.2.2.2.2 _ (List.mem_append_right _ (List.mem_append_right _ (List.mem_append_right _ (List.mem_append_right _ (List.mem_append_right _ (List.mem_append_right _ (List.mem_append_right _ (List.mem_append_right _ (List.mem_append_right _ (List.mem_append_right _ (List.mem_append_right _ (List.mem_append_right _ (List.mem_append_right _ (List.mem_append_right _ (List.mem_append_left _ (List.mem_of_getElem? (i := 5) rfl))))))))))))))))) (X.1.2.2.2.2 _ (List.mem_append_right _ (List.mem_append_right _ (List.mem_append_right _ (List.mem_append_right _ (List.mem_append_right _ (List.mem_append_right _ (List.mem_append_right _ (List.mem_append_right _ (List.mem_append_right _ (List.mem_append_right _ (List.mem_append_right _ (List.mem_append_right _ (List.mem_append_right _ (List.mem_append_right _ (List.mem_append_left _ (List.mem_of_getElem? (i := 6) rfl))))))))))))))))) (X.1.2.2.2.2 _ (List.mem_append_left _ (List.mem_of_getElem? (i := 6) rfl))) X.2.1 hP hD hS X.2.2.2.1 rfl (fun j hj => by rcases (show j = 0 ∨ j = 1 ∨ j = 2 ∨ j = 3 ∨ j = 4 ∨ j = 5 ∨ j = 6 ∨ j = 7 ∨ j = 8 ∨ j = 9 ∨ j = 10 ∨ j = 11 ∨ j = 12 ∨ j = 13 ∨ j = 14 ∨ j = 15 by omega) with rfl | rfl | rfl | rfl | rfl | rfl | rfl | rfl | rfl | rfl | rfl | rfl | rfl | rfl | rfl | rfl <;> rfl) (Nat.le_of_ble_eq_true rfl) (Nat.le_of_ble_eq_true rfl) d_law_8 (fun h H hP hD hS => ?_)
  refine W.widen (k := 52) (n := 875) (Nat.le_of_ble_eq_true rfl) (Nat.le_of_ble_eq_true rfl) ?_
  refine lv_dup X.1.1 X.1.2.1 d_law_11 rfl ?_
  refine wc_I X nz_nest (c_LoopRankerModel_init h) (cw_law_12 X.1.2.2.2.2 (by decide)) (rW cI cJ cS lr sa po u1 u2 l1 l2 l3 l4 uS vS (fun _ => 0) (fun _ => 0) (fun _ => 0) (fun _ => 0) 0 0 0 bs 0 0 0 0) [] (by rw [List.append_nil]) hP hD hS hl.1 (Nat.le_of_ble_eq_true rfl) (by decide) d_law_12 (fun H locs wn hwn hP hD hS => ?_)
  obtain ⟨m1, p1, q1, r1, w1, o1, f1, s1, rfl⟩ := hwn
  refine W.widen (k := 60) (n := 1007) (Nat.le_of_ble_eq_true rfl) (Nat.le_of_ble_eq_true rfl) ?_
  have hP : va_P D cls ((rW cI cJ cS lr sa po u1 u2 l1 l2 l3 l4 uS vS (fun _ => 0) (fun _ => 0) (fun _ => 0) (fun _ => 0) 0 0 0 bs 0 0 0 0) ++ (mW cI h m1 p1 q1 r1 w1 o1 f1 s1 0 (fun _ => 0) (fun _ => 0) (fun _ => 0) (fun _ => 0) (fun _ => 0) 0 0 0 0 (fun _ => 0) (fun _ => 0) (fun _ => 0) 0 0 0)) H := by rw [List.append_nil] at hP; exact hP
  have hD : va_D A ((rW cI cJ cS lr sa po u1 u2 l1 l2 l3 l4 uS vS (fun _ => 0) (fun _ => 0) (fun _ => 0) (fun _ => 0) 0 0 0 bs 0 0 0 0) ++ (mW cI h m1 p1 q1 r1 w1 o1 f1 s1 0 (fun _ => 0) (fun _ => 0) (fun _ => 0) (fun _ => 0) (fun _ => 0) 0 0 0 0 (fun _ => 0) (fun _ => 0) (fun _ => 0) 0 0 0)) := by rw [List.append_nil] at hD; exact hD
  have hI : lwI cI cJ cS lr sa po u1 u2 l1 l2 l3 l4 h m1 p1 q1 r1 w1 o1 f1 s1 (rW cI cJ cS lr sa po u1 u2 l1 l2 l3 l4 uS vS (fun _ => 0) (fun _ => 0) (fun _ => 0) (fun _ => 0) 0 0 0 bs 0 0 0 0) (mW cI h m1 p1 q1 r1 w1 o1 f1 s1 0 (fun _ => 0) (fun _ => 0) (fun _ => 0) (fun _ => 0) (fun _ => 0) 0 0 0 0 (fun _ => 0) (fun _ => 0) (fun _ => 0) 0 0 0) := ⟨_, _, _, _, _, _, _, _, _, bs.map bD, _, _, _, _, _, _, _, _, _, _, _, _, _, _, _, fun _ => 0, rfl, rfl, ⟨hbs, Nat.zero_le _, rfl, fun z => absurd rfl z⟩, fun t ht => absurd ht (Nat.not_lt_zero _), fun t ht => absurd ht (Nat.not_lt_zero _)⟩
  generalize rW cI cJ cS lr sa po u1 u2 l1 l2 l3 l4 uS vS (fun _ => 0) (fun _ => 0) (fun _ => 0) (fun _ => 0) 0 0 0 bs 0 0 0 0 = wr at hP hD hI
  generalize mW cI h m1 p1 q1 r1 w1 o1 f1 s1 0 (fun _ => 0) (fun _ => 0) (fun _ => 0) (fun _ => 0) (fun _ => 0) 0 0 0 0 (fun _ => 0) (fun _ => 0) (fun _ => 0) 0 0 0 = wm at hP hD hI
  refine lv_astore_n X.1.1 X.1.2.1 d_law_15 rfl hl (by decide) rfl (fun ls hl => ?_)
  have hl : lv_has ls 4 [(2, .ref h), (1, .ref lr), (0, .ref b)] := hl
  refine lv_iconst (v := (0 : Int32)) X.1.1 X.1.2.1 d_law_16 (by decide) ?_
  refine lv_istore_n X.1.1 X.1.2.1 d_law_17 rfl hl (by decide) rfl (fun ls hl => ?_)
  have hl : lv_has ls 4 [(3, .int (nI 0)), (2, .ref h), (1, .ref lr), (0, .ref b)] := hl
  have hend : ∀ (ls : Array Slot) (H : Heap) (locs : List Loc), va_S A s.heap H locs → W p l e room_1 s m #[Value.ref b] below meth c H locs 60 1007 (lw_Z below #[Value.ref b] s) (F0 m 625 ls []) := by
    intro ls H locs hS
    refine va_forget (fun q hq => hAs _ (hS.2.2 q hq)) ?_
    refine W.widen (k := 600000) (n := 7302250) (Nat.le_of_ble_eq_true rfl) (Nat.le_of_ble_eq_true rfl) ?_
    refine lv_iconst (v := (1 : Int32)) X.1.1 X.1.2.1 d_law_625 (by decide) ?_
    exact lw_ret hx hcd hret hlocks d_law_626
  have lp : ∀ (k i : Nat) (wr wm : va_W) (ls : Array Slot) (H : Heap) (locs : List Loc), L < i + 6 + k → i ≤ L → lwI cI cJ cS lr sa po u1 u2 l1 l2 l3 l4 h m1 p1 q1 r1 w1 o1 f1 s1 wr wm → lv_has ls 4 [(3, .int (nI i)), (2, .ref h), (1, .ref lr), (0, .ref b)] → va_P D cls (wr ++ wm) H → va_D A (wr ++ wm) → va_S A s.heap H locs → W p l e room_1 s m #[Value.ref b] below meth c H locs 60 1007 (lw_Z below #[Value.ref b] s) (F0 m 18 ls []) := by
    intro k
    induction k with
    | zero =>
      intro i wr wm ls H locs hk hiL hI hl hP hD hS
      refine lv_iload_n X.1.1 X.1.2.1 d_law_18 rfl (lv_at hl 0 rfl) ?_
      refine lv_aload_n X.1.1 X.1.2.1 d_law_19 rfl (lv_at hl 3 rfl) ?_
      refine va_slen X.1.1 X.1.2.1 hX hbl hbA hS d_law_20 ?_
      refine lv_bipush (v := (6 : Int32)) X.1.1 X.1.2.1 d_law_21 (by decide) ?_
      refine lv_isub X.1.1 X.1.2.1 d_law_23 ?_
      refine wi_gt (tgt := 625) X.1.1 X.1.2.1 d_law_24 (by decide) (fun _ => hend ls H locs hS) (fun z => absurd ((lw_cmp (by omega) hL).mpr (by omega)) z)
    | succ k ih =>
      intro i wr wm ls H locs hk hiL hI hl hP hD hS
      refine lv_iload_n X.1.1 X.1.2.1 d_law_18 rfl (lv_at hl 0 rfl) ?_
      refine lv_aload_n X.1.1 X.1.2.1 d_law_19 rfl (lv_at hl 3 rfl) ?_
      refine va_slen X.1.1 X.1.2.1 hX hbl hbA hS d_law_20 ?_
      refine lv_bipush (v := (6 : Int32)) X.1.1 X.1.2.1 d_law_21 (by decide) ?_
      refine lv_isub X.1.1 X.1.2.1 d_law_23 ?_
      refine wi_gt (tgt := 625) X.1.1 X.1.2.1 d_law_24 (by decide) (fun _ => hend ls H locs hS) (fun hz => ?_)
      have hi6 : i + 6 ≤ L := Nat.not_lt.mp (fun z => hz ((lw_cmp (by omega) hL).mpr z))
      have go : ∀ (wr wm : va_W) (H : Heap) (locs : List Loc), lwI cI cJ cS lr sa po u1 u2 l1 l2 l3 l4 h m1 p1 q1 r1 w1 o1 f1 s1 wr wm → va_P D cls (wr ++ wm) H → va_D A (wr ++ wm) → va_S A s.heap H locs → W p l e room_1 s m #[Value.ref b] below meth c H locs 60 1007 (lw_Z below #[Value.ref b] s) (F0 m 619 ls []) := by
        intro wr wm H locs hI hP hD hS
        refine lv_iinc (k := 0) (v := nI (i + 6)) X.1.1 X.1.2.1 d_law_619 hl rfl (nI_add i 6) (by decide) rfl (fun ls hl => ?_)
        have hl : lv_has ls 4 [(3, .int (nI (i + 6))), (2, .ref h), (1, .ref lr), (0, .ref b)] := hl
        refine lv_goto (tgt := 18) X.1.1 X.1.2.1 d_law_622 (by decide) ?_
        exact ih (i + 6) wr wm ls H locs (by omega) hi6 hI hl hP hD hS
      obtain ⟨⟨fs1, he1⟩, ⟨fs2, he2⟩⟩ := lwI_0 hI
      refine lv_aload_n X.1.1 X.1.2.1 d_law_27 rfl (lv_at hl 3 rfl) ?_
      refine lv_iload_n X.1.1 X.1.2.1 d_law_28 rfl (lv_at hl 0 rfl) ?_
      refine va_sld X.1.1 X.1.2.1 hX hbl hbA hS (vp_in_nI (show i < L by omega) (by omega)) d_law_29 ?_
      refine lv_bipush (v := (31 : Int32)) X.1.1 X.1.2.1 d_law_30 (by decide) ?_
      refine lv_iand X.1.1 X.1.2.1 d_law_32 ?_
      generalize xs (nI i).toNatClampNeg &&& 31 = sel
      by_cases hs0 : sel = nI 0
      · refine wt_i hs0 ?_
        refine lv_tableIn (off := 87) (tgt := 120) X.1.1 X.1.2.1 d_law_33 (by decide) (by decide) rfl (by decide) ?_
        obtain ⟨P1, P2, r, c1, c2, hkk⟩ := op_transition (l := l) (D := D) hI
        refine lv_aload_n X.1.1 X.1.2.1 d_law_120 rfl (lv_at hl 2 rfl) ?_
        refine wc_Vi [] 3 0 X nz_nest c1 (cw_law_13 X.1.2.2.2.2 (by decide)) [] wm rfl hP hD hS rfl he1 rfl rfl hl.1 (Nat.le_of_ble_eq_true rfl) (by decide) d_law_121 (fun H locs wr2 hw2 hP hD hS => ?_)
        have hP : va_P D cls (wr2 ++ wm) H := hP
        have hD : va_D A (wr2 ++ wm) := hD
        refine lv_aload_n X.1.1 X.1.2.1 d_law_124 rfl (lv_at hl 1 rfl) ?_
        refine wc_Vi [] 4 0 X nz_nest c2 (cw_law_17 X.1.2.2.2.2 (by decide)) wr2 [] (by rw [List.append_nil]) hP hD hS rfl he2 rfl rfl hl.1 (Nat.le_of_ble_eq_true rfl) (by decide) d_law_125 (fun H locs wm2 hw3 hP hD hS => ?_)
        rw [List.append_nil] at hP hD
        exact wi_eq (tgt := 619) X.1.1 X.1.2.1 d_law_128 (by decide) (fun _ => go wr2 wm2 H locs (hkk _ _ hw2 hw3) hP hD hS) (fun z => absurd rfl z)
      by_cases hs1 : sel = nI 1
      · refine wt_i hs1 ?_
        refine lv_tableIn (off := 100) (tgt := 133) X.1.1 X.1.2.1 d_law_33 (by decide) (by decide) rfl (by decide) ?_
        obtain ⟨P1, P2, r, c1, c2, hkk⟩ := op_guard (l := l) (D := D) (xs (i + 1)) (xs (i + 2)) (xs (i + 3)) (xs (i + 4)) hI
        refine lv_aload_n X.1.1 X.1.2.1 d_law_133 rfl (lv_at hl 2 rfl) ?_
        refine wl_arg (i := i) (j := 1) X.1.1 X.1.2.1 hX hbl hbA hS hl (by omega) hL (by decide) d_law_134 d_law_135 d_law_136 d_law_137 d_law_138 ?_
        refine wl_arg (i := i) (j := 2) X.1.1 X.1.2.1 hX hbl hbA hS hl (by omega) hL (by decide) d_law_139 d_law_140 d_law_141 d_law_142 d_law_143 ?_
        refine wl_arg (i := i) (j := 3) X.1.1 X.1.2.1 hX hbl hbA hS hl (by omega) hL (by decide) d_law_144 d_law_145 d_law_146 d_law_147 d_law_148 ?_
        refine wl_arg (i := i) (j := 4) X.1.1 X.1.2.1 hX hbl hbA hS hl (by omega) hL (by decide) d_law_149 d_law_150 d_law_151 d_law_152 d_law_153 ?_
        refine wc_Vi [.int (xs (i + 1)), .int (xs (i + 2)), .int (xs (i + 3)), .int (xs (i + 4))] 3 0 X nz_nest c1 (cw_law_18 X.1.2.2.2.2 (by decide)) [] wm rfl hP hD hS rfl he1 rfl rfl hl.1 (Nat.le_of_ble_eq_true rfl) (by decide) d_law_154 (fun H locs wr2 hw2 hP hD hS => ?_)
        have hP : va_P D cls (wr2 ++ wm) H := hP
        have hD : va_D A (wr2 ++ wm) := hD
        refine lv_aload_n X.1.1 X.1.2.1 d_law_157 rfl (lv_at hl 1 rfl) ?_
        refine wl_arg (i := i) (j := 1) X.1.1 X.1.2.1 hX hbl hbA hS hl (by omega) hL (by decide) d_law_158 d_law_159 d_law_160 d_law_161 d_law_162 ?_
        refine wl_arg (i := i) (j := 2) X.1.1 X.1.2.1 hX hbl hbA hS hl (by omega) hL (by decide) d_law_163 d_law_164 d_law_165 d_law_166 d_law_167 ?_
        refine wl_arg (i := i) (j := 3) X.1.1 X.1.2.1 hX hbl hbA hS hl (by omega) hL (by decide) d_law_168 d_law_169 d_law_170 d_law_171 d_law_172 ?_
        refine wl_arg (i := i) (j := 4) X.1.1 X.1.2.1 hX hbl hbA hS hl (by omega) hL (by decide) d_law_173 d_law_174 d_law_175 d_law_176 d_law_177 ?_
        refine wc_Vi [.int (xs (i + 1)), .int (xs (i + 2)), .int (xs (i + 3)), .int (xs (i + 4))] 4 0 X nz_nest c2 (cw_law_22 X.1.2.2.2.2 (by decide)) wr2 [] (by rw [List.append_nil]) hP hD hS rfl he2 rfl rfl hl.1 (Nat.le_of_ble_eq_true rfl) (by decide) d_law_178 (fun H locs wm2 hw3 hP hD hS => ?_)
        rw [List.append_nil] at hP hD
        exact wi_eq (tgt := 619) X.1.1 X.1.2.1 d_law_181 (by decide) (fun _ => go wr2 wm2 H locs (hkk _ _ hw2 hw3) hP hD hS) (fun z => absurd rfl z)
      by_cases hs2 : sel = nI 2
      · refine wt_i hs2 ?_
        refine lv_tableIn (off := 153) (tgt := 186) X.1.1 X.1.2.1 d_law_33 (by decide) (by decide) rfl (by decide) ?_
        obtain ⟨P1, P2, r, c1, c2, hkk⟩ := op_update (l := l) (D := D) (xs (i + 1)) (xs (i + 2)) (xs (i + 3)) (xs (i + 4)) (xs (i + 5)) hI
        refine lv_aload_n X.1.1 X.1.2.1 d_law_186 rfl (lv_at hl 2 rfl) ?_
        refine wl_arg (i := i) (j := 1) X.1.1 X.1.2.1 hX hbl hbA hS hl (by omega) hL (by decide) d_law_187 d_law_188 d_law_189 d_law_190 d_law_191 ?_
        refine wl_arg (i := i) (j := 2) X.1.1 X.1.2.1 hX hbl hbA hS hl (by omega) hL (by decide) d_law_192 d_law_193 d_law_194 d_law_195 d_law_196 ?_
        refine wl_arg (i := i) (j := 3) X.1.1 X.1.2.1 hX hbl hbA hS hl (by omega) hL (by decide) d_law_197 d_law_198 d_law_199 d_law_200 d_law_201 ?_
        refine wl_arg (i := i) (j := 4) X.1.1 X.1.2.1 hX hbl hbA hS hl (by omega) hL (by decide) d_law_202 d_law_203 d_law_204 d_law_205 d_law_206 ?_
        refine wl_arg (i := i) (j := 5) X.1.1 X.1.2.1 hX hbl hbA hS hl (by omega) hL (by decide) d_law_207 d_law_208 d_law_209 d_law_210 d_law_211 ?_
        refine wc_Vi [.int (xs (i + 1)), .int (xs (i + 2)), .int (xs (i + 3)), .int (xs (i + 4)), .int (xs (i + 5))] 3 0 X nz_nest c1 (cw_law_23 X.1.2.2.2.2 (by decide)) [] wm rfl hP hD hS rfl he1 rfl rfl hl.1 (Nat.le_of_ble_eq_true rfl) (by decide) d_law_212 (fun H locs wr2 hw2 hP hD hS => ?_)
        have hP : va_P D cls (wr2 ++ wm) H := hP
        have hD : va_D A (wr2 ++ wm) := hD
        refine lv_aload_n X.1.1 X.1.2.1 d_law_215 rfl (lv_at hl 1 rfl) ?_
        refine wl_arg (i := i) (j := 1) X.1.1 X.1.2.1 hX hbl hbA hS hl (by omega) hL (by decide) d_law_216 d_law_217 d_law_218 d_law_219 d_law_220 ?_
        refine wl_arg (i := i) (j := 2) X.1.1 X.1.2.1 hX hbl hbA hS hl (by omega) hL (by decide) d_law_221 d_law_222 d_law_223 d_law_224 d_law_225 ?_
        refine wl_arg (i := i) (j := 3) X.1.1 X.1.2.1 hX hbl hbA hS hl (by omega) hL (by decide) d_law_226 d_law_227 d_law_228 d_law_229 d_law_230 ?_
        refine wl_arg (i := i) (j := 4) X.1.1 X.1.2.1 hX hbl hbA hS hl (by omega) hL (by decide) d_law_231 d_law_232 d_law_233 d_law_234 d_law_235 ?_
        refine wl_arg (i := i) (j := 5) X.1.1 X.1.2.1 hX hbl hbA hS hl (by omega) hL (by decide) d_law_236 d_law_237 d_law_238 d_law_239 d_law_240 ?_
        refine wc_Vi [.int (xs (i + 1)), .int (xs (i + 2)), .int (xs (i + 3)), .int (xs (i + 4)), .int (xs (i + 5))] 4 0 X nz_nest c2 (cw_law_27 X.1.2.2.2.2 (by decide)) wr2 [] (by rw [List.append_nil]) hP hD hS rfl he2 rfl rfl hl.1 (Nat.le_of_ble_eq_true rfl) (by decide) d_law_241 (fun H locs wm2 hw3 hP hD hS => ?_)
        rw [List.append_nil] at hP hD
        exact wi_eq (tgt := 619) X.1.1 X.1.2.1 d_law_244 (by decide) (fun _ => go wr2 wm2 H locs (hkk _ _ hw2 hw3) hP hD hS) (fun z => absurd rfl z)
      by_cases hs3 : sel = nI 3
      · refine wt_i hs3 ?_
        refine lv_tableIn (off := 216) (tgt := 249) X.1.1 X.1.2.1 d_law_33 (by decide) (by decide) rfl (by decide) ?_
        obtain ⟨P1, P2, r, c1, c2, hkk⟩ := op_remove (l := l) (D := D) (xs (i + 1)) hI
        refine lv_aload_n X.1.1 X.1.2.1 d_law_249 rfl (lv_at hl 2 rfl) ?_
        refine wl_arg (i := i) (j := 1) X.1.1 X.1.2.1 hX hbl hbA hS hl (by omega) hL (by decide) d_law_250 d_law_251 d_law_252 d_law_253 d_law_254 ?_
        refine wc_Vi [.int (xs (i + 1))] 3 0 X nz_nest c1 (cw_law_28 X.1.2.2.2.2 (by decide)) [] wm rfl hP hD hS rfl he1 rfl rfl hl.1 (Nat.le_of_ble_eq_true rfl) (by decide) d_law_255 (fun H locs wr2 hw2 hP hD hS => ?_)
        have hP : va_P D cls (wr2 ++ wm) H := hP
        have hD : va_D A (wr2 ++ wm) := hD
        refine lv_aload_n X.1.1 X.1.2.1 d_law_258 rfl (lv_at hl 1 rfl) ?_
        refine wl_arg (i := i) (j := 1) X.1.1 X.1.2.1 hX hbl hbA hS hl (by omega) hL (by decide) d_law_259 d_law_260 d_law_261 d_law_262 d_law_263 ?_
        refine wc_Vi [.int (xs (i + 1))] 4 0 X nz_nest c2 (cw_law_32 X.1.2.2.2.2 (by decide)) wr2 [] (by rw [List.append_nil]) hP hD hS rfl he2 rfl rfl hl.1 (Nat.le_of_ble_eq_true rfl) (by decide) d_law_264 (fun H locs wm2 hw3 hP hD hS => ?_)
        rw [List.append_nil] at hP hD
        exact wi_eq (tgt := 619) X.1.1 X.1.2.1 d_law_267 (by decide) (fun _ => go wr2 wm2 H locs (hkk _ _ hw2 hw3) hP hD hS) (fun z => absurd rfl z)
      by_cases hs4 : sel = nI 4
      · refine wt_i hs4 ?_
        refine lv_tableIn (off := 239) (tgt := 272) X.1.1 X.1.2.1 d_law_33 (by decide) (by decide) rfl (by decide) ?_
        obtain ⟨P1, P2, r, c1, c2, hkk⟩ := op_transitions (l := l) (D := D) hI
        refine lv_aload_n X.1.1 X.1.2.1 d_law_272 rfl (lv_at hl 2 rfl) ?_
        refine wc_Vi [] 3 0 X nz_nest c1 (cw_law_33 X.1.2.2.2.2 (by decide)) [] wm rfl hP hD hS rfl he1 rfl rfl hl.1 (Nat.le_of_ble_eq_true rfl) (by decide) d_law_273 (fun H locs wr2 hw2 hP hD hS => ?_)
        have hP : va_P D cls (wr2 ++ wm) H := hP
        have hD : va_D A (wr2 ++ wm) := hD
        refine lv_aload_n X.1.1 X.1.2.1 d_law_276 rfl (lv_at hl 1 rfl) ?_
        refine wc_Vi [] 4 0 X nz_nest c2 (cw_law_36 X.1.2.2.2.2 (by decide)) wr2 [] (by rw [List.append_nil]) hP hD hS rfl he2 rfl rfl hl.1 (Nat.le_of_ble_eq_true rfl) (by decide) d_law_277 (fun H locs wm2 hw3 hP hD hS => ?_)
        rw [List.append_nil] at hP hD
        exact wi_eq (tgt := 619) X.1.1 X.1.2.1 d_law_280 (by decide) (fun _ => go wr2 wm2 H locs (hkk _ _ hw2 hw3) hP hD hS) (fun z => absurd rfl z)
      by_cases hs5 : sel = nI 5
      · refine wt_i hs5 ?_
        refine lv_tableIn (off := 252) (tgt := 285) X.1.1 X.1.2.1 d_law_33 (by decide) (by decide) rfl (by decide) ?_
        obtain ⟨P1, P2, r, c1, c2, hkk⟩ := op_greatest (l := l) (D := D) (xs (i + 1)) (xs (i + 2)) (xs (i + 3)) hI
        refine lv_aload_n X.1.1 X.1.2.1 d_law_285 rfl (lv_at hl 2 rfl) ?_
        refine wl_arg (i := i) (j := 1) X.1.1 X.1.2.1 hX hbl hbA hS hl (by omega) hL (by decide) d_law_286 d_law_287 d_law_288 d_law_289 d_law_290 ?_
        refine wl_arg (i := i) (j := 2) X.1.1 X.1.2.1 hX hbl hbA hS hl (by omega) hL (by decide) d_law_291 d_law_292 d_law_293 d_law_294 d_law_295 ?_
        refine wl_arg (i := i) (j := 3) X.1.1 X.1.2.1 hX hbl hbA hS hl (by omega) hL (by decide) d_law_296 d_law_297 d_law_298 d_law_299 d_law_300 ?_
        refine wc_Vl [.int (xs (i + 1)), .int (xs (i + 2)), .int (xs (i + 3))] 3 0 X nz_nest c1 (cw_law_37 X.1.2.2.2.2 (by decide)) [] wm rfl hP hD hS rfl he1 rfl rfl hl.1 (Nat.le_of_ble_eq_true rfl) (by decide) d_law_301 (fun H locs wr2 hw2 hP hD hS => ?_)
        have hP : va_P D cls (wr2 ++ wm) H := hP
        have hD : va_D A (wr2 ++ wm) := hD
        refine lv_aload_n X.1.1 X.1.2.1 d_law_304 rfl (lv_at hl 1 rfl) ?_
        refine wl_arg (i := i) (j := 1) X.1.1 X.1.2.1 hX hbl hbA hS hl (by omega) hL (by decide) d_law_305 d_law_306 d_law_307 d_law_308 d_law_309 ?_
        refine wl_arg (i := i) (j := 2) X.1.1 X.1.2.1 hX hbl hbA hS hl (by omega) hL (by decide) d_law_310 d_law_311 d_law_312 d_law_313 d_law_314 ?_
        refine wl_arg (i := i) (j := 3) X.1.1 X.1.2.1 hX hbl hbA hS hl (by omega) hL (by decide) d_law_315 d_law_316 d_law_317 d_law_318 d_law_319 ?_
        refine wc_Vl [.int (xs (i + 1)), .int (xs (i + 2)), .int (xs (i + 3))] 4 0 X nz_nest c2 (cw_law_41 X.1.2.2.2.2 (by decide)) wr2 [] (by rw [List.append_nil]) hP hD hS rfl he2 rfl rfl hl.1 (Nat.le_of_ble_eq_true rfl) (by decide) d_law_320 (fun H locs wm2 hw3 hP hD hS => ?_)
        rw [List.append_nil] at hP hD
        exact wl_eq (tgt := 619) X.1.1 X.1.2.1 d_law_323 d_law_324 (by decide) (fun _ => go wr2 wm2 H locs (hkk _ _ hw2 hw3) hP hD hS) (fun z => absurd rfl z)
      by_cases hs6 : sel = nI 6
      · refine wt_i hs6 ?_
        refine lv_tableIn (off := 296) (tgt := 329) X.1.1 X.1.2.1 d_law_33 (by decide) (by decide) rfl (by decide) ?_
        obtain ⟨P1, P2, r, c1, c2, hkk⟩ := op_holds (l := l) (D := D) (xs (i + 1)) (xs (i + 2)) (xs (i + 3)) (xs (i + 4)) hI
        refine lv_aload_n X.1.1 X.1.2.1 d_law_329 rfl (lv_at hl 2 rfl) ?_
        refine wl_arg (i := i) (j := 1) X.1.1 X.1.2.1 hX hbl hbA hS hl (by omega) hL (by decide) d_law_330 d_law_331 d_law_332 d_law_333 d_law_334 ?_
        refine wl_arg (i := i) (j := 2) X.1.1 X.1.2.1 hX hbl hbA hS hl (by omega) hL (by decide) d_law_335 d_law_336 d_law_337 d_law_338 d_law_339 ?_
        refine wl_arg (i := i) (j := 3) X.1.1 X.1.2.1 hX hbl hbA hS hl (by omega) hL (by decide) d_law_340 d_law_341 d_law_342 d_law_343 d_law_344 ?_
        refine wl_arg (i := i) (j := 4) X.1.1 X.1.2.1 hX hbl hbA hS hl (by omega) hL (by decide) d_law_345 d_law_346 d_law_347 d_law_348 d_law_349 ?_
        refine wc_Vi [.int (xs (i + 1)), .int (xs (i + 2)), .int (xs (i + 3)), .int (xs (i + 4))] 3 0 X nz_nest c1 (cw_law_42 X.1.2.2.2.2 (by decide)) [] wm rfl hP hD hS rfl he1 rfl rfl hl.1 (Nat.le_of_ble_eq_true rfl) (by decide) d_law_350 (fun H locs wr2 hw2 hP hD hS => ?_)
        have hP : va_P D cls (wr2 ++ wm) H := hP
        have hD : va_D A (wr2 ++ wm) := hD
        refine lv_aload_n X.1.1 X.1.2.1 d_law_353 rfl (lv_at hl 1 rfl) ?_
        refine wl_arg (i := i) (j := 1) X.1.1 X.1.2.1 hX hbl hbA hS hl (by omega) hL (by decide) d_law_354 d_law_355 d_law_356 d_law_357 d_law_358 ?_
        refine wl_arg (i := i) (j := 2) X.1.1 X.1.2.1 hX hbl hbA hS hl (by omega) hL (by decide) d_law_359 d_law_360 d_law_361 d_law_362 d_law_363 ?_
        refine wl_arg (i := i) (j := 3) X.1.1 X.1.2.1 hX hbl hbA hS hl (by omega) hL (by decide) d_law_364 d_law_365 d_law_366 d_law_367 d_law_368 ?_
        refine wl_arg (i := i) (j := 4) X.1.1 X.1.2.1 hX hbl hbA hS hl (by omega) hL (by decide) d_law_369 d_law_370 d_law_371 d_law_372 d_law_373 ?_
        refine wc_Vi [.int (xs (i + 1)), .int (xs (i + 2)), .int (xs (i + 3)), .int (xs (i + 4))] 4 0 X nz_nest c2 (cw_law_46 X.1.2.2.2.2 (by decide)) wr2 [] (by rw [List.append_nil]) hP hD hS rfl he2 rfl rfl hl.1 (Nat.le_of_ble_eq_true rfl) (by decide) d_law_374 (fun H locs wm2 hw3 hP hD hS => ?_)
        rw [List.append_nil] at hP hD
        exact wi_eq (tgt := 619) X.1.1 X.1.2.1 d_law_377 (by decide) (fun _ => go wr2 wm2 H locs (hkk _ _ hw2 hw3) hP hD hS) (fun z => absurd rfl z)
      by_cases hs7 : sel = nI 7
      · refine wt_i hs7 ?_
        refine lv_tableIn (off := 349) (tgt := 382) X.1.1 X.1.2.1 d_law_33 (by decide) (by decide) rfl (by decide) ?_
        obtain ⟨P1, P2, r, c1, c2, hkk⟩ := op_levels (l := l) (D := D) hI
        refine lv_aload_n X.1.1 X.1.2.1 d_law_382 rfl (lv_at hl 2 rfl) ?_
        refine wc_Vi [] 3 0 X nz_nest c1 (cw_law_47 X.1.2.2.2.2 (by decide)) [] wm rfl hP hD hS rfl he1 rfl rfl hl.1 (Nat.le_of_ble_eq_true rfl) (by decide) d_law_383 (fun H locs wr2 hw2 hP hD hS => ?_)
        have hP : va_P D cls (wr2 ++ wm) H := hP
        have hD : va_D A (wr2 ++ wm) := hD
        refine lv_aload_n X.1.1 X.1.2.1 d_law_386 rfl (lv_at hl 1 rfl) ?_
        refine wc_Vi [] 4 0 X nz_nest c2 (cw_law_50 X.1.2.2.2.2 (by decide)) wr2 [] (by rw [List.append_nil]) hP hD hS rfl he2 rfl rfl hl.1 (Nat.le_of_ble_eq_true rfl) (by decide) d_law_387 (fun H locs wm2 hw3 hP hD hS => ?_)
        rw [List.append_nil] at hP hD
        exact wi_eq (tgt := 619) X.1.1 X.1.2.1 d_law_390 (by decide) (fun _ => go wr2 wm2 H locs (hkk _ _ hw2 hw3) hP hD hS) (fun z => absurd rfl z)
      by_cases hs8 : sel = nI 8
      · refine wt_i hs8 ?_
        refine lv_tableIn (off := 362) (tgt := 395) X.1.1 X.1.2.1 d_law_33 (by decide) (by decide) rfl (by decide) ?_
        obtain ⟨P1, P2, r, c1, c2, hkk⟩ := op_proven (l := l) (D := D) hI
        refine lv_aload_n X.1.1 X.1.2.1 d_law_395 rfl (lv_at hl 2 rfl) ?_
        refine wc_Vi [] 3 0 X nz_nest c1 (cw_law_51 X.1.2.2.2.2 (by decide)) [] wm rfl hP hD hS rfl he1 rfl rfl hl.1 (Nat.le_of_ble_eq_true rfl) (by decide) d_law_396 (fun H locs wr2 hw2 hP hD hS => ?_)
        have hP : va_P D cls (wr2 ++ wm) H := hP
        have hD : va_D A (wr2 ++ wm) := hD
        refine lv_aload_n X.1.1 X.1.2.1 d_law_399 rfl (lv_at hl 1 rfl) ?_
        refine wc_Vi [] 4 0 X nz_nest c2 (cw_law_55 X.1.2.2.2.2 (by decide)) wr2 [] (by rw [List.append_nil]) hP hD hS rfl he2 rfl rfl hl.1 (Nat.le_of_ble_eq_true rfl) (by decide) d_law_400 (fun H locs wm2 hw3 hP hD hS => ?_)
        rw [List.append_nil] at hP hD
        exact wi_eq (tgt := 619) X.1.1 X.1.2.1 d_law_403 (by decide) (fun _ => go wr2 wm2 H locs (hkk _ _ hw2 hw3) hP hD hS) (fun z => absurd rfl z)
      by_cases hs9 : sel = nI 9
      · refine wt_i hs9 ?_
        refine lv_tableIn (off := 375) (tgt := 408) X.1.1 X.1.2.1 d_law_33 (by decide) (by decide) rfl (by decide) ?_
        obtain ⟨P1, P2, r, c1, c2, hkk⟩ := op_levelOf (l := l) (D := D) (xs (i + 1)) hI
        refine lv_aload_n X.1.1 X.1.2.1 d_law_408 rfl (lv_at hl 2 rfl) ?_
        refine wl_arg (i := i) (j := 1) X.1.1 X.1.2.1 hX hbl hbA hS hl (by omega) hL (by decide) d_law_409 d_law_410 d_law_411 d_law_412 d_law_413 ?_
        refine wc_Vi [.int (xs (i + 1))] 3 0 X nz_nest c1 (cw_law_56 X.1.2.2.2.2 (by decide)) [] wm rfl hP hD hS rfl he1 rfl rfl hl.1 (Nat.le_of_ble_eq_true rfl) (by decide) d_law_414 (fun H locs wr2 hw2 hP hD hS => ?_)
        have hP : va_P D cls (wr2 ++ wm) H := hP
        have hD : va_D A (wr2 ++ wm) := hD
        refine lv_aload_n X.1.1 X.1.2.1 d_law_417 rfl (lv_at hl 1 rfl) ?_
        refine wl_arg (i := i) (j := 1) X.1.1 X.1.2.1 hX hbl hbA hS hl (by omega) hL (by decide) d_law_418 d_law_419 d_law_420 d_law_421 d_law_422 ?_
        refine wc_Vi [.int (xs (i + 1))] 4 0 X nz_nest c2 (cw_law_60 X.1.2.2.2.2 (by decide)) wr2 [] (by rw [List.append_nil]) hP hD hS rfl he2 rfl rfl hl.1 (Nat.le_of_ble_eq_true rfl) (by decide) d_law_423 (fun H locs wm2 hw3 hP hD hS => ?_)
        rw [List.append_nil] at hP hD
        exact wi_eq (tgt := 619) X.1.1 X.1.2.1 d_law_426 (by decide) (fun _ => go wr2 wm2 H locs (hkk _ _ hw2 hw3) hP hD hS) (fun z => absurd rfl z)
      by_cases hs10 : sel = nI 10
      · refine wt_i hs10 ?_
        refine lv_tableIn (off := 398) (tgt := 431) X.1.1 X.1.2.1 d_law_33 (by decide) (by decide) rfl (by decide) ?_
        obtain ⟨P1, P2, r, c1, c2, hkk⟩ := op_coefficient (l := l) (D := D) (xs (i + 1)) (xs (i + 2)) hI
        refine lv_aload_n X.1.1 X.1.2.1 d_law_431 rfl (lv_at hl 2 rfl) ?_
        refine wl_arg (i := i) (j := 1) X.1.1 X.1.2.1 hX hbl hbA hS hl (by omega) hL (by decide) d_law_432 d_law_433 d_law_434 d_law_435 d_law_436 ?_
        refine wl_arg (i := i) (j := 2) X.1.1 X.1.2.1 hX hbl hbA hS hl (by omega) hL (by decide) d_law_437 d_law_438 d_law_439 d_law_440 d_law_441 ?_
        refine wc_Vi [.int (xs (i + 1)), .int (xs (i + 2))] 3 0 X nz_nest c1 (cw_law_61 X.1.2.2.2.2 (by decide)) [] wm rfl hP hD hS rfl he1 rfl rfl hl.1 (Nat.le_of_ble_eq_true rfl) (by decide) d_law_442 (fun H locs wr2 hw2 hP hD hS => ?_)
        have hP : va_P D cls (wr2 ++ wm) H := hP
        have hD : va_D A (wr2 ++ wm) := hD
        refine lv_aload_n X.1.1 X.1.2.1 d_law_445 rfl (lv_at hl 1 rfl) ?_
        refine wl_arg (i := i) (j := 1) X.1.1 X.1.2.1 hX hbl hbA hS hl (by omega) hL (by decide) d_law_446 d_law_447 d_law_448 d_law_449 d_law_450 ?_
        refine wl_arg (i := i) (j := 2) X.1.1 X.1.2.1 hX hbl hbA hS hl (by omega) hL (by decide) d_law_451 d_law_452 d_law_453 d_law_454 d_law_455 ?_
        refine wc_Vi [.int (xs (i + 1)), .int (xs (i + 2))] 4 0 X nz_nest c2 (cw_law_65 X.1.2.2.2.2 (by decide)) wr2 [] (by rw [List.append_nil]) hP hD hS rfl he2 rfl rfl hl.1 (Nat.le_of_ble_eq_true rfl) (by decide) d_law_456 (fun H locs wm2 hw3 hP hD hS => ?_)
        rw [List.append_nil] at hP hD
        exact wi_eq (tgt := 619) X.1.1 X.1.2.1 d_law_459 (by decide) (fun _ => go wr2 wm2 H locs (hkk _ _ hw2 hw3) hP hD hS) (fun z => absurd rfl z)
      by_cases hs11 : sel = nI 11
      · refine wt_i hs11 ?_
        refine lv_tableIn (off := 431) (tgt := 464) X.1.1 X.1.2.1 d_law_33 (by decide) (by decide) rfl (by decide) ?_
        obtain ⟨P1, P2, r, c1, c2, hkk⟩ := op_floor (l := l) (D := D) (xs (i + 1)) hI
        refine lv_aload_n X.1.1 X.1.2.1 d_law_464 rfl (lv_at hl 2 rfl) ?_
        refine wl_arg (i := i) (j := 1) X.1.1 X.1.2.1 hX hbl hbA hS hl (by omega) hL (by decide) d_law_465 d_law_466 d_law_467 d_law_468 d_law_469 ?_
        refine wc_Vl [.int (xs (i + 1))] 3 0 X nz_nest c1 (cw_law_66 X.1.2.2.2.2 (by decide)) [] wm rfl hP hD hS rfl he1 rfl rfl hl.1 (Nat.le_of_ble_eq_true rfl) (by decide) d_law_470 (fun H locs wr2 hw2 hP hD hS => ?_)
        have hP : va_P D cls (wr2 ++ wm) H := hP
        have hD : va_D A (wr2 ++ wm) := hD
        refine lv_aload_n X.1.1 X.1.2.1 d_law_473 rfl (lv_at hl 1 rfl) ?_
        refine wl_arg (i := i) (j := 1) X.1.1 X.1.2.1 hX hbl hbA hS hl (by omega) hL (by decide) d_law_474 d_law_475 d_law_476 d_law_477 d_law_478 ?_
        refine wc_Vl [.int (xs (i + 1))] 4 0 X nz_nest c2 (cw_law_70 X.1.2.2.2.2 (by decide)) wr2 [] (by rw [List.append_nil]) hP hD hS rfl he2 rfl rfl hl.1 (Nat.le_of_ble_eq_true rfl) (by decide) d_law_479 (fun H locs wm2 hw3 hP hD hS => ?_)
        rw [List.append_nil] at hP hD
        exact wl_eq (tgt := 619) X.1.1 X.1.2.1 d_law_482 d_law_483 (by decide) (fun _ => go wr2 wm2 H locs (hkk _ _ hw2 hw3) hP hD hS) (fun z => absurd rfl z)
      by_cases hs12 : sel = nI 12
      · refine wt_i hs12 ?_
        refine lv_tableIn (off := 455) (tgt := 488) X.1.1 X.1.2.1 d_law_33 (by decide) (by decide) rfl (by decide) ?_
        obtain ⟨P1, P2, r, c1, c2, hkk⟩ := op_start (l := l) (D := D) (xs (i + 1)) (xs (i + 2)) hI
        refine lv_aload_n X.1.1 X.1.2.1 d_law_488 rfl (lv_at hl 2 rfl) ?_
        refine wl_arg (i := i) (j := 1) X.1.1 X.1.2.1 hX hbl hbA hS hl (by omega) hL (by decide) d_law_489 d_law_490 d_law_491 d_law_492 d_law_493 ?_
        refine wl_arg (i := i) (j := 2) X.1.1 X.1.2.1 hX hbl hbA hS hl (by omega) hL (by decide) d_law_494 d_law_495 d_law_496 d_law_497 d_law_498 ?_
        refine wc_Vi [.int (xs (i + 1)), .int (xs (i + 2))] 3 0 X nz_nest c1 (cw_law_71 X.1.2.2.2.2 (by decide)) [] wm rfl hP hD hS rfl he1 rfl rfl hl.1 (Nat.le_of_ble_eq_true rfl) (by decide) d_law_499 (fun H locs wr2 hw2 hP hD hS => ?_)
        have hP : va_P D cls (wr2 ++ wm) H := hP
        have hD : va_D A (wr2 ++ wm) := hD
        refine lv_aload_n X.1.1 X.1.2.1 d_law_502 rfl (lv_at hl 1 rfl) ?_
        refine wl_arg (i := i) (j := 1) X.1.1 X.1.2.1 hX hbl hbA hS hl (by omega) hL (by decide) d_law_503 d_law_504 d_law_505 d_law_506 d_law_507 ?_
        refine wl_arg (i := i) (j := 2) X.1.1 X.1.2.1 hX hbl hbA hS hl (by omega) hL (by decide) d_law_508 d_law_509 d_law_510 d_law_511 d_law_512 ?_
        refine wc_Vi [.int (xs (i + 1)), .int (xs (i + 2))] 4 0 X nz_nest c2 (cw_law_75 X.1.2.2.2.2 (by decide)) wr2 [] (by rw [List.append_nil]) hP hD hS rfl he2 rfl rfl hl.1 (Nat.le_of_ble_eq_true rfl) (by decide) d_law_513 (fun H locs wm2 hw3 hP hD hS => ?_)
        rw [List.append_nil] at hP hD
        exact wi_eq (tgt := 619) X.1.1 X.1.2.1 d_law_516 (by decide) (fun _ => go wr2 wm2 H locs (hkk _ _ hw2 hw3) hP hD hS) (fun z => absurd rfl z)
      by_cases hs13 : sel = nI 13
      · refine wt_i hs13 ?_
        refine lv_tableIn (off := 488) (tgt := 521) X.1.1 X.1.2.1 d_law_33 (by decide) (by decide) rfl (by decide) ?_
        obtain ⟨P1, P2, r, c1, c2, hkk⟩ := op_fire (l := l) (D := D) (xs (i + 1)) hI
        refine lv_aload_n X.1.1 X.1.2.1 d_law_521 rfl (lv_at hl 2 rfl) ?_
        refine wl_arg (i := i) (j := 1) X.1.1 X.1.2.1 hX hbl hbA hS hl (by omega) hL (by decide) d_law_522 d_law_523 d_law_524 d_law_525 d_law_526 ?_
        refine wc_Vi [.int (xs (i + 1))] 3 0 X nz_nest c1 (cw_law_76 X.1.2.2.2.2 (by decide)) [] wm rfl hP hD hS rfl he1 rfl rfl hl.1 (Nat.le_of_ble_eq_true rfl) (by decide) d_law_527 (fun H locs wr2 hw2 hP hD hS => ?_)
        have hP : va_P D cls (wr2 ++ wm) H := hP
        have hD : va_D A (wr2 ++ wm) := hD
        refine lv_aload_n X.1.1 X.1.2.1 d_law_530 rfl (lv_at hl 1 rfl) ?_
        refine wl_arg (i := i) (j := 1) X.1.1 X.1.2.1 hX hbl hbA hS hl (by omega) hL (by decide) d_law_531 d_law_532 d_law_533 d_law_534 d_law_535 ?_
        refine wc_Vi [.int (xs (i + 1))] 4 0 X nz_nest c2 (cw_law_79 X.1.2.2.2.2 (by decide)) wr2 [] (by rw [List.append_nil]) hP hD hS rfl he2 rfl rfl hl.1 (Nat.le_of_ble_eq_true rfl) (by decide) d_law_536 (fun H locs wm2 hw3 hP hD hS => ?_)
        rw [List.append_nil] at hP hD
        exact wi_eq (tgt := 619) X.1.1 X.1.2.1 d_law_539 (by decide) (fun _ => go wr2 wm2 H locs (hkk _ _ hw2 hw3) hP hD hS) (fun z => absurd rfl z)
      by_cases hs14 : sel = nI 14
      · refine wt_i hs14 ?_
        refine lv_tableIn (off := 511) (tgt := 544) X.1.1 X.1.2.1 d_law_33 (by decide) (by decide) rfl (by decide) ?_
        obtain ⟨P1, P2, r, c1, c2, hkk⟩ := op_value (l := l) (D := D) (xs (i + 1)) hI
        refine lv_aload_n X.1.1 X.1.2.1 d_law_544 rfl (lv_at hl 2 rfl) ?_
        refine wl_arg (i := i) (j := 1) X.1.1 X.1.2.1 hX hbl hbA hS hl (by omega) hL (by decide) d_law_545 d_law_546 d_law_547 d_law_548 d_law_549 ?_
        refine wc_Vl [.int (xs (i + 1))] 3 0 X nz_nest c1 (cw_law_80 X.1.2.2.2.2 (by decide)) [] wm rfl hP hD hS rfl he1 rfl rfl hl.1 (Nat.le_of_ble_eq_true rfl) (by decide) d_law_550 (fun H locs wr2 hw2 hP hD hS => ?_)
        have hP : va_P D cls (wr2 ++ wm) H := hP
        have hD : va_D A (wr2 ++ wm) := hD
        refine lv_aload_n X.1.1 X.1.2.1 d_law_553 rfl (lv_at hl 1 rfl) ?_
        refine wl_arg (i := i) (j := 1) X.1.1 X.1.2.1 hX hbl hbA hS hl (by omega) hL (by decide) d_law_554 d_law_555 d_law_556 d_law_557 d_law_558 ?_
        refine wc_Vl [.int (xs (i + 1))] 4 0 X nz_nest c2 (cw_law_83 X.1.2.2.2.2 (by decide)) wr2 [] (by rw [List.append_nil]) hP hD hS rfl he2 rfl rfl hl.1 (Nat.le_of_ble_eq_true rfl) (by decide) d_law_559 (fun H locs wm2 hw3 hP hD hS => ?_)
        rw [List.append_nil] at hP hD
        exact wl_eq (tgt := 619) X.1.1 X.1.2.1 d_law_562 d_law_563 (by decide) (fun _ => go wr2 wm2 H locs (hkk _ _ hw2 hw3) hP hD hS) (fun z => absurd rfl z)
      by_cases hs15 : sel = nI 15
      · refine wt_i hs15 ?_
        refine lv_tableIn (off := 535) (tgt := 568) X.1.1 X.1.2.1 d_law_33 (by decide) (by decide) rfl (by decide) ?_
        obtain ⟨P1, P2, r, c1, c2, hkk⟩ := op_fired (l := l) (D := D) hI
        refine lv_aload_n X.1.1 X.1.2.1 d_law_568 rfl (lv_at hl 2 rfl) ?_
        refine wc_Vi [] 3 0 X nz_nest c1 (cw_law_84 X.1.2.2.2.2 (by decide)) [] wm rfl hP hD hS rfl he1 rfl rfl hl.1 (Nat.le_of_ble_eq_true rfl) (by decide) d_law_569 (fun H locs wr2 hw2 hP hD hS => ?_)
        have hP : va_P D cls (wr2 ++ wm) H := hP
        have hD : va_D A (wr2 ++ wm) := hD
        refine lv_aload_n X.1.1 X.1.2.1 d_law_572 rfl (lv_at hl 1 rfl) ?_
        refine wc_Vi [] 4 0 X nz_nest c2 (cw_law_87 X.1.2.2.2.2 (by decide)) wr2 [] (by rw [List.append_nil]) hP hD hS rfl he2 rfl rfl hl.1 (Nat.le_of_ble_eq_true rfl) (by decide) d_law_573 (fun H locs wm2 hw3 hP hD hS => ?_)
        rw [List.append_nil] at hP hD
        exact wi_eq (tgt := 619) X.1.1 X.1.2.1 d_law_576 (by decide) (fun _ => go wr2 wm2 H locs (hkk _ _ hw2 hw3) hP hD hS) (fun z => absurd rfl z)
      by_cases hs16 : sel = nI 16
      · refine wt_i hs16 ?_
        refine lv_tableIn (off := 548) (tgt := 581) X.1.1 X.1.2.1 d_law_33 (by decide) (by decide) rfl (by decide) ?_
        obtain ⟨P1, P2, r, c1, c2, hkk⟩ := op_rank (l := l) (D := D) (xs (i + 1)) hI
        refine lv_aload_n X.1.1 X.1.2.1 d_law_581 rfl (lv_at hl 2 rfl) ?_
        refine wl_arg (i := i) (j := 1) X.1.1 X.1.2.1 hX hbl hbA hS hl (by omega) hL (by decide) d_law_582 d_law_583 d_law_584 d_law_585 d_law_586 ?_
        refine wc_Vl [.int (xs (i + 1))] 3 0 X nz_nest c1 (cw_law_88 X.1.2.2.2.2 (by decide)) [] wm rfl hP hD hS rfl he1 rfl rfl hl.1 (Nat.le_of_ble_eq_true rfl) (by decide) d_law_587 (fun H locs wr2 hw2 hP hD hS => ?_)
        have hP : va_P D cls (wr2 ++ wm) H := hP
        have hD : va_D A (wr2 ++ wm) := hD
        refine lv_aload_n X.1.1 X.1.2.1 d_law_590 rfl (lv_at hl 1 rfl) ?_
        refine wl_arg (i := i) (j := 1) X.1.1 X.1.2.1 hX hbl hbA hS hl (by omega) hL (by decide) d_law_591 d_law_592 d_law_593 d_law_594 d_law_595 ?_
        refine wc_Vl [.int (xs (i + 1))] 4 0 X nz_nest c2 (cw_law_91 X.1.2.2.2.2 (by decide)) wr2 [] (by rw [List.append_nil]) hP hD hS rfl he2 rfl rfl hl.1 (Nat.le_of_ble_eq_true rfl) (by decide) d_law_596 (fun H locs wm2 hw3 hP hD hS => ?_)
        rw [List.append_nil] at hP hD
        exact wl_eq (tgt := 619) X.1.1 X.1.2.1 d_law_599 d_law_600 (by decide) (fun _ => go wr2 wm2 H locs (hkk _ _ hw2 hw3) hP hD hS) (fun z => absurd rfl z)
      by_cases hs17 : sel = nI 17
      · refine wt_i hs17 ?_
        refine lv_tableIn (off := 572) (tgt := 605) X.1.1 X.1.2.1 d_law_33 (by decide) (by decide) rfl (by decide) ?_
        obtain ⟨P1, P2, r, c1, c2, hkk⟩ := op_budget (l := l) (D := D) hI
        refine lv_aload_n X.1.1 X.1.2.1 d_law_605 rfl (lv_at hl 2 rfl) ?_
        refine wc_Vl [] 3 0 X nz_nest c1 (cw_law_92 X.1.2.2.2.2 (by decide)) [] wm rfl hP hD hS rfl he1 rfl rfl hl.1 (Nat.le_of_ble_eq_true rfl) (by decide) d_law_606 (fun H locs wr2 hw2 hP hD hS => ?_)
        have hP : va_P D cls (wr2 ++ wm) H := hP
        have hD : va_D A (wr2 ++ wm) := hD
        refine lv_aload_n X.1.1 X.1.2.1 d_law_609 rfl (lv_at hl 1 rfl) ?_
        refine wc_Vl [] 4 0 X nz_nest c2 (cw_law_96 X.1.2.2.2.2 (by decide)) wr2 [] (by rw [List.append_nil]) hP hD hS rfl he2 rfl rfl hl.1 (Nat.le_of_ble_eq_true rfl) (by decide) d_law_610 (fun H locs wm2 hw3 hP hD hS => ?_)
        rw [List.append_nil] at hP hD
        exact wl_eq (tgt := 619) X.1.1 X.1.2.1 d_law_613 d_law_614 (by decide) (fun _ => go wr2 wm2 H locs (hkk _ _ hw2 hw3) hP hD hS) (fun z => absurd rfl z)
      refine lv_tableOut (tgt := 619) X.1.1 X.1.2.1 d_law_33 (ts_18 (fun k hk => ?_)) (by decide) (go wr wm H locs hI hP hD hS)
      rcases (show k = 0 ∨ k = 1 ∨ k = 2 ∨ k = 3 ∨ k = 4 ∨ k = 5 ∨ k = 6 ∨ k = 7 ∨ k = 8 ∨ k = 9 ∨ k = 10 ∨ k = 11 ∨ k = 12 ∨ k = 13 ∨ k = 14 ∨ k = 15 ∨ k = 16 ∨ k = 17 by omega) with rfl | rfl | rfl | rfl | rfl | rfl | rfl | rfl | rfl | rfl | rfl | rfl | rfl | rfl | rfl | rfl | rfl | rfl
      · exact hs0
      · exact hs1
      · exact hs2
      · exact hs3
      · exact hs4
      · exact hs5
      · exact hs6
      · exact hs7
      · exact hs8
      · exact hs9
      · exact hs10
      · exact hs11
      · exact hs12
      · exact hs13
      · exact hs14
      · exact hs15
      · exact hs16
      · exact hs17
  exact lp (L + 1) 0 wr wm ls H locs (by omega) (Nat.zero_le _) hI hl hP hD hS
set_option maxHeartbeats 4000000 in
theorem lw_walk (l : Launch) (b : Addr) (xs : List Int32) : MetFree l x (headSpec (Jvm.Cond.code x code maxLocals ret :: tables_1) room_1) (lw_P b xs) (fun _ _ _ _ _ => True) lw_Q := by
  refine MetFree.of_bodyS (code := code) (maxLocals := maxLocals) (ret := ret) (by decide) ?_ ?_
  · intro args s m h hn
    obtain ⟨meth, c, h1, h2, h3, h4, h5, h6, -, -⟩ := Cond.code_spec hn (atoms_spec (ws := Jvm.Cond.code x code maxLocals ret :: tables_1) h _ List.mem_cons_self)
    exact ⟨meth, c, h1, h2, h3, h4, h5, h6⟩
  · intro p e s m args below meth c s₁ B hml0 hP _
    obtain ⟨rfl, hx, hbd, hgv⟩ := hP
    obtain ⟨scr, harrAt, hlist, hof, hsmall⟩ := hx
    obtain ⟨hcb, hkn, -, -⟩ := State.arrayAt?_spec harrAt
    have hown : s.vm.findClass R_law = some m.cls := findClass_of_methodNamed B.named
    have hts0 : ∀ c ∈ (Jvm.Cond.code x code maxLocals ret :: tables_1), c.before #[Value.ref b] s = true := atoms_spec (ws := Jvm.Cond.code x code maxLocals ret :: tables_1) B.pre
    have hts : ∀ w ∈ lw_tbl, w.before #[Value.ref b] s = true := k2_hts_sels lw_privs (fun w hw => hts0 w (List.mem_cons_of_mem _ hw)) lw_privs_ok
    have hml : c.maxLocals = 4 := B.maxLocals_eq (hts0 _ List.mem_cons_self)
    have X₀ : Stand p l e room_1 s m #[Value.ref b] below meth c s₁ [] 0 0 := Stand.of_body B
    have hh0 : s₁.heap = s.heap := by rw [B.state]; rfl
    have hsz : scr.slots.size = xs.length := by rw [← Array.length_toList, hlist, List.length_map]
    have hval : ∀ j : Nat, j < xs.length → scr.slots[j]? = some (.int (xs.getD j 0)) := fun j hj => by
      rw [← Array.getElem?_toList, hlist]
      simp [hj]
    have hbl : b < s.heap.size := (Array.getElem?_eq_some_iff.mp hcb).1
    have hX : va_X b xs.length (fun j => xs.getD j 0) s s.heap := ⟨scr, hcb, hof, hkn, hsz, hval⟩
    have K : W p l e room_1 s m #[Value.ref b] below meth c s₁.heap [] 0 0 (lw_Z below #[Value.ref b] s) (entryFrame m ([Value.ref b] : List Value).toArray 4) := by
      rw [hh0]
      exact whole_start l hbd ⟨B.exec, B.bytes, B.returns, hml, hown, hts, hX, hbl, B.notSynchronized, hgv⟩
    obtain ⟨t, a1, o, b1, b2, b3⟩ := K s₁ rfl X₀
    exact ⟨t, o, a1, b1, b2, b3⟩
theorem lw_pre_spec {args : Array Value} {s : State} (h : (Jvm.Cond.and given_1 narrow_1).before args s = true) (hr : rest_1_c.before args s = true) : ∃ (b : Addr) (xs : List Int32), lw_P b xs args s := by
  have hs := flat_of_before _ h
  have hq := flat_of_before _ hr
  have hc : (Cond.count 1).before args s = true := hs _ (by decide +kernel)
  have harr : (Cond.arrayOf (.arg 0) .int).before args s = true := hs _ (by decide +kernel)
  have hle : (Cond.le (.length (.arg 0)) (.int 3072)).before args s = true := hs _ (by decide +kernel)
  have hlen : (Cond.isInt (.length (.arg 0))).before args s = true := hq _ (by decide +kernel)
  have hall : (Cond.all (.arg 0) (.isInt (.elem (.arg 0) (.index 0)))).before args s = true := hq _ (by decide +kernel)
  obtain ⟨b, xs, hb, hx⟩ := State.ints_of_pre rfl harr hlen hall
  have hsm : xs.length < 2 ^ 31 := hx.choose_spec.2.2.2
  have hev : (Term.length (.arg 0)).eval args s none [] s = some (.int xs.length.toInt32) := hx.length_eval hb
  have hv := Cond.le_ints hev (show (Term.int 3072).eval args s none [] s = some (.int 3072) from rfl)
  have hd : xs.length.toInt32 ≤ 3072 := by
    simpa [Cond.before, Cond.holds, hv] using hle
  have hN : xs.length ≤ 3072 := (Int32.ofNat_le_ofNat hsm (by decide)).mp (show Int32.ofNat xs.length ≤ Int32.ofNat 3072 from hd)
  exact ⟨b, xs, Cond.one_arg hc (show args[0]? = some (.ref b) from hb), hx, hN, h⟩
theorem lw_comes (l : Launch) : Comes l x (Jvm.Cond.code x code maxLocals ret :: tables_1) room_1 (fun tb e args s => Calls_1 tb e args s ∧ rest_1 tb e args s ∧ Pre_1 tb e args s)
    (fun _ _ args s o t => lw_Q args s o t) := by
  intro p e ha hc hk s m args below hf hfit hheap happ hpre
  obtain ⟨b, xs, hP⟩ := lw_pre_spec hpre.2.2 hpre.2.1
  obtain ⟨k, o, h1, h2, h3, hQ⟩ := lw_walk l b xs p e ha hc hk s m args below hf ((Spec.applies_iff_loose hf).mp happ).1 hP trivial
  exact ⟨k, o, h1, h2, h3, hQ⟩
theorem lw_frame {s t : State} {o : Outcome} {args : Array Value} (h : Framed s o t [] 600000 7302250) :
    Framed s o t (fieldLocs frame_1_writes args s ++ arrayLocs frame_1_arrays args s ++ staticLocs frame_1_statics s) 600000 7302250 := h
theorem lw_limb (L : Cond) (hL : ∀ (args : Array Value) (s t : State), L.after args s (.returned (some (.int 1))) t = true) :
    ArmFor flags0 classFile x code maxLocals ret World_1 tables_1 room_1 Calls_1 rest_1 Pre_1
      (fun tb e a s o t => postC L tb e a s o t ∧ Framed s o t (fieldLocs frame_1_writes a s ++ arrayLocs frame_1_arrays a s ++ staticLocs frame_1_statics s) 600000 7302250) := by
  intro l _ _ _ p e ha hc hk s m args below hf hfit hheap happ hpre
  obtain ⟨k, o, h1, h2, h3, rfl, hF⟩ := lw_comes l p e ha hc hk s m args below hf hfit hheap happ hpre
  exact ⟨k, _, h1, h2, h3, hL args s _, lw_frame hF⟩
theorem i_vc : Claimed_1_1 ∧ Claimed_1_2 := ⟨lw_limb limb_1_1 (fun args s t => by simp [limb_1_1, Cond.after, Cond.holds, Cond.value]), lw_limb limb_1_2 (fun args s t => Cond.after_iff.mpr (by
  first | (rw [show limb_1_2 = Cond.eq .result (.int 1) from rfl, Cond.eq_ints (x := 1) (y := 1) rfl rfl]; simp; done) | (simp [limb_1_2, Cond.value, Term.eval]; done)))⟩
