-- ===== PART A: goes FIRST, ahead of the names: the tables' words, and 'selects' of the private methods out of them =====
/-- a private method of a class that the tables say can be made, by its rows of tables_1 -/
def lw_okq (q : MethodName × Nat) : Prop := (q.1.cls ≠ "java/lang/invoke/MethodHandle" ∧ q.1.cls ≠ "java/lang/invoke/VarHandle") ∧ Cond.instantiable q.1.cls q.2 ∈ tables_1 ∧ Cond.privateMethod q.1 ∈ tables_1 ∧ Cond.instanceMethod q.1 ∈ tables_1
theorem lw_p0 : lw_okq (⟨"LoopRanker$Guard", "clear", "()V"⟩, 7) := ⟨⟨by decide +kernel, by decide +kernel⟩, List.mem_of_getElem? (i := 23) (by decide +kernel), List.mem_of_getElem? (i := 29) (by decide +kernel), List.mem_of_getElem? (i := 30) (by decide +kernel)⟩
theorem lw_p1 : lw_okq (⟨"LoopRanker$Proof", "listFunctions", "()V"⟩, 9) := ⟨⟨by decide +kernel, by decide +kernel⟩, List.mem_of_getElem? (i := 76) (by decide +kernel), List.mem_of_getElem? (i := 82) (by decide +kernel), List.mem_of_getElem? (i := 83) (by decide +kernel)⟩
theorem lw_p2 : lw_okq (⟨"LoopRanker$Step", "reset", "()V"⟩, 4) := ⟨⟨by decide +kernel, by decide +kernel⟩, List.mem_of_getElem? (i := 17) (by decide +kernel), List.mem_of_getElem? (i := 148) (by decide +kernel), List.mem_of_getElem? (i := 149) (by decide +kernel)⟩
theorem lw_p3 : lw_okq (⟨"LoopRanker$Step", "setRule", "(IIII)V"⟩, 4) := ⟨⟨by decide +kernel, by decide +kernel⟩, List.mem_of_getElem? (i := 17) (by decide +kernel), List.mem_of_getElem? (i := 153) (by decide +kernel), List.mem_of_getElem? (i := 154) (by decide +kernel)⟩
theorem lw_p4 : lw_okq (⟨"LoopRanker", "isStep", "(I)Z"⟩, 6) := ⟨⟨by decide +kernel, by decide +kernel⟩, List.mem_of_getElem? (i := 8) (by decide +kernel), List.mem_of_getElem? (i := 161) (by decide +kernel), List.mem_of_getElem? (i := 162) (by decide +kernel)⟩
theorem lw_p5 : lw_okq (⟨"LoopRanker$Step", "addRow", "(III)V"⟩, 4) := ⟨⟨by decide +kernel, by decide +kernel⟩, List.mem_of_getElem? (i := 17) (by decide +kernel), List.mem_of_getElem? (i := 170) (by decide +kernel), List.mem_of_getElem? (i := 171) (by decide +kernel)⟩
theorem lw_p6 : lw_okq (⟨"LoopRanker$Guard", "add", "(III)V"⟩, 7) := ⟨⟨by decide +kernel, by decide +kernel⟩, List.mem_of_getElem? (i := 23) (by decide +kernel), List.mem_of_getElem? (i := 174) (by decide +kernel), List.mem_of_getElem? (i := 175) (by decide +kernel)⟩
theorem lw_p7 : lw_okq (⟨"LoopRanker$Guard", "maximise", "(II)V"⟩, 7) := ⟨⟨by decide +kernel, by decide +kernel⟩, List.mem_of_getElem? (i := 23) (by decide +kernel), List.mem_of_getElem? (i := 178) (by decide +kernel), List.mem_of_getElem? (i := 179) (by decide +kernel)⟩
theorem lw_p8 : lw_okq (⟨"LoopRanker$Guard", "boundByRow", "(III)V"⟩, 7) := ⟨⟨by decide +kernel, by decide +kernel⟩, List.mem_of_getElem? (i := 23) (by decide +kernel), List.mem_of_getElem? (i := 182) (by decide +kernel), List.mem_of_getElem? (i := 183) (by decide +kernel)⟩
theorem lw_p9 : lw_okq (⟨"LoopRanker$Guard", "lowerTo", "(JJ)V"⟩, 7) := ⟨⟨by decide +kernel, by decide +kernel⟩, List.mem_of_getElem? (i := 23) (by decide +kernel), List.mem_of_getElem? (i := 190) (by decide +kernel), List.mem_of_getElem? (i := 191) (by decide +kernel)⟩
theorem lw_p10 : lw_okq (⟨"LoopRanker$Guard", "boundByPair", "(IIII)V"⟩, 7) := ⟨⟨by decide +kernel, by decide +kernel⟩, List.mem_of_getElem? (i := 23) (by decide +kernel), List.mem_of_getElem? (i := 194) (by decide +kernel), List.mem_of_getElem? (i := 195) (by decide +kernel)⟩
theorem lw_p11 : lw_okq (⟨"LoopRanker$Guard", "maximumRoundedDown", "()J"⟩, 7) := ⟨⟨by decide +kernel, by decide +kernel⟩, List.mem_of_getElem? (i := 23) (by decide +kernel), List.mem_of_getElem? (i := 225) (by decide +kernel), List.mem_of_getElem? (i := 226) (by decide +kernel)⟩
theorem lw_p12 : lw_okq (⟨"LoopRanker$Step", "changesByAtMost", "(III)Z"⟩, 4) := ⟨⟨by decide +kernel, by decide +kernel⟩, List.mem_of_getElem? (i := 17) (by decide +kernel), List.mem_of_getElem? (i := 238) (by decide +kernel), List.mem_of_getElem? (i := 239) (by decide +kernel)⟩
theorem lw_p13 : lw_okq (⟨"LoopRanker$Guard", "maximumIsAtMost", "(J)Z"⟩, 7) := ⟨⟨by decide +kernel, by decide +kernel⟩, List.mem_of_getElem? (i := 23) (by decide +kernel), List.mem_of_getElem? (i := 243) (by decide +kernel), List.mem_of_getElem? (i := 244) (by decide +kernel)⟩
theorem lw_p14 : lw_okq (⟨"LoopRanker$Step", "isBounded", "(II)Z"⟩, 4) := ⟨⟨by decide +kernel, by decide +kernel⟩, List.mem_of_getElem? (i := 17) (by decide +kernel), List.mem_of_getElem? (i := 247) (by decide +kernel), List.mem_of_getElem? (i := 248) (by decide +kernel)⟩
theorem lw_p15 : lw_okq (⟨"LoopRanker$Guard", "hasMaximum", "()Z"⟩, 7) := ⟨⟨by decide +kernel, by decide +kernel⟩, List.mem_of_getElem? (i := 23) (by decide +kernel), List.mem_of_getElem? (i := 251) (by decide +kernel), List.mem_of_getElem? (i := 252) (by decide +kernel)⟩
def lw_privs_1 : List (MethodName × Nat) := [(⟨"LoopRanker$Guard", "clear", "()V"⟩, 7), (⟨"LoopRanker$Proof", "listFunctions", "()V"⟩, 9), (⟨"LoopRanker$Step", "reset", "()V"⟩, 4), (⟨"LoopRanker$Step", "setRule", "(IIII)V"⟩, 4), (⟨"LoopRanker", "isStep", "(I)Z"⟩, 6), (⟨"LoopRanker$Step", "addRow", "(III)V"⟩, 4), (⟨"LoopRanker$Guard", "add", "(III)V"⟩, 7), (⟨"LoopRanker$Guard", "maximise", "(II)V"⟩, 7), (⟨"LoopRanker$Guard", "boundByRow", "(III)V"⟩, 7), (⟨"LoopRanker$Guard", "lowerTo", "(JJ)V"⟩, 7), (⟨"LoopRanker$Guard", "boundByPair", "(IIII)V"⟩, 7), (⟨"LoopRanker$Guard", "maximumRoundedDown", "()J"⟩, 7), (⟨"LoopRanker$Step", "changesByAtMost", "(III)Z"⟩, 4), (⟨"LoopRanker$Guard", "maximumIsAtMost", "(J)Z"⟩, 7), (⟨"LoopRanker$Step", "isBounded", "(II)Z"⟩, 4), (⟨"LoopRanker$Guard", "hasMaximum", "()Z"⟩, 7)]
theorem lw_r1 : ∀ q ∈ lw_privs_1, lw_okq q := List.forall_mem_cons.mpr ⟨lw_p0, List.forall_mem_cons.mpr ⟨lw_p1, List.forall_mem_cons.mpr ⟨lw_p2, List.forall_mem_cons.mpr ⟨lw_p3, List.forall_mem_cons.mpr ⟨lw_p4, List.forall_mem_cons.mpr ⟨lw_p5, List.forall_mem_cons.mpr ⟨lw_p6, List.forall_mem_cons.mpr ⟨lw_p7, List.forall_mem_cons.mpr ⟨lw_p8, List.forall_mem_cons.mpr ⟨lw_p9, List.forall_mem_cons.mpr ⟨lw_p10, List.forall_mem_cons.mpr ⟨lw_p11, List.forall_mem_cons.mpr ⟨lw_p12, List.forall_mem_cons.mpr ⟨lw_p13, List.forall_mem_cons.mpr ⟨lw_p14, List.forall_mem_cons.mpr ⟨lw_p15, fun _ h => absurd h List.not_mem_nil⟩⟩⟩⟩⟩⟩⟩⟩⟩⟩⟩⟩⟩⟩⟩⟩
theorem lw_p16 : lw_okq (⟨"LoopRanker$Proof", "renew", "([LLoopRanker$Step;I)V"⟩, 9) := ⟨⟨by decide +kernel, by decide +kernel⟩, List.mem_of_getElem? (i := 76) (by decide +kernel), List.mem_of_getElem? (i := 259) (by decide +kernel), List.mem_of_getElem? (i := 260) (by decide +kernel)⟩
theorem lw_p17 : lw_okq (⟨"LoopRanker$Step", "findKinds", "([I[I)V"⟩, 4) := ⟨⟨by decide +kernel, by decide +kernel⟩, List.mem_of_getElem? (i := 17) (by decide +kernel), List.mem_of_getElem? (i := 263) (by decide +kernel), List.mem_of_getElem? (i := 264) (by decide +kernel)⟩
theorem lw_p18 : lw_okq (⟨"LoopRanker$Proof", "bestFunction", "([LLoopRanker$Step;I)I"⟩, 9) := ⟨⟨by decide +kernel, by decide +kernel⟩, List.mem_of_getElem? (i := 76) (by decide +kernel), List.mem_of_getElem? (i := 269) (by decide +kernel), List.mem_of_getElem? (i := 270) (by decide +kernel)⟩
theorem lw_p19 : lw_okq (⟨"LoopRanker$Proof", "countRemoved", "(I[LLoopRanker$Step;I)I"⟩, 9) := ⟨⟨by decide +kernel, by decide +kernel⟩, List.mem_of_getElem? (i := 76) (by decide +kernel), List.mem_of_getElem? (i := 273) (by decide +kernel), List.mem_of_getElem? (i := 274) (by decide +kernel)⟩
theorem lw_p20 : lw_okq (⟨"LoopRanker$Proof", "addLevel", "(I[LLoopRanker$Step;I)V"⟩, 9) := ⟨⟨by decide +kernel, by decide +kernel⟩, List.mem_of_getElem? (i := 76) (by decide +kernel), List.mem_of_getElem? (i := 277) (by decide +kernel), List.mem_of_getElem? (i := 278) (by decide +kernel)⟩
theorem lw_p21 : lw_okq (⟨"LoopRanker$Proof", "hasLevel", "(I)Z"⟩, 9) := ⟨⟨by decide +kernel, by decide +kernel⟩, List.mem_of_getElem? (i := 76) (by decide +kernel), List.mem_of_getElem? (i := 299) (by decide +kernel), List.mem_of_getElem? (i := 300) (by decide +kernel)⟩
theorem lw_p22 : lw_okq (⟨"LoopRanker$Guard", "allows", "(JJ)Z"⟩, 7) := ⟨⟨by decide +kernel, by decide +kernel⟩, List.mem_of_getElem? (i := 23) (by decide +kernel), List.mem_of_getElem? (i := 316) (by decide +kernel), List.mem_of_getElem? (i := 317) (by decide +kernel)⟩
theorem lw_p23 : lw_okq (⟨"LoopRanker$Step", "next", "(IJJ)J"⟩, 4) := ⟨⟨by decide +kernel, by decide +kernel⟩, List.mem_of_getElem? (i := 17) (by decide +kernel), List.mem_of_getElem? (i := 320) (by decide +kernel), List.mem_of_getElem? (i := 321) (by decide +kernel)⟩
theorem lw_p24 : lw_okq (⟨"LoopRanker$Proof", "functionValue", "(IJJ)J"⟩, 9) := ⟨⟨by decide +kernel, by decide +kernel⟩, List.mem_of_getElem? (i := 76) (by decide +kernel), List.mem_of_getElem? (i := 337) (by decide +kernel), List.mem_of_getElem? (i := 338) (by decide +kernel)⟩
theorem lw_p25 : lw_okq (⟨"LoopRankerModel", "there", "(I)Z"⟩, 16) := ⟨⟨by decide +kernel, by decide +kernel⟩, List.mem_of_getElem? (i := 349) (by decide +kernel), List.mem_of_getElem? (i := 412) (by decide +kernel), List.mem_of_getElem? (i := 413) (by decide +kernel)⟩
theorem lw_p26 : lw_okq (⟨"LoopRankerModel", "empty", "(I)Z"⟩, 16) := ⟨⟨by decide +kernel, by decide +kernel⟩, List.mem_of_getElem? (i := 349) (by decide +kernel), List.mem_of_getElem? (i := 436) (by decide +kernel), List.mem_of_getElem? (i := 437) (by decide +kernel)⟩
theorem lw_p27 : lw_okq (⟨"LoopRankerModel", "look", "(III)V"⟩, 16) := ⟨⟨by decide +kernel, by decide +kernel⟩, List.mem_of_getElem? (i := 349) (by decide +kernel), List.mem_of_getElem? (i := 440) (by decide +kernel), List.mem_of_getElem? (i := 441) (by decide +kernel)⟩
theorem lw_p28 : lw_okq (⟨"LoopRankerModel", "meet", "(IJJJII)V"⟩, 16) := ⟨⟨by decide +kernel, by decide +kernel⟩, List.mem_of_getElem? (i := 349) (by decide +kernel), List.mem_of_getElem? (i := 444) (by decide +kernel), List.mem_of_getElem? (i := 445) (by decide +kernel)⟩
theorem lw_p29 : lw_okq (⟨"LoopRankerModel", "said", "(III)Z"⟩, 16) := ⟨⟨by decide +kernel, by decide +kernel⟩, List.mem_of_getElem? (i := 349) (by decide +kernel), List.mem_of_getElem? (i := 449) (by decide +kernel), List.mem_of_getElem? (i := 450) (by decide +kernel)⟩
theorem lw_p30 : lw_okq (⟨"LoopRankerModel", "endless", "(III)Z"⟩, 16) := ⟨⟨by decide +kernel, by decide +kernel⟩, List.mem_of_getElem? (i := 349) (by decide +kernel), List.mem_of_getElem? (i := 453) (by decide +kernel), List.mem_of_getElem? (i := 454) (by decide +kernel)⟩
theorem lw_p31 : lw_okq (⟨"LoopRankerModel", "way", "(IIIII)Z"⟩, 16) := ⟨⟨by decide +kernel, by decide +kernel⟩, List.mem_of_getElem? (i := 349) (by decide +kernel), List.mem_of_getElem? (i := 457) (by decide +kernel), List.mem_of_getElem? (i := 458) (by decide +kernel)⟩
def lw_privs_2 : List (MethodName × Nat) := [(⟨"LoopRanker$Proof", "renew", "([LLoopRanker$Step;I)V"⟩, 9), (⟨"LoopRanker$Step", "findKinds", "([I[I)V"⟩, 4), (⟨"LoopRanker$Proof", "bestFunction", "([LLoopRanker$Step;I)I"⟩, 9), (⟨"LoopRanker$Proof", "countRemoved", "(I[LLoopRanker$Step;I)I"⟩, 9), (⟨"LoopRanker$Proof", "addLevel", "(I[LLoopRanker$Step;I)V"⟩, 9), (⟨"LoopRanker$Proof", "hasLevel", "(I)Z"⟩, 9), (⟨"LoopRanker$Guard", "allows", "(JJ)Z"⟩, 7), (⟨"LoopRanker$Step", "next", "(IJJ)J"⟩, 4), (⟨"LoopRanker$Proof", "functionValue", "(IJJ)J"⟩, 9), (⟨"LoopRankerModel", "there", "(I)Z"⟩, 16), (⟨"LoopRankerModel", "empty", "(I)Z"⟩, 16), (⟨"LoopRankerModel", "look", "(III)V"⟩, 16), (⟨"LoopRankerModel", "meet", "(IJJJII)V"⟩, 16), (⟨"LoopRankerModel", "said", "(III)Z"⟩, 16), (⟨"LoopRankerModel", "endless", "(III)Z"⟩, 16), (⟨"LoopRankerModel", "way", "(IIIII)Z"⟩, 16)]
theorem lw_r2 : ∀ q ∈ lw_privs_2, lw_okq q := List.forall_mem_cons.mpr ⟨lw_p16, List.forall_mem_cons.mpr ⟨lw_p17, List.forall_mem_cons.mpr ⟨lw_p18, List.forall_mem_cons.mpr ⟨lw_p19, List.forall_mem_cons.mpr ⟨lw_p20, List.forall_mem_cons.mpr ⟨lw_p21, List.forall_mem_cons.mpr ⟨lw_p22, List.forall_mem_cons.mpr ⟨lw_p23, List.forall_mem_cons.mpr ⟨lw_p24, List.forall_mem_cons.mpr ⟨lw_p25, List.forall_mem_cons.mpr ⟨lw_p26, List.forall_mem_cons.mpr ⟨lw_p27, List.forall_mem_cons.mpr ⟨lw_p28, List.forall_mem_cons.mpr ⟨lw_p29, List.forall_mem_cons.mpr ⟨lw_p30, List.forall_mem_cons.mpr ⟨lw_p31, fun _ h => absurd h List.not_mem_nil⟩⟩⟩⟩⟩⟩⟩⟩⟩⟩⟩⟩⟩⟩⟩⟩
theorem lw_p32 : lw_okq (⟨"LoopRankerModel", "has", "(IIII)Z"⟩, 16) := ⟨⟨by decide +kernel, by decide +kernel⟩, List.mem_of_getElem? (i := 349) (by decide +kernel), List.mem_of_getElem? (i := 468) (by decide +kernel), List.mem_of_getElem? (i := 469) (by decide +kernel)⟩
theorem lw_p33 : lw_okq (⟨"LoopRankerModel", "never", "(IIII)Z"⟩, 16) := ⟨⟨by decide +kernel, by decide +kernel⟩, List.mem_of_getElem? (i := 349) (by decide +kernel), List.mem_of_getElem? (i := 472) (by decide +kernel), List.mem_of_getElem? (i := 473) (by decide +kernel)⟩
theorem lw_p34 : lw_okq (⟨"LoopRankerModel", "prove", "()V"⟩, 16) := ⟨⟨by decide +kernel, by decide +kernel⟩, List.mem_of_getElem? (i := 349) (by decide +kernel), List.mem_of_getElem? (i := 480) (by decide +kernel), List.mem_of_getElem? (i := 481) (by decide +kernel)⟩
theorem lw_p35 : lw_okq (⟨"LoopRankerModel", "left", "()I"⟩, 16) := ⟨⟨by decide +kernel, by decide +kernel⟩, List.mem_of_getElem? (i := 349) (by decide +kernel), List.mem_of_getElem? (i := 484) (by decide +kernel), List.mem_of_getElem? (i := 485) (by decide +kernel)⟩
theorem lw_p36 : lw_okq (⟨"LoopRankerModel", "level", "()Z"⟩, 16) := ⟨⟨by decide +kernel, by decide +kernel⟩, List.mem_of_getElem? (i := 349) (by decide +kernel), List.mem_of_getElem? (i := 488) (by decide +kernel), List.mem_of_getElem? (i := 489) (by decide +kernel)⟩
theorem lw_p37 : lw_okq (⟨"LoopRankerModel", "removes", "(II)I"⟩, 16) := ⟨⟨by decide +kernel, by decide +kernel⟩, List.mem_of_getElem? (i := 349) (by decide +kernel), List.mem_of_getElem? (i := 492) (by decide +kernel), List.mem_of_getElem? (i := 493) (by decide +kernel)⟩
theorem lw_p38 : lw_okq (⟨"LoopRankerModel", "floorOf", "(I)J"⟩, 16) := ⟨⟨by decide +kernel, by decide +kernel⟩, List.mem_of_getElem? (i := 349) (by decide +kernel), List.mem_of_getElem? (i := 518) (by decide +kernel), List.mem_of_getElem? (i := 519) (by decide +kernel)⟩
def lw_privs_3 : List (MethodName × Nat) := [(⟨"LoopRankerModel", "has", "(IIII)Z"⟩, 16), (⟨"LoopRankerModel", "never", "(IIII)Z"⟩, 16), (⟨"LoopRankerModel", "prove", "()V"⟩, 16), (⟨"LoopRankerModel", "left", "()I"⟩, 16), (⟨"LoopRankerModel", "level", "()Z"⟩, 16), (⟨"LoopRankerModel", "removes", "(II)I"⟩, 16), (⟨"LoopRankerModel", "floorOf", "(I)J"⟩, 16)]
theorem lw_r3 : ∀ q ∈ lw_privs_3, lw_okq q := List.forall_mem_cons.mpr ⟨lw_p32, List.forall_mem_cons.mpr ⟨lw_p33, List.forall_mem_cons.mpr ⟨lw_p34, List.forall_mem_cons.mpr ⟨lw_p35, List.forall_mem_cons.mpr ⟨lw_p36, List.forall_mem_cons.mpr ⟨lw_p37, List.forall_mem_cons.mpr ⟨lw_p38, fun _ h => absurd h List.not_mem_nil⟩⟩⟩⟩⟩⟩⟩
def lw_privs : List (MethodName × Nat) := lw_privs_1 ++ (lw_privs_2 ++ (lw_privs_3))
def lw_tbl : List Cond := k2_sels lw_privs ++ tables_1
theorem lw_privs_ok : ∀ q ∈ lw_privs, lw_okq q := by
  show ∀ q ∈ lw_privs_1 ++ (lw_privs_2 ++ (lw_privs_3)), lw_okq q
  exact List.forall_mem_append.mpr ⟨lw_r1, List.forall_mem_append.mpr ⟨lw_r2, lw_r3⟩⟩
/-! The words that the methods need are among the law's -/
def kp_g : Cond → Bool
  | .methodLinkNest .. => false
  | .fieldLinkNest .. => false
  | .arrayOver .. => false
  | .privateMethod .. => false
  | _ => true
def kp_n : Cond → Bool
  | .methodLinkNest .. => true
  | .fieldLinkNest .. => true
  | _ => false
set_option maxRecDepth 100000 in
set_option maxHeartbeats 4000000 in
theorem BW_eq : BW = tables_1.filter kp_g ++ k2_sels lw_privs := rfl
set_option maxRecDepth 100000 in
set_option maxHeartbeats 4000000 in
theorem nz_eq : nz = tables_1.filter kp_n := rfl
theorem BW_in : ∀ w ∈ BW, w ∈ lw_tbl := by
  intro w hw
  rw [BW_eq] at hw
  rcases List.mem_append.mp hw with h | h
  · exact List.mem_append_right _ (List.mem_filter.mp h).1
  · exact List.mem_append_left _ h
theorem nz_in : ∀ w ∈ nz, w ∈ lw_tbl := by
  intro w hw
  rw [nz_eq] at hw
  exact List.mem_append_right _ (List.mem_filter.mp hw).1
/-- what the law knows of the classes -/
theorem lw_K {args : Array Value} {s : State} (hts : ∀ w ∈ lw_tbl, w.before args s = true) : ∃ (D : va_G) (cI cJ cS : ClassId), va_K D cls (kT cI cJ cS) s ∧ wk_Z nz s ∧ va_AO "LoopRanker$Step" s := by
  have hT : ∀ w ∈ BW, w.before args s = true := fun w hw => hts w (BW_in w hw)
  have hao : (Cond.arrayOver (.object "LoopRanker$Step")).before args s = true := hts _ (List.mem_append_right _ (List.mem_of_getElem? (i := 16) (by decide +kernel)))
  obtain ⟨c0, i0, k0⟩ := u_known hT hin_Guard (hT _ (List.mem_append_right _ (List.mem_append_left _ (List.mem_of_getElem? (i := 1) rfl))))
  obtain ⟨c1, i1, k1⟩ := u_known hT hin_Step (hT _ (List.mem_append_left _ (List.mem_of_getElem? (i := 16) rfl)))
  obtain ⟨c2, i2, k2⟩ := u_known hT hin_Proof (hT _ (List.mem_append_right _ (List.mem_append_right _ (List.mem_append_right _ (List.mem_append_left _ (List.mem_of_getElem? (i := 5) rfl))))))
  obtain ⟨c3, i3, k3⟩ := u_known hT hin_LoopRanker (hT _ (List.mem_append_left _ (List.mem_of_getElem? (i := 8) rfl)))
  obtain ⟨c4, i4, k4⟩ := u_known hT hin_LoopRankerModel (hT _ (List.mem_append_right _ (List.mem_append_right _ (List.mem_append_right _ (List.mem_append_right _ (List.mem_append_right _ (List.mem_append_right _ (List.mem_append_right _ (List.mem_append_right _ (List.mem_append_right _ (List.mem_append_right _ (List.mem_append_right _ (List.mem_append_right _ (List.mem_append_right _ (List.mem_append_right _ (List.mem_append_left _ (List.mem_of_getElem? (i := 6) rfl)))))))))))))))))
  obtain ⟨cI, kI, pI, a1, a2, a3⟩ := Cond.arrayClass_spec (hT _ (List.mem_append_right _ (List.mem_append_right _ (List.mem_append_left _ (List.mem_of_getElem? (i := 10) rfl)))))
  obtain ⟨cJ, kJ, pJ, b1, b2, b3⟩ := Cond.arrayClass_spec (hT _ (List.mem_append_right _ (List.mem_append_right _ (List.mem_append_right _ (List.mem_append_right _ (List.mem_append_right _ (List.mem_append_left _ (List.mem_of_getElem? (i := 3) rfl))))))))
  obtain ⟨pS, cS, kS, d1, -, d2, d3, d4⟩ := Cond.arrayOver_spec hao
  refine ⟨(fun n => match n with | 0 => c0 | 1 => c1 | 2 => c2 | 3 => c3 | _ => c4, fun n => match n with | 0 => i0 | 1 => i1 | 2 => i2 | 3 => i3 | _ => i4), cI, cJ, cS, ⟨fun c q hq => ?_, fun k q hq => ?_⟩, fun w hw => ?_, va_AO.of hao⟩
  · match c with
    | 0 => cases hq; exact k0
    | 1 => cases hq; exact k1
    | 2 => cases hq; exact k2
    | 3 => cases hq; exact k3
    | 4 => cases hq; exact k4
    | n + 5 => cases hq
  · match k with
    | 0 => cases hq; exact ⟨fun n z => ⟨fun k h => (by cases h), kI, a2, pI, a3⟩, a1⟩
    | 1 => cases hq; exact ⟨fun n z => ⟨fun k h => (by cases h), kJ, b2, pJ, b3⟩, b1⟩
    | 2 => cases hq; exact ⟨fun n z => ⟨fun k h => (by cases h), kS, d2, pS, d3⟩, kS, pS, d2, d3, d1, d4⟩
    | n + 3 => cases hq
  · exact va_Nw.of (by rcases nz_nest w hw with ⟨_, _, _, _, _, _, rfl⟩ | ⟨_, _, _, _, rfl⟩ <;> rfl) (hts w (nz_in w hw))
