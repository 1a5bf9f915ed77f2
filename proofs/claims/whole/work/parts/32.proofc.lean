section CT
variable {l : Launch} {D : va_G} {cI cJ cS : ClassId}
theorem c_in_lf (lo : Nat → Int32) (sc : Nat) : sc = c_lf (c_in lo sc) sc 0 0 := by
  have key : ∀ (k t n : Nat), t + k ≤ sc → c_lf (c_in lo sc) k t n = n + k := by
    intro k
    induction k with
    | zero => intro t n _; rfl
    | succ k ih =>
      intro t n h
      show c_lf (c_in lo sc) k (t + 1) (if c_in lo sc t = -1 then n + 1 else n) = _
      rw [if_pos (show c_in lo sc t = -1 from if_pos (by omega)), ih (t + 1) (n + 1) (by omega)]
      omega
  rw [key sc 0 0 (by omega)]
  omega
set_option maxHeartbeats 4000000 in
set_option maxRecDepth 100000 in
theorem c_Proof_renew (sa po u1 u2 l1 l2 l3 l4 : Nat) (us vs lu lw : Nat → Int32) (lf : Nat → Int64) (lo : Nat → Int32) (lc ln : Nat) (fs : Int32) (bs : List bT) (sc : Nat) (ds : List bDt) (hds : bs.map bD = ds) (hok : bsOK us vs bs) (hsc : sc ≤ 6) (hfs : ¬ fs = 0 → fs = 1 ∧ c_PR ds us vs sc lo lc ln lu lw lf) : wk_kv l y_Proof_renew (Cond.code y_Proof_renew b_Proof_renew 5 none :: BW) rm_Proof_renew D cls (kT cI cJ cS) nz [.ref po, .ref sa, .int (nI sc)] (pW cI cJ cS sa po u1 u2 l1 l2 l3 l4 us vs lu lw lf lo lc ln fs bs) (fun wz => ∃ lu2 lw2 lf2 lo2 lc2 ln2 bs2, wz = pW cI cJ cS sa po u1 u2 l1 l2 l3 l4 us vs lu2 lw2 lf2 lo2 lc2 ln2 1 bs2 ∧ bsOK us vs bs2 ∧ bs2.map bD = ds ∧ c_PR ds us vs sc lo2 lc2 ln2 lu2 lw2 lf2) := by
  refine ws_v (plainFor_of_name (by decide)) (Nat.le_of_ble_eq_true rfl) ?_
  intro p e s m below meth c A ls Q X hret hl hP hD hS
  obtain ⟨H, hH⟩ : ∃ H, H = s.heap := ⟨_, rfl⟩
  obtain ⟨locs, hlo⟩ : ∃ locs : List Loc, locs = [] := ⟨_, rfl⟩
  have hP : va_P D cls (pW cI cJ cS sa po u1 u2 l1 l2 l3 l4 us vs lu lw lf lo lc ln fs bs) H := by rw [hH]; exact hP
  have hS : va_S A s.heap H locs := by rw [hH, hlo]; exact hS
  suffices hgo : W p l e rm_Proof_renew s m ([.ref po, .ref sa, .int (nI sc)] : List Value).toArray below meth c H locs 0 0 Q (F0 m 0 ls ([])) by rw [hH, hlo] at hgo; exact hgo
  clear hH hlo
  have hl : lv_has ls 5 [(0, .ref po), (1, .ref sa), (2, .int (nI sc))] := hl
  have hmap := hds
  refine lv_aload_n X.1.1 X.1.2.1 d_Proof_renew_0 rfl (lv_at hl 0 rfl) ?_
  refine fg_Proof_38 X hP 1 rfl rfl d_Proof_renew_1 ?_
  refine wi0_eq (tgt := 8) X.1.1 X.1.2.1 d_Proof_renew_4 (by decide) (fun h4 => ?_) (fun h4 => ?_)
  · refine lv_aload_n X.1.1 X.1.2.1 d_Proof_renew_8 rfl (lv_at hl 0 rfl) ?_
    refine lv_iconst (v := (1 : Int32)) X.1.1 X.1.2.1 d_Proof_renew_9 (by decide) ?_
    refine fp_Proof_38 X hP hD hS 1 rfl rfl rfl rfl d_Proof_renew_10 (fun H locs hP hD hS => ?_)
    have hP : va_P D cls (pW cI cJ cS sa po u1 u2 l1 l2 l3 l4 us vs lu lw lf lo lc ln (1 : Int32) bs) H := hP
    have hD : va_D A (pW cI cJ cS sa po u1 u2 l1 l2 l3 l4 us vs lu lw lf lo lc ln (1 : Int32) bs) := hD
    refine lv_aload_n X.1.1 X.1.2.1 d_Proof_renew_13 rfl (lv_at hl 0 rfl) ?_
    refine lv_iconst (v := (0 : Int32)) X.1.1 X.1.2.1 d_Proof_renew_14 (by decide) ?_
    refine fp_Proof_31 X hP hD hS 1 rfl rfl rfl rfl d_Proof_renew_15 (fun H locs hP hD hS => ?_)
    have hP : va_P D cls (pW cI cJ cS sa po u1 u2 l1 l2 l3 l4 us vs lu lw lf lo 0 ln (1 : Int32) bs) H := hP
    have hD : va_D A (pW cI cJ cS sa po u1 u2 l1 l2 l3 l4 us vs lu lw lf lo 0 ln (1 : Int32) bs) := hD
    refine lv_aload_n X.1.1 X.1.2.1 d_Proof_renew_18 rfl (lv_at hl 0 rfl) ?_
    refine lv_iload_n X.1.1 X.1.2.1 d_Proof_renew_19 rfl (lv_at hl 2 rfl) ?_
    refine fp_Proof_35 X hP hD hS 1 rfl rfl rfl rfl d_Proof_renew_20 (fun H locs hP hD hS => ?_)
    have hP : va_P D cls (pW cI cJ cS sa po u1 u2 l1 l2 l3 l4 us vs lu lw lf lo 0 sc (1 : Int32) bs) H := hP
    have hD : va_D A (pW cI cJ cS sa po u1 u2 l1 l2 l3 l4 us vs lu lw lf lo 0 sc (1 : Int32) bs) := hD
    refine lv_iconst (v := (0 : Int32)) X.1.1 X.1.2.1 d_Proof_renew_23 (by decide) ?_
    refine lv_istore_n X.1.1 X.1.2.1 d_Proof_renew_24 rfl hl (by decide) rfl (fun ls hl => ?_)
    have hl : lv_has ls 5 [(3, .int (0 : Int32)), (0, .ref po), (1, .ref sa), (2, .int (nI sc))] := hl
    have lp25 : ∀ (k25 : Nat) (i : Nat) (bsA : List bT) (ls : Array Slot) (H : Heap) (locs : List Loc), i + k25 = sc → bsOK us vs bsA → bsA.map bD = ds → (∀ (t : Nat) (b : bT) (f : Nat), t < i → f < 80 → bsA[t]? = some b → b.2.2.2.2.2.1 f = dKind (dAt ds t) (us f) (vs f)) → lv_has ls 5 [(3, .int (nI i)), (0, .ref po), (1, .ref sa), (2, .int (nI sc))] → va_P D cls (pW cI cJ cS sa po u1 u2 l1 l2 l3 l4 us vs lu lw lf (c_in lo i) 0 sc 1 bsA) H → va_D A (pW cI cJ cS sa po u1 u2 l1 l2 l3 l4 us vs lu lw lf (c_in lo i) 0 sc 1 bsA) → va_S A s.heap H locs → W p l e rm_Proof_renew s m ([.ref po, .ref sa, .int (nI sc)] : List Value).toArray below meth c H locs 0 0 Q (F0 m 25 ls ([])) := by
      intro k25
      induction k25 with
      | zero =>
        intro i bsA ls H locs hik hok hmap hdone hl hP hD hS
        refine lv_iload_n X.1.1 X.1.2.1 d_Proof_renew_25 rfl (lv_at hl 0 rfl) ?_
        refine lv_iload_n X.1.1 X.1.2.1 d_Proof_renew_26 rfl (lv_at hl 3 rfl) ?_
        refine wn_ge (a := i) (b := sc) (tgt := 57) X.1.1 X.1.2.1 d_Proof_renew_27 (by decide) (by omega) (by omega) (fun h27 => ?_) (fun h27 => by exfalso; omega)
        have hisc : i = sc := by omega
        have hP : va_P D cls (pW cI cJ cS sa po u1 u2 l1 l2 l3 l4 us vs lu lw lf (c_in lo sc) 0 sc 1 bsA) H := by rw [← hisc] at hP ⊢; exact hP
        have hD : va_D A (pW cI cJ cS sa po u1 u2 l1 l2 l3 l4 us vs lu lw lf (c_in lo sc) 0 sc 1 bsA) := by rw [← hisc] at hD ⊢; exact hD
        refine lv_iconst (v := (0 : Int32)) X.1.1 X.1.2.1 d_Proof_renew_57 (by decide) ?_
        refine lv_istore_n X.1.1 X.1.2.1 d_Proof_renew_58 rfl hl (by decide) rfl (fun ls hl => ?_)
        have hl : lv_has ls 5 [(3, .int (0 : Int32)), (0, .ref po), (1, .ref sa), (2, .int (nI sc))] := hl
        have lp59 : ∀ (k59 : Nat) (j : Nat) (lB : Nat → Int32) (LL : cL) (nB : Nat) (luB : Nat → Int32) (lwB : Nat → Int32) (lfB : Nat → Int64) (bsB : List bT) (ls : Array Slot) (H : Heap) (locs : List Loc), j + k59 = 6 → j = LL.length → nB = c_lf lB sc 0 0 → bsOK us vs bsB → bsB.map bD = ds → (∀ (t : Nat) (b : bT) (f : Nat), t < sc → f < 80 → bsB[t]? = some b → b.2.2.2.2.2.1 f = dKind (dAt ds t) (us f) (vs f)) → c_has LL luB lwB lfB → c_ab (dAt ds) us vs sc k59 lB LL = c_ab (dAt ds) us vs sc 6 (c_in lo sc) [] → lv_has ls 5 [(3, .int (nI j)), (0, .ref po), (1, .ref sa), (2, .int (nI sc))] → va_P D cls (pW cI cJ cS sa po u1 u2 l1 l2 l3 l4 us vs luB lwB lfB lB j nB 1 bsB) H → va_D A (pW cI cJ cS sa po u1 u2 l1 l2 l3 l4 us vs luB lwB lfB lB j nB 1 bsB) → va_S A s.heap H locs → W p l e rm_Proof_renew s m ([.ref po, .ref sa, .int (nI sc)] : List Value).toArray below meth c H locs 0 0 Q (F0 m 59 ls ([])) := by
          intro k59
          induction k59 with
          | zero =>
            intro j lB LL nB luB lwB lfB bsB ls H locs hjk hjL hnB hok hmap hKK hH hE hl hP hD hS
            refine lv_iload_n X.1.1 X.1.2.1 d_Proof_renew_59 rfl (lv_at hl 0 rfl) ?_
            refine lv_bipush (v := (6 : Int32)) X.1.1 X.1.2.1 d_Proof_renew_60 (by decide) ?_
            refine wn_ge (a := j) (b := 6) (tgt := 103) X.1.1 X.1.2.1 d_Proof_renew_62 (by decide) (by omega) (by omega) (fun h62 => ?_) (fun h62 => by exfalso; omega)
            exact hret 103 H locs ls _ hP hD hS d_Proof_renew_103 (⟨luB, lwB, lfB, lB, j, nB, bsB, rfl, hok, hmap, c_in lo sc, LL, fun t ht => if_pos ht, hE, hjL, hnB, hH⟩)
          | succ k59 ih59 =>
            intro j lB LL nB luB lwB lfB bsB ls H locs hjk hjL hnB hok hmap hKK hH hE hl hP hD hS
            refine lv_iload_n X.1.1 X.1.2.1 d_Proof_renew_59 rfl (lv_at hl 0 rfl) ?_
            refine lv_bipush (v := (6 : Int32)) X.1.1 X.1.2.1 d_Proof_renew_60 (by decide) ?_
            refine wn_ge (a := j) (b := 6) (tgt := 103) X.1.1 X.1.2.1 d_Proof_renew_62 (by decide) (by omega) (by omega) (fun h62 => by exfalso; omega) (fun h62 => ?_)
            refine lv_aload_n X.1.1 X.1.2.1 d_Proof_renew_65 rfl (lv_at hl 1 rfl) ?_
            refine fg_Proof_35 X hP 1 rfl rfl d_Proof_renew_66 ?_
            have hcle := c_lf_le lB sc 0 0
            refine wn_if_le (a := nB) (tgt := 103) X.1.1 X.1.2.1 d_Proof_renew_69 (by decide) (by omega) (fun h69 => ?_) (fun h69 => ?_)
            · exact hret 103 H locs ls _ hP hD hS d_Proof_renew_103 (⟨luB, lwB, lfB, lB, j, nB, bsB, rfl, hok, hmap, c_in lo sc, LL, fun t ht => if_pos ht, by rw [← hE]; simp only [c_ab]; rw [if_pos (by rw [← hnB]; exact h69)], hjL, hnB, hH⟩)
            · have h69c : ¬ c_lf lB sc 0 0 = 0 := by rw [← hnB]; exact h69
              refine lv_aload_n X.1.1 X.1.2.1 d_Proof_renew_72 rfl (lv_at hl 1 rfl) ?_
              refine lv_aload_n X.1.1 X.1.2.1 d_Proof_renew_73 rfl (lv_at hl 2 rfl) ?_
              refine lv_iload_n X.1.1 X.1.2.1 d_Proof_renew_74 rfl (lv_at hl 3 rfl) ?_
              refine wc_Vi [.ref sa, .int (nI sc)] 2 1 X nz_nest (c_Proof_bestFunction sa po u1 u2 l1 l2 l3 l4 us vs luB lwB lfB lB j nB 1 bsB sc hok (fun t f => dKind (dAt ds t) (us f) (vs f)) hKK hsc) (cw_Proof_57 X.1.2.2.2.2 X.2.2.1 (by decide)) ([]) ([]) ((List.append_nil _).symm) hP hD hS rfl rfl rfl rfl hl.1 (Nat.le_of_ble_eq_true rfl) (by decide) d_Proof_renew_75 (fun H locs wn hwn hP hD hS => ?_)
              subst hwn
              rw [List.nil_append, List.append_nil] at hP hD
              have hP : va_P D cls (pW cI cJ cS sa po u1 u2 l1 l2 l3 l4 us vs luB lwB lfB lB j nB 1 bsB) H := hP
              have hD : va_D A (pW cI cJ cS sa po u1 u2 l1 l2 l3 l4 us vs luB lwB lfB lB j nB 1 bsB) := hD
              refine lv_istore X.1.1 X.1.2.1 d_Proof_renew_78 hl (by decide) rfl (fun ls hl => ?_)
              have hl : lv_has ls 5 [(4, .int (c_best (dAt ds) us vs lB sc)), (3, .int (nI j)), (0, .ref po), (1, .ref sa), (2, .int (nI sc))] := hl
              refine lv_iload X.1.1 X.1.2.1 d_Proof_renew_80 (lv_at hl 0 rfl) ?_
              refine lv_iconst (v := (-1 : Int32)) X.1.1 X.1.2.1 d_Proof_renew_82 (by decide) ?_
              refine wi_ne (tgt := 89) X.1.1 X.1.2.1 d_Proof_renew_83 (by decide) (fun h83 => ?_) (fun h83 => ?_)
              · obtain ⟨f, hf80, hbe⟩ : ∃ f, f < 80 ∧ c_best (dAt ds) us vs lB sc = nI f := (c_bf_or _ 80 0 (-1, 0) (by omega) (Or.inl rfl)).resolve_left h83
                refine lv_aload_n X.1.1 X.1.2.1 d_Proof_renew_89 rfl (lv_at hl 2 rfl) ?_
                refine lv_iload X.1.1 X.1.2.1 d_Proof_renew_90 (lv_at hl 0 rfl) ?_
                refine wt_i hbe ?_
                subst hnB
                refine lv_aload_n X.1.1 X.1.2.1 d_Proof_renew_92 rfl (lv_at hl 3 rfl) ?_
                refine lv_iload_n X.1.1 X.1.2.1 d_Proof_renew_93 rfl (lv_at hl 4 rfl) ?_
                refine wc_Vv [.int (nI f), .ref sa, .int (nI sc)] 2 1 X nz_nest (c_Proof_addLevel sa po u1 u2 l1 l2 l3 l4 us vs luB lwB lfB lB j (c_lf lB sc 0 0) 1 bsB f sc hok (fun t => dKind (dAt ds t) (us f) (vs f)) (fun t b h1 h2 => hKK t b f h1 (by omega) h2) (dAt ds) (fun t b _ h2 => (dAt_of hmap h2).symm) (by omega) hsc (by omega) (by omega) (by omega)) (cw_Proof_61 X.1.2.2.2.2 X.2.2.1 (by decide)) ([]) ([]) ((List.append_nil _).symm) hP hD hS rfl rfl rfl rfl hl.1 (Nat.le_of_ble_eq_true rfl) (by decide) d_Proof_renew_94 (fun H locs wn hwn hP hD hS => ?_)
                obtain ⟨bsN, rfl, hokN, hmapN, hmKN⟩ := hwn
                rw [List.nil_append, List.append_nil] at hP hD
                have hP : va_P D cls (pW cI cJ cS sa po u1 u2 l1 l2 l3 l4 us vs (upd luB j (us f)) (upd lwB j (vs f)) (vp_updL lfB j (c_flo (c_step (dAt ds) us vs lB sc j f).2.2)) ((c_step (dAt ds) us vs lB sc j f).1) (j + 1) ((c_step (dAt ds) us vs lB sc j f).2.1) 1 bsN) H := hP
                have hD : va_D A (pW cI cJ cS sa po u1 u2 l1 l2 l3 l4 us vs (upd luB j (us f)) (upd lwB j (vs f)) (vp_updL lfB j (c_flo (c_step (dAt ds) us vs lB sc j f).2.2)) ((c_step (dAt ds) us vs lB sc j f).1) (j + 1) ((c_step (dAt ds) us vs lB sc j f).2.1) 1 bsN) := hD
                have hKN : (∀ (t : Nat) (b : bT) (f : Nat), t < sc → f < 80 → bsN[t]? = some b → b.2.2.2.2.2.1 f = dKind (dAt ds t) (us f) (vs f)) := fun t b f h1 h2 h3 => by obtain ⟨b9, hb9, e9⟩ := map_at hmKN h3; rw [show b.2.2.2.2.2.1 = b9.2.2.2.2.2.1 from congrArg (fun z => z.2.2.2.2.1) e9]; exact hKK t b9 f h1 h2 hb9
                refine lv_iinc (k := 1) (v := nI (j + 1)) X.1.1 X.1.2.1 d_Proof_renew_97 hl rfl (nI_1 j) (by decide) rfl (fun ls hl => ?_)
                have hl : lv_has ls 5 [(3, .int (nI (j + 1))), (4, .int (c_best (dAt ds) us vs lB sc)), (0, .ref po), (1, .ref sa), (2, .int (nI sc))] := hl
                refine lv_goto (tgt := 59) X.1.1 X.1.2.1 d_Proof_renew_100 (by decide) ?_
                exact ih59 (j + 1) _ _ _ _ _ _ bsN ls H locs (by omega) (by rw [List.length_append, List.length_singleton, hjL]) (c_al_lf _ _ _ _ _ _ (by omega) _ _ _ (by omega) rfl) (hokN) (hmapN.trans hmap) (hKN) (c_has_app hH hjL _ _ _) (by rw [← hE]; simp only [c_ab]; rw [if_neg h69c, if_neg h83, hbe, nI_clamp (by omega), ← hjL]; rfl) (lv_sub hl [0, 2, 3, 4] rfl) hP hD hS
              · refine lv_goto (tgt := 103) X.1.1 X.1.2.1 d_Proof_renew_86 (by decide) ?_
                exact hret 103 H locs ls _ hP hD hS d_Proof_renew_103 (⟨luB, lwB, lfB, lB, j, nB, bsB, rfl, hok, hmap, c_in lo sc, LL, fun t ht => if_pos ht, by rw [← hE]; simp only [c_ab]; rw [if_neg h69c, if_pos h83], hjL, hnB, hH⟩)
        exact lp59 6 0 (c_in lo sc) ([]) sc lu lw lf bsA ls H locs (by omega) (rfl) (c_in_lf lo sc) (hok) (hmap) (by rw [show i = sc by omega] at hdone; exact hdone) (fun j hj => absurd hj (Nat.not_lt_zero _)) (rfl) (lv_sub hl [0, 1, 2, 3] rfl) hP hD hS
      | succ k25 ih25 =>
        intro i bsA ls H locs hik hok hmap hdone hl hP hD hS
        refine lv_iload_n X.1.1 X.1.2.1 d_Proof_renew_25 rfl (lv_at hl 0 rfl) ?_
        refine lv_iload_n X.1.1 X.1.2.1 d_Proof_renew_26 rfl (lv_at hl 3 rfl) ?_
        refine wn_ge (a := i) (b := sc) (tgt := 57) X.1.1 X.1.2.1 d_Proof_renew_27 (by decide) (by omega) (by omega) (fun h27 => by exfalso; omega) (fun h27 => ?_)
        refine lv_aload_n X.1.1 X.1.2.1 d_Proof_renew_30 rfl (lv_at hl 1 rfl) ?_
        refine fg_Proof_28 X hP 1 rfl rfl d_Proof_renew_31 ?_
        refine lv_iload_n X.1.1 X.1.2.1 d_Proof_renew_34 rfl (lv_at hl 0 rfl) ?_
        refine lv_iconst (v := (-1 : Int32)) X.1.1 X.1.2.1 d_Proof_renew_35 (by decide) ?_
        refine wa_ist X.1.1 X.1.2.1 X.2.1 hP hD hS 7 0 rfl rfl i rfl (by omega) (by decide) d_Proof_renew_36 (fun H locs hP hD hS => ?_)
        have hP : va_P D cls (pW cI cJ cS sa po u1 u2 l1 l2 l3 l4 us vs lu lw lf (upd (c_in lo i) i (-1 : Int32)) 0 sc 1 bsA) H := hP
        have hD : va_D A (pW cI cJ cS sa po u1 u2 l1 l2 l3 l4 us vs lu lw lf (upd (c_in lo i) i (-1 : Int32)) 0 sc 1 bsA) := hD
        rw [c_in_s] at hP hD
        have hP : va_P D cls (pW cI cJ cS sa po u1 u2 l1 l2 l3 l4 us vs lu lw lf (c_in lo (i + 1)) 0 sc 1 bsA) H := hP
        have hD : va_D A (pW cI cJ cS sa po u1 u2 l1 l2 l3 l4 us vs lu lw lf (c_in lo (i + 1)) 0 sc 1 bsA) := hD
        refine lv_aload_n X.1.1 X.1.2.1 d_Proof_renew_37 rfl (lv_at hl 2 rfl) ?_
        refine lv_iload_n X.1.1 X.1.2.1 d_Proof_renew_38 rfl (lv_at hl 0 rfl) ?_
        obtain ⟨b1, hb1⟩ := bs_get (bs := bsA) (k := i) hok.1 (by omega)
        refine wa_ald X.1.1 X.1.2.1 X.2.1 hP 0 2 rfl rfl i rfl (by omega) (by decide) (bF_at hb1) d_Proof_renew_39 ?_
        refine lv_aload_n X.1.1 X.1.2.1 d_Proof_renew_40 rfl (lv_at hl 1 rfl) ?_
        refine fg_Proof_9 X hP 1 rfl rfl d_Proof_renew_41 ?_
        refine lv_aload_n X.1.1 X.1.2.1 d_Proof_renew_44 rfl (lv_at hl 1 rfl) ?_
        refine fg_Proof_15 X hP 1 rfl rfl d_Proof_renew_45 ?_
        refine wb_F [.ref u1, .ref u2] 1 0 X nz_nest [(sa, .inl (cS, 6, .inr (.inr (.inr (.inr (bF bsA)))))), (po, .inr (2, [.ref u1, .ref u2, .ref l1, .ref l2, .ref l3, .ref l4, .int (nI 0), .int (nI sc), .int 1]))] [(u1, .inl (cI, 80, .inl us)), (u2, .inl (cI, 80, .inl vs))] [(l1, .inl (cI, 6, .inl lu)), (l2, .inl (cI, 6, .inl lw)), (l3, .inl (cJ, 6, .inr (.inl lf))), (l4, .inl (cI, 6, .inl (c_in lo (i + 1))))] (c_Step_findKinds (b1.1 0) (b1.1 1) (b1.1 2) (b1.1 3) (b1.1 4) (b1.1 5) (b1.1 6) b1.2.1.1 b1.2.1.2.1 b1.2.1.2.2 b1.2.2.1.1 b1.2.2.1.2 b1.2.2.2.1.1 b1.2.2.2.1.2 b1.2.2.2.2.1 b1.2.2.2.2.2.1 b1.2.2.2.2.2.2 u1 u2 us vs (hok.2 _ _ hb1).1 (hok.2 _ _ hb1).2.2.1 (hok.2 _ _ hb1).2.2.2) (cw_Proof_51 X.1.2.2.2.2 X.2.2.1 (by decide)) hb1 hP hD hS rfl rfl rfl rfl hl.1 (Nat.le_of_ble_eq_true rfl) (by decide) d_Proof_renew_48 (fun H locs wn hwn hall hS => ?_)
        obtain ⟨kd1, t1, c1, rfl, hkd1⟩ := hwn
        obtain ⟨hP, hD⟩ := hall (bK b1 kd1 t1 c1) rfl
        rw [← bF_set (b' := bK b1 kd1 t1 c1) hb1 rfl] at hP hD
        have hok := bsOK_set (b := bK b1 kd1 t1 c1) hok i (bOK_K (hok.2 _ _ hb1) kd1 t1 c1 hkd1)
        have hmap := (bD_set (b' := bK b1 kd1 t1 c1) hb1 rfl).trans hmap
        have hb2x : (bsA.set i (bK b1 kd1 t1 c1))[i]? = some (bK b1 kd1 t1 c1) := bs_set_at hb1
        generalize hgen : bsA.set i (bK b1 kd1 t1 c1) = bs2 at hP hD hok hmap hb2x
        have hP : va_P D cls (pW cI cJ cS sa po u1 u2 l1 l2 l3 l4 us vs lu lw lf (c_in lo (i + 1)) 0 sc 1 bs2) H := hP
        have hD : va_D A (pW cI cJ cS sa po u1 u2 l1 l2 l3 l4 us vs lu lw lf (c_in lo (i + 1)) 0 sc 1 bs2) := hD
        refine lv_iinc (k := 0) (v := nI (i + 1)) X.1.1 X.1.2.1 d_Proof_renew_51 hl rfl (nI_1 i) (by decide) rfl (fun ls hl => ?_)
        have hl : lv_has ls 5 [(3, .int (nI (i + 1))), (0, .ref po), (1, .ref sa), (2, .int (nI sc))] := hl
        refine lv_goto (tgt := 25) X.1.1 X.1.2.1 d_Proof_renew_54 (by decide) ?_
        exact ih25 (i + 1) bs2 ls H locs (by omega) (hok) (hmap) (fun t b f h1 h2 h3 => if e : t = i then (by subst e; have e2 := Option.some.inj (hb2x.symm.trans h3); subst e2; rw [dAt_of hmap hb2x]; exact hkd1 f h2) else hdone t b f (by omega) h2 (by rw [← h3, ← hgen, List.getElem?_set, if_neg (fun z => e z.symm)])) (lv_sub hl [0, 1, 2, 3] rfl) hP hD hS
    exact lp25 sc 0 bs ls H locs (by omega) (hok) (hds) (fun t b f h => absurd h (by omega)) (lv_sub hl [0, 1, 2, 3] rfl) hP hD hS
  · exact hret 7 H locs ls _ hP hD hS d_Proof_renew_7 (⟨lu, lw, lf, lo, lc, ln, bs, by rw [(hfs h4).1], hok, hds, (hfs h4).2⟩)
end CT
