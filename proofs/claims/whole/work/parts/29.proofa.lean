section CT
variable {l : Launch} {D : va_G} {cI cJ cS : ClassId}
set_option maxHeartbeats 4000000 in
set_option maxRecDepth 100000 in
theorem c_Proof_countRemoved (sa po u1 u2 l1 l2 l3 l4 : Nat) (us vs lu lw : Nat → Int32) (lf : Nat → Int64) (lo : Nat → Int32) (lc ln : Nat) (fs : Int32) (bs : List bT) (f sc : Nat) (hok : bsOK us vs bs) (K : Nat → Int32) (hK : ∀ (t : Nat) (b : bT), t < sc → bs[t]? = some b → b.2.2.2.2.2.1 f = K t) (hf : f < 80) (hsc : sc ≤ 6) : wk_ki l y_Proof_countRemoved (Cond.code y_Proof_countRemoved b_Proof_countRemoved 6 (some .int) :: BW) rm_Proof_countRemoved D cls (kT cI cJ cS) nz [.ref po, .int (nI f), .ref sa, .int (nI sc)] (pW cI cJ cS sa po u1 u2 l1 l2 l3 l4 us vs lu lw lf lo lc ln fs bs) (fun wz => wz = pW cI cJ cS sa po u1 u2 l1 l2 l3 l4 us vs lu lw lf lo lc ln fs bs) (nI (c_cr lo K sc 0 0)) := by
  refine ws_i (plainFor_of_name (by decide)) (Nat.le_of_ble_eq_true rfl) ?_
  intro p e s m below meth c A ls Q X hret hl hP hD hS
  obtain ⟨H, hH⟩ : ∃ H, H = s.heap := ⟨_, rfl⟩
  obtain ⟨locs, hlo⟩ : ∃ locs : List Loc, locs = [] := ⟨_, rfl⟩
  have hP : va_P D cls (pW cI cJ cS sa po u1 u2 l1 l2 l3 l4 us vs lu lw lf lo lc ln fs bs) H := by rw [hH]; exact hP
  have hS : va_S A s.heap H locs := by rw [hH, hlo]; exact hS
  suffices hgo : W p l e rm_Proof_countRemoved s m ([.ref po, .int (nI f), .ref sa, .int (nI sc)] : List Value).toArray below meth c H locs 0 0 Q (F0 m 0 ls ([])) by rw [hH, hlo] at hgo; exact hgo
  clear hH hlo
  have hl : lv_has ls 6 [(0, .ref po), (1, .int (nI f)), (2, .ref sa), (3, .int (nI sc))] := hl
  refine lv_iconst (v := (0 : Int32)) X.1.1 X.1.2.1 d_Proof_countRemoved_0 (by decide) ?_
  refine lv_istore X.1.1 X.1.2.1 d_Proof_countRemoved_1 hl (by decide) rfl (fun ls hl => ?_)
  have hl : lv_has ls 6 [(4, .int (0 : Int32)), (0, .ref po), (1, .int (nI f)), (2, .ref sa), (3, .int (nI sc))] := hl
  refine lv_iconst (v := (0 : Int32)) X.1.1 X.1.2.1 d_Proof_countRemoved_3 (by decide) ?_
  refine lv_istore X.1.1 X.1.2.1 d_Proof_countRemoved_4 hl (by decide) rfl (fun ls hl => ?_)
  have hl : lv_has ls 6 [(5, .int (0 : Int32)), (4, .int (0 : Int32)), (0, .ref po), (1, .int (nI f)), (2, .ref sa), (3, .int (nI sc))] := hl
  have lp6 : ∀ (k6 : Nat) (i : Nat) (n : Nat) (ls : Array Slot) (H : Heap) (locs : List Loc), i + k6 = sc → c_cr lo K k6 i n = c_cr lo K sc 0 0 → lv_has ls 6 [(5, .int (nI i)), (4, .int (nI n)), (0, .ref po), (1, .int (nI f)), (2, .ref sa), (3, .int (nI sc))] → va_P D cls (pW cI cJ cS sa po u1 u2 l1 l2 l3 l4 us vs lu lw lf lo lc ln fs bs) H → va_D A (pW cI cJ cS sa po u1 u2 l1 l2 l3 l4 us vs lu lw lf lo lc ln fs bs) → va_S A s.heap H locs → W p l e rm_Proof_countRemoved s m ([.ref po, .int (nI f), .ref sa, .int (nI sc)] : List Value).toArray below meth c H locs 0 0 Q (F0 m 6 ls ([])) := by
    intro k6
    induction k6 with
    | zero =>
      intro i n ls H locs hik hE hl hP hD hS
      refine lv_iload X.1.1 X.1.2.1 d_Proof_countRemoved_6 (lv_at hl 0 rfl) ?_
      refine lv_iload_n X.1.1 X.1.2.1 d_Proof_countRemoved_8 rfl (lv_at hl 5 rfl) ?_
      refine wn_ge (a := i) (b := sc) (tgt := 62) X.1.1 X.1.2.1 d_Proof_countRemoved_9 (by decide) (by omega) (by omega) (fun h9 => ?_) (fun h9 => by exfalso; omega)
      refine lv_iload X.1.1 X.1.2.1 d_Proof_countRemoved_62 (lv_at hl 1 rfl) ?_
      exact hret 64 H locs ls _ _ hP hD hS d_Proof_countRemoved_64 (by rw [← hE]; rfl) (rfl)
    | succ k6 ih6 =>
      intro i n ls H locs hik hE hl hP hD hS
      refine lv_iload X.1.1 X.1.2.1 d_Proof_countRemoved_6 (lv_at hl 0 rfl) ?_
      refine lv_iload_n X.1.1 X.1.2.1 d_Proof_countRemoved_8 rfl (lv_at hl 5 rfl) ?_
      refine wn_ge (a := i) (b := sc) (tgt := 62) X.1.1 X.1.2.1 d_Proof_countRemoved_9 (by decide) (by omega) (by omega) (fun h9 => by exfalso; omega) (fun h9 => ?_)
      refine lv_aload_n X.1.1 X.1.2.1 d_Proof_countRemoved_12 rfl (lv_at hl 2 rfl) ?_
      refine fg_Proof_28 X hP 1 rfl rfl d_Proof_countRemoved_13 ?_
      refine lv_iload X.1.1 X.1.2.1 d_Proof_countRemoved_16 (lv_at hl 0 rfl) ?_
      refine wa_ild X.1.1 X.1.2.1 X.2.1 hP 7 0 rfl rfl i rfl (by omega) (by decide) d_Proof_countRemoved_18 ?_
      refine lv_iconst (v := (-1 : Int32)) X.1.1 X.1.2.1 d_Proof_countRemoved_19 (by decide) ?_
      refine wi_eq (tgt := 26) X.1.1 X.1.2.1 d_Proof_countRemoved_20 (by decide) (fun h20 => ?_) (fun h20 => ?_)
      · refine lv_aload_n X.1.1 X.1.2.1 d_Proof_countRemoved_26 rfl (lv_at hl 4 rfl) ?_
        refine lv_iload X.1.1 X.1.2.1 d_Proof_countRemoved_27 (lv_at hl 0 rfl) ?_
        obtain ⟨b1, hb1⟩ := bs_get (bs := bs) (k := i) hok.1 (by omega)
        refine wa_ald X.1.1 X.1.2.1 X.2.1 hP 0 2 rfl rfl i rfl (by omega) (by decide) (bF_at hb1) d_Proof_countRemoved_29 ?_
        refine fg_Proof_69 X (wb_cut hP hb1) 0 rfl rfl d_Proof_countRemoved_30 ?_
        refine lv_iload_n X.1.1 X.1.2.1 d_Proof_countRemoved_33 rfl (lv_at hl 3 rfl) ?_
        refine wa_ild X.1.1 X.1.2.1 X.2.1 (wb_cut hP hb1) 6 0 rfl rfl f rfl (by omega) (by decide) d_Proof_countRemoved_34 ?_
        refine wt_i (hK i b1 (by omega) hb1) ?_
        refine wi0_ne (tgt := 40) X.1.1 X.1.2.1 d_Proof_countRemoved_35 (by decide) (fun h35 => ?_) (fun h35 => ?_)
        · refine lv_aload_n X.1.1 X.1.2.1 d_Proof_countRemoved_40 rfl (lv_at hl 4 rfl) ?_
          refine lv_iload X.1.1 X.1.2.1 d_Proof_countRemoved_41 (lv_at hl 0 rfl) ?_
          refine wa_ald X.1.1 X.1.2.1 X.2.1 hP 0 2 rfl rfl i rfl (by omega) (by decide) (bF_at hb1) d_Proof_countRemoved_43 ?_
          refine fg_Proof_69 X (wb_cut hP hb1) 0 rfl rfl d_Proof_countRemoved_44 ?_
          refine lv_iload_n X.1.1 X.1.2.1 d_Proof_countRemoved_47 rfl (lv_at hl 3 rfl) ?_
          refine wa_ild X.1.1 X.1.2.1 X.2.1 (wb_cut hP hb1) 6 0 rfl rfl f rfl (by omega) (by decide) d_Proof_countRemoved_48 ?_
          refine wt_i (hK i b1 (by omega) hb1) ?_
          refine lv_iconst (v := (2 : Int32)) X.1.1 X.1.2.1 d_Proof_countRemoved_49 (by decide) ?_
          refine wi_ne (tgt := 56) X.1.1 X.1.2.1 d_Proof_countRemoved_50 (by decide) (fun h50 => ?_) (fun h50 => ?_)
          · refine lv_iinc (k := 0) (v := nI (i + 1)) X.1.1 X.1.2.1 d_Proof_countRemoved_56 hl rfl (nI_1 i) (by decide) rfl (fun ls hl => ?_)
            have hl : lv_has ls 6 [(5, .int (nI (i + 1))), (4, .int (nI n)), (0, .ref po), (1, .int (nI f)), (2, .ref sa), (3, .int (nI sc))] := hl
            refine lv_goto (tgt := 6) X.1.1 X.1.2.1 d_Proof_countRemoved_59 (by decide) ?_
            exact ih6 (i + 1) n ls H locs (by omega) (by rw [← hE]; show _ = c_cr lo K (k6 + 1) i n; simp only [c_cr]; rw [if_pos h20, if_neg h35, if_neg h50]) (lv_sub hl [0, 1, 2, 3, 4, 5] rfl) hP hD hS
          · refine lv_iinc (k := 1) (v := nI (n + 1)) X.1.1 X.1.2.1 d_Proof_countRemoved_53 hl rfl (nI_1 n) (by decide) rfl (fun ls hl => ?_)
            have hl : lv_has ls 6 [(4, .int (nI (n + 1))), (5, .int (nI i)), (0, .ref po), (1, .int (nI f)), (2, .ref sa), (3, .int (nI sc))] := hl
            refine lv_iinc (k := 1) (v := nI (i + 1)) X.1.1 X.1.2.1 d_Proof_countRemoved_56 hl rfl (nI_1 i) (by decide) rfl (fun ls hl => ?_)
            have hl : lv_has ls 6 [(5, .int (nI (i + 1))), (4, .int (nI (n + 1))), (0, .ref po), (1, .int (nI f)), (2, .ref sa), (3, .int (nI sc))] := hl
            refine lv_goto (tgt := 6) X.1.1 X.1.2.1 d_Proof_countRemoved_59 (by decide) ?_
            exact ih6 (i + 1) (n + 1) ls H locs (by omega) (by rw [← hE]; show _ = c_cr lo K (k6 + 1) i n; simp only [c_cr]; rw [if_pos h20, if_neg h35, if_pos h50]) (lv_sub hl [0, 1, 2, 3, 4, 5] rfl) hP hD hS
        · refine lv_iconst (v := (0 : Int32)) X.1.1 X.1.2.1 d_Proof_countRemoved_38 (by decide) ?_
          exact hret 39 H locs ls _ _ hP hD hS d_Proof_countRemoved_39 (by rw [← hE]; show _ = nI (c_cr lo K (k6 + 1) i n); simp only [c_cr]; rw [if_pos h20, if_pos h35]; rfl) (rfl)
      · refine lv_goto (tgt := 56) X.1.1 X.1.2.1 d_Proof_countRemoved_23 (by decide) ?_
        refine lv_iinc (k := 0) (v := nI (i + 1)) X.1.1 X.1.2.1 d_Proof_countRemoved_56 hl rfl (nI_1 i) (by decide) rfl (fun ls hl => ?_)
        have hl : lv_has ls 6 [(5, .int (nI (i + 1))), (4, .int (nI n)), (0, .ref po), (1, .int (nI f)), (2, .ref sa), (3, .int (nI sc))] := hl
        refine lv_goto (tgt := 6) X.1.1 X.1.2.1 d_Proof_countRemoved_59 (by decide) ?_
        exact ih6 (i + 1) n ls H locs (by omega) (by rw [← hE]; show _ = c_cr lo K (k6 + 1) i n; simp only [c_cr]; rw [if_neg h20]) (lv_sub hl [0, 1, 2, 3, 4, 5] rfl) hP hD hS
  exact lp6 sc 0 0 ls H locs (by omega) (rfl) (lv_sub hl [0, 1, 2, 3, 4, 5] rfl) hP hD hS
set_option maxHeartbeats 4000000 in
set_option maxRecDepth 100000 in
theorem c_Proof_bestFunction (sa po u1 u2 l1 l2 l3 l4 : Nat) (us vs lu lw : Nat → Int32) (lf : Nat → Int64) (lo : Nat → Int32) (lc ln : Nat) (fs : Int32) (bs : List bT) (sc : Nat) (hok : bsOK us vs bs) (K : Nat → Nat → Int32) (hK : ∀ (t : Nat) (b : bT) (f : Nat), t < sc → f < 80 → bs[t]? = some b → b.2.2.2.2.2.1 f = K t f) (hsc : sc ≤ 6) : wk_ki l y_Proof_bestFunction (Cond.code y_Proof_bestFunction b_Proof_bestFunction 7 (some .int) :: BW) rm_Proof_bestFunction D cls (kT cI cJ cS) nz [.ref po, .ref sa, .int (nI sc)] (pW cI cJ cS sa po u1 u2 l1 l2 l3 l4 us vs lu lw lf lo lc ln fs bs) (fun wz => wz = pW cI cJ cS sa po u1 u2 l1 l2 l3 l4 us vs lu lw lf lo lc ln fs bs) ((c_bf (fun f => c_cr lo (fun t => K t f) sc 0 0) 80 0 (-1, 0)).1) := by
  refine ws_i (plainFor_of_name (by decide)) (Nat.le_of_ble_eq_true rfl) ?_
  intro p e s m below meth c A ls Q X hret hl hP hD hS
  obtain ⟨H, hH⟩ : ∃ H, H = s.heap := ⟨_, rfl⟩
  obtain ⟨locs, hlo⟩ : ∃ locs : List Loc, locs = [] := ⟨_, rfl⟩
  have hP : va_P D cls (pW cI cJ cS sa po u1 u2 l1 l2 l3 l4 us vs lu lw lf lo lc ln fs bs) H := by rw [hH]; exact hP
  have hS : va_S A s.heap H locs := by rw [hH, hlo]; exact hS
  suffices hgo : W p l e rm_Proof_bestFunction s m ([.ref po, .ref sa, .int (nI sc)] : List Value).toArray below meth c H locs 0 0 Q (F0 m 0 ls ([])) by rw [hH, hlo] at hgo; exact hgo
  clear hH hlo
  have hl : lv_has ls 7 [(0, .ref po), (1, .ref sa), (2, .int (nI sc))] := hl
  refine lv_iconst (v := (-1 : Int32)) X.1.1 X.1.2.1 d_Proof_bestFunction_0 (by decide) ?_
  refine lv_istore_n X.1.1 X.1.2.1 d_Proof_bestFunction_1 rfl hl (by decide) rfl (fun ls hl => ?_)
  have hl : lv_has ls 7 [(3, .int (-1 : Int32)), (0, .ref po), (1, .ref sa), (2, .int (nI sc))] := hl
  refine lv_iconst (v := (0 : Int32)) X.1.1 X.1.2.1 d_Proof_bestFunction_2 (by decide) ?_
  refine lv_istore X.1.1 X.1.2.1 d_Proof_bestFunction_3 hl (by decide) rfl (fun ls hl => ?_)
  have hl : lv_has ls 7 [(4, .int (0 : Int32)), (3, .int (-1 : Int32)), (0, .ref po), (1, .ref sa), (2, .int (nI sc))] := hl
  refine lv_iconst (v := (0 : Int32)) X.1.1 X.1.2.1 d_Proof_bestFunction_5 (by decide) ?_
  refine lv_istore X.1.1 X.1.2.1 d_Proof_bestFunction_6 hl (by decide) rfl (fun ls hl => ?_)
  have hl : lv_has ls 7 [(5, .int (0 : Int32)), (4, .int (0 : Int32)), (3, .int (-1 : Int32)), (0, .ref po), (1, .ref sa), (2, .int (nI sc))] := hl
  have lp8 : ∀ (k8 : Nat) (i : Nat) (be : Int32) (mo : Nat) (ls : Array Slot) (H : Heap) (locs : List Loc), i + k8 = 80 → mo ≤ 6 → c_bf (fun f => c_cr lo (fun t => K t f) sc 0 0) k8 i (be, mo) = c_bf (fun f => c_cr lo (fun t => K t f) sc 0 0) 80 0 (-1, 0) → lv_has ls 7 [(5, .int (nI i)), (4, .int (nI mo)), (3, .int be), (0, .ref po), (1, .ref sa), (2, .int (nI sc))] → va_P D cls (pW cI cJ cS sa po u1 u2 l1 l2 l3 l4 us vs lu lw lf lo lc ln fs bs) H → va_D A (pW cI cJ cS sa po u1 u2 l1 l2 l3 l4 us vs lu lw lf lo lc ln fs bs) → va_S A s.heap H locs → W p l e rm_Proof_bestFunction s m ([.ref po, .ref sa, .int (nI sc)] : List Value).toArray below meth c H locs 0 0 Q (F0 m 8 ls ([])) := by
    intro k8
    induction k8 with
    | zero =>
      intro i be mo ls H locs hik hmo hE hl hP hD hS
      refine lv_iload X.1.1 X.1.2.1 d_Proof_bestFunction_8 (lv_at hl 0 rfl) ?_
      refine lv_bipush (v := (80 : Int32)) X.1.1 X.1.2.1 d_Proof_bestFunction_10 (by decide) ?_
      refine wn_ge (a := i) (b := 80) (tgt := 45) X.1.1 X.1.2.1 d_Proof_bestFunction_12 (by decide) (by omega) (by omega) (fun h12 => ?_) (fun h12 => by exfalso; omega)
      refine lv_iload_n X.1.1 X.1.2.1 d_Proof_bestFunction_45 rfl (lv_at hl 2 rfl) ?_
      exact hret 46 H locs ls _ _ hP hD hS d_Proof_bestFunction_46 (by rw [← hE]; rfl) (rfl)
    | succ k8 ih8 =>
      intro i be mo ls H locs hik hmo hE hl hP hD hS
      refine lv_iload X.1.1 X.1.2.1 d_Proof_bestFunction_8 (lv_at hl 0 rfl) ?_
      refine lv_bipush (v := (80 : Int32)) X.1.1 X.1.2.1 d_Proof_bestFunction_10 (by decide) ?_
      refine wn_ge (a := i) (b := 80) (tgt := 45) X.1.1 X.1.2.1 d_Proof_bestFunction_12 (by decide) (by omega) (by omega) (fun h12 => by exfalso; omega) (fun h12 => ?_)
      refine lv_aload_n X.1.1 X.1.2.1 d_Proof_bestFunction_15 rfl (lv_at hl 3 rfl) ?_
      refine lv_iload X.1.1 X.1.2.1 d_Proof_bestFunction_16 (lv_at hl 0 rfl) ?_
      refine lv_aload_n X.1.1 X.1.2.1 d_Proof_bestFunction_18 rfl (lv_at hl 4 rfl) ?_
      refine lv_iload_n X.1.1 X.1.2.1 d_Proof_bestFunction_19 rfl (lv_at hl 5 rfl) ?_
      refine wc_Vi [.int (nI i), .ref sa, .int (nI sc)] 2 1 X nz_nest (c_Proof_countRemoved sa po u1 u2 l1 l2 l3 l4 us vs lu lw lf lo lc ln fs bs i sc hok (fun t => K t i) (fun t b h1 h2 => hK t b i h1 (by omega) h2) (by omega) hsc) (cw_Proof_65 X.1.2.2.2.2 X.2.2.1 (by decide)) ([]) ([]) ((List.append_nil _).symm) hP hD hS rfl rfl rfl rfl hl.1 (Nat.le_of_ble_eq_true rfl) (by decide) d_Proof_bestFunction_20 (fun H locs wn hwn hP hD hS => ?_)
      subst hwn
      rw [List.nil_append, List.append_nil] at hP hD
      have hP : va_P D cls (pW cI cJ cS sa po u1 u2 l1 l2 l3 l4 us vs lu lw lf lo lc ln fs bs) H := hP
      have hD : va_D A (pW cI cJ cS sa po u1 u2 l1 l2 l3 l4 us vs lu lw lf lo lc ln fs bs) := hD
      have hcl := c_cr_le lo (fun t => K t i) sc 0 0
      refine lv_istore X.1.1 X.1.2.1 d_Proof_bestFunction_23 hl (by decide) rfl (fun ls hl => ?_)
      have hl : lv_has ls 7 [(6, .int (nI (c_cr lo (fun t => K t i) sc 0 0))), (5, .int (nI i)), (4, .int (nI mo)), (3, .int be), (0, .ref po), (1, .ref sa), (2, .int (nI sc))] := hl
      refine lv_iload X.1.1 X.1.2.1 d_Proof_bestFunction_25 (lv_at hl 0 rfl) ?_
      refine lv_iload X.1.1 X.1.2.1 d_Proof_bestFunction_27 (lv_at hl 2 rfl) ?_
      refine wn_le (a := c_cr lo (fun t => K t i) sc 0 0) (b := mo) (tgt := 39) X.1.1 X.1.2.1 d_Proof_bestFunction_29 (by decide) (by omega) (by omega) (fun h29 => ?_) (fun h29 => ?_)
      · refine lv_iinc (k := 1) (v := nI (i + 1)) X.1.1 X.1.2.1 d_Proof_bestFunction_39 hl rfl (nI_1 i) (by decide) rfl (fun ls hl => ?_)
        have hl : lv_has ls 7 [(5, .int (nI (i + 1))), (6, .int (nI (c_cr lo (fun t => K t i) sc 0 0))), (4, .int (nI mo)), (3, .int be), (0, .ref po), (1, .ref sa), (2, .int (nI sc))] := hl
        refine lv_goto (tgt := 8) X.1.1 X.1.2.1 d_Proof_bestFunction_42 (by decide) ?_
        exact ih8 (i + 1) be mo ls H locs (by omega) (by omega) (by rw [← hE]; show _ = c_bf (fun f => c_cr lo (fun t => K t f) sc 0 0) (k8 + 1) i (be, mo); simp only [c_bf]; rw [if_neg h29]) (lv_sub hl [0, 2, 3, 4, 5, 6] rfl) hP hD hS
      · refine lv_iload X.1.1 X.1.2.1 d_Proof_bestFunction_32 (lv_at hl 0 rfl) ?_
        refine lv_istore X.1.1 X.1.2.1 d_Proof_bestFunction_34 hl (by decide) rfl (fun ls hl => ?_)
        have hl : lv_has ls 7 [(4, .int (nI (c_cr lo (fun t => K t i) sc 0 0))), (6, .int (nI (c_cr lo (fun t => K t i) sc 0 0))), (5, .int (nI i)), (3, .int be), (0, .ref po), (1, .ref sa), (2, .int (nI sc))] := hl
        refine lv_iload X.1.1 X.1.2.1 d_Proof_bestFunction_36 (lv_at hl 2 rfl) ?_
        refine lv_istore_n X.1.1 X.1.2.1 d_Proof_bestFunction_38 rfl hl (by decide) rfl (fun ls hl => ?_)
        have hl : lv_has ls 7 [(3, .int (nI i)), (4, .int (nI (c_cr lo (fun t => K t i) sc 0 0))), (6, .int (nI (c_cr lo (fun t => K t i) sc 0 0))), (5, .int (nI i)), (0, .ref po), (1, .ref sa), (2, .int (nI sc))] := hl
        refine lv_iinc (k := 3) (v := nI (i + 1)) X.1.1 X.1.2.1 d_Proof_bestFunction_39 hl rfl (nI_1 i) (by decide) rfl (fun ls hl => ?_)
        have hl : lv_has ls 7 [(5, .int (nI (i + 1))), (3, .int (nI i)), (4, .int (nI (c_cr lo (fun t => K t i) sc 0 0))), (6, .int (nI (c_cr lo (fun t => K t i) sc 0 0))), (0, .ref po), (1, .ref sa), (2, .int (nI sc))] := hl
        refine lv_goto (tgt := 8) X.1.1 X.1.2.1 d_Proof_bestFunction_42 (by decide) ?_
        exact ih8 (i + 1) (nI i) (c_cr lo (fun t => K t i) sc 0 0) ls H locs (by omega) (by omega) (by rw [← hE]; show _ = c_bf (fun f => c_cr lo (fun t => K t f) sc 0 0) (k8 + 1) i (be, mo); simp only [c_bf]; rw [if_pos h29]) (lv_sub hl [0, 2, 1, 4, 5, 6] rfl) hP hD hS
  exact lp8 80 0 (-1) 0 ls H locs (by omega) (by omega) (rfl) (lv_sub hl [0, 1, 2, 3, 4, 5] rfl) hP hD hS
set_option maxHeartbeats 4000000 in
set_option maxRecDepth 100000 in
theorem c_Proof_hasLevel (sa po u1 u2 l1 l2 l3 l4 : Nat) (us vs lu lw : Nat → Int32) (lf : Nat → Int64) (lo : Nat → Int32) (lc ln : Nat) (fs : Int32) (bs : List bT) (v : Int32) : wk_ki l y_Proof_hasLevel (Cond.code y_Proof_hasLevel b_Proof_hasLevel 2 (some .boolean) :: BW) rm_Proof_hasLevel D cls (kT cI cJ cS) nz [.ref po, .int v] (pW cI cJ cS sa po u1 u2 l1 l2 l3 l4 us vs lu lw lf lo lc ln fs bs) (fun wz => wz = pW cI cJ cS sa po u1 u2 l1 l2 l3 l4 us vs lu lw lf lo lc ln fs bs) (if v < 0 then 0 else if v < nI lc then 1 else 0) := by
  refine ws_z (plainFor_of_name (by decide)) (Nat.le_of_ble_eq_true rfl) ?_
  intro p e s m below meth c A ls Q X hret hl hP hD hS
  obtain ⟨H, hH⟩ : ∃ H, H = s.heap := ⟨_, rfl⟩
  obtain ⟨locs, hlo⟩ : ∃ locs : List Loc, locs = [] := ⟨_, rfl⟩
  have hP : va_P D cls (pW cI cJ cS sa po u1 u2 l1 l2 l3 l4 us vs lu lw lf lo lc ln fs bs) H := by rw [hH]; exact hP
  have hS : va_S A s.heap H locs := by rw [hH, hlo]; exact hS
  suffices hgo : W p l e rm_Proof_hasLevel s m ([.ref po, .int v] : List Value).toArray below meth c H locs 0 0 Q (F0 m 0 ls ([])) by rw [hH, hlo] at hgo; exact hgo
  clear hH hlo
  have hl : lv_has ls 2 [(0, .ref po), (1, .int v)] := hl
  refine lv_iload_n X.1.1 X.1.2.1 d_Proof_hasLevel_0 rfl (lv_at hl 1 rfl) ?_
  refine wi0_lt (tgt := 16) X.1.1 X.1.2.1 d_Proof_hasLevel_1 (by decide) (fun h1 => ?_) (fun h1 => ?_)
  · refine lv_iconst (v := (0 : Int32)) X.1.1 X.1.2.1 d_Proof_hasLevel_16 (by decide) ?_
    exact hret 17 H locs ls _ _ hP hD hS d_Proof_hasLevel_17 (Or.inl rfl) (by first | (simp only [if_pos h1]; done) | simp [h1]) (rfl)
  · refine lv_iload_n X.1.1 X.1.2.1 d_Proof_hasLevel_4 rfl (lv_at hl 1 rfl) ?_
    refine lv_aload_n X.1.1 X.1.2.1 d_Proof_hasLevel_5 rfl (lv_at hl 0 rfl) ?_
    refine fg_Proof_31 X hP 1 rfl rfl d_Proof_hasLevel_6 ?_
    refine wi_ge (tgt := 16) X.1.1 X.1.2.1 d_Proof_hasLevel_9 (by decide) (fun h9 => ?_) (fun h9 => ?_)
    · refine lv_iconst (v := (0 : Int32)) X.1.1 X.1.2.1 d_Proof_hasLevel_16 (by decide) ?_
      exact hret 17 H locs ls _ _ hP hD hS d_Proof_hasLevel_17 (Or.inl rfl) (by first | (simp only [if_neg h1, if_neg h9]; done) | simp [h1, h9]) (rfl)
    · refine lv_iconst (v := (1 : Int32)) X.1.1 X.1.2.1 d_Proof_hasLevel_12 (by decide) ?_
      refine lv_goto (tgt := 17) X.1.1 X.1.2.1 d_Proof_hasLevel_13 (by decide) ?_
      exact hret 17 H locs ls _ _ hP hD hS d_Proof_hasLevel_17 (Or.inr rfl) (by first | (simp only [if_neg h1, if_pos h9]; done) | simp [h1, h9]) (rfl)
set_option maxHeartbeats 4000000 in
set_option maxRecDepth 100000 in
theorem c_Proof_functionValue (sa po u1 u2 l1 l2 l3 l4 : Nat) (us vs lu lw : Nat → Int32) (lf : Nat → Int64) (lo : Nat → Int32) (lc ln : Nat) (fs : Int32) (bs : List bT) (v : Nat) (x y : Int64) (hv : v < 6) : wk_kl l y_Proof_functionValue (Cond.code y_Proof_functionValue b_Proof_functionValue 6 (some .long) :: BW) rm_Proof_functionValue D cls (kT cI cJ cS) nz [.ref po, .int (nI v), .long x, .long y] (pW cI cJ cS sa po u1 u2 l1 l2 l3 l4 us vs lu lw lf lo lc ln fs bs) (fun wz => wz = pW cI cJ cS sa po u1 u2 l1 l2 l3 l4 us vs lu lw lf lo lc ln fs bs) ((lu v).toInt64 * x + (lw v).toInt64 * y) := by
  refine ws_l (plainFor_of_name (by decide)) (Nat.le_of_ble_eq_true rfl) ?_
  intro p e s m below meth c A ls Q X hret hl hP hD hS
  obtain ⟨H, hH⟩ : ∃ H, H = s.heap := ⟨_, rfl⟩
  obtain ⟨locs, hlo⟩ : ∃ locs : List Loc, locs = [] := ⟨_, rfl⟩
  have hP : va_P D cls (pW cI cJ cS sa po u1 u2 l1 l2 l3 l4 us vs lu lw lf lo lc ln fs bs) H := by rw [hH]; exact hP
  have hS : va_S A s.heap H locs := by rw [hH, hlo]; exact hS
  suffices hgo : W p l e rm_Proof_functionValue s m ([.ref po, .int (nI v), .long x, .long y] : List Value).toArray below meth c H locs 0 0 Q (F0 m 0 ls ([])) by rw [hH, hlo] at hgo; exact hgo
  clear hH hlo
  have hl : lv_has ls 6 [(0, .ref po), (1, .int (nI v)), (2, .long x), (4, .long y)] := hl
  refine lv_aload_n X.1.1 X.1.2.1 d_Proof_functionValue_0 rfl (lv_at hl 0 rfl) ?_
  refine fg_Proof_18 X hP 1 rfl rfl d_Proof_functionValue_1 ?_
  refine lv_iload_n X.1.1 X.1.2.1 d_Proof_functionValue_4 rfl (lv_at hl 1 rfl) ?_
  refine wa_ild X.1.1 X.1.2.1 X.2.1 hP 4 0 rfl rfl v rfl (by omega) (by decide) d_Proof_functionValue_5 ?_
  refine lv_i2l X.1.1 X.1.2.1 d_Proof_functionValue_6 rfl ?_
  refine lv_lload_n X.1.1 X.1.2.1 d_Proof_functionValue_7 rfl (lv_at hl 2 rfl) ?_
  refine lv_lmul X.1.1 X.1.2.1 d_Proof_functionValue_8 ?_
  refine lv_aload_n X.1.1 X.1.2.1 d_Proof_functionValue_9 rfl (lv_at hl 0 rfl) ?_
  refine fg_Proof_21 X hP 1 rfl rfl d_Proof_functionValue_10 ?_
  refine lv_iload_n X.1.1 X.1.2.1 d_Proof_functionValue_13 rfl (lv_at hl 1 rfl) ?_
  refine wa_ild X.1.1 X.1.2.1 X.2.1 hP 5 0 rfl rfl v rfl (by omega) (by decide) d_Proof_functionValue_14 ?_
  refine lv_i2l X.1.1 X.1.2.1 d_Proof_functionValue_15 rfl ?_
  refine lv_lload X.1.1 X.1.2.1 d_Proof_functionValue_16 (lv_at hl 3 rfl) ?_
  refine lv_lmul X.1.1 X.1.2.1 d_Proof_functionValue_18 ?_
  refine lv_ladd X.1.1 X.1.2.1 d_Proof_functionValue_19 ?_
  exact hret 20 H locs ls _ _ hP hD hS d_Proof_functionValue_20 (rfl) (rfl)
end CT
