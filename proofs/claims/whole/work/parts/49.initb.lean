/-! The functions, in their order -/
def md (a : Nat) : Int32 := 4 - nI a
theorem md_s (a : Nat) : md a + (-1) = md (a + 1) := by unfold md; rw [nI_succ]; grind
theorem md_lt : ∀ a, a < 10 → (md a < -4 ↔ a = 9) := by decide
theorem md_0 : (4 : Int32) = md 0 := by decide
abbrev lZ : Type := Nat × (Nat → Int32) × (Nat → Int32)
def l_s (sum u v : Int32) (z : lZ) : lZ := if g_abs u + g_abs v = sum then (if z.1 < 80 then (z.1 + 1, upd z.2.1 z.1 u, upd z.2.2 z.1 v) else z) else z
def l_i (sum u : Int32) : Nat → Nat → lZ → lZ
  | 0, _, z => z
  | k + 1, j, z => l_i sum u k (j + 1) (l_s sum u (md j) z)
def l_u (sum : Int32) : Nat → Nat → lZ → lZ
  | 0, _, z => z
  | k + 1, i, z => l_u sum k (i + 1) (l_i sum (md i) 9 0 z)
def l_o : Nat → Nat → lZ → lZ
  | 0, _, z => z
  | k + 1, n, z => l_o k (n + 1) (l_u (nI n) 9 0 z)
abbrev lW (cI cJ : ClassId) (po u1 u2 l1 l2 l3 l4 : Nat) (us vs lu lw : Nat → Int32) (lf : Nat → Int64) (lo : Nat → Int32) (lc ln : Nat) (fs : Int32) : va_W :=
  [(po, .inr (2, [.ref u1, .ref u2, .ref l1, .ref l2, .ref l3, .ref l4, .int (nI lc), .int (nI ln), .int fs])), (u1, .inl (cI, 80, .inl us)), (u2, .inl (cI, 80, .inl vs)), (l1, .inl (cI, 6, .inl lu)), (l2, .inl (cI, 6, .inl lw)), (l3, .inl (cJ, 6, .inr (.inl lf))), (l4, .inl (cI, 6, .inl lo))]
def uS : Nat → Int32 := (l_o 8 1 (0, fun _ => 0, fun _ => 0)).2.1
def vS : Nat → Int32 := (l_o 8 1 (0, fun _ => 0, fun _ => 0)).2.2
section CT
variable {l : Launch} {D : va_G} {cI cJ cS : ClassId}
set_option maxHeartbeats 4000000 in
set_option maxRecDepth 100000 in
theorem c_Proof_listFunctions (po u1 u2 l1 l2 l3 l4 : Nat) (us vs lu lw : Nat → Int32) (lf : Nat → Int64) (lo : Nat → Int32) (lc ln : Nat) (fs : Int32) : wk_kv l y_Proof_listFunctions (Cond.code y_Proof_listFunctions b_Proof_listFunctions 5 none :: BW) rm_Proof_listFunctions D cls (kT cI cJ cS) nz [.ref po] (lW cI cJ po u1 u2 l1 l2 l3 l4 us vs lu lw lf lo lc ln fs) (fun wz => wz = lW cI cJ po u1 u2 l1 l2 l3 l4 (l_o 8 1 (0, us, vs)).2.1 (l_o 8 1 (0, us, vs)).2.2 lu lw lf lo lc ln fs) := by
  refine ws_v (plainFor_of_name (by decide)) (Nat.le_of_ble_eq_true rfl) ?_
  intro p e s m below meth c A ls Q X hret hl hP hD hS
  obtain ⟨H, hH⟩ : ∃ H, H = s.heap := ⟨_, rfl⟩
  obtain ⟨locs, hlo⟩ : ∃ locs : List Loc, locs = [] := ⟨_, rfl⟩
  have hP : va_P D cls (lW cI cJ po u1 u2 l1 l2 l3 l4 us vs lu lw lf lo lc ln fs) H := by rw [hH]; exact hP
  have hS : va_S A s.heap H locs := by rw [hH, hlo]; exact hS
  suffices hgo : W p l e rm_Proof_listFunctions s m ([.ref po] : List Value).toArray below meth c H locs 0 0 Q (F0 m 0 ls ([])) by rw [hH, hlo] at hgo; exact hgo
  clear hH hlo
  have hl : lv_has ls 5 [(0, .ref po)] := hl
  refine lv_iconst (v := (0 : Int32)) X.1.1 X.1.2.1 d_Proof_listFunctions_0 (by decide) ?_
  refine lv_istore_n X.1.1 X.1.2.1 d_Proof_listFunctions_1 rfl hl (by decide) rfl (fun ls hl => ?_)
  have hl : lv_has ls 5 [(1, .int (0 : Int32)), (0, .ref po)] := hl
  refine lv_iconst (v := (1 : Int32)) X.1.1 X.1.2.1 d_Proof_listFunctions_2 (by decide) ?_
  refine lv_istore_n X.1.1 X.1.2.1 d_Proof_listFunctions_3 rfl hl (by decide) rfl (fun ls hl => ?_)
  have hl : lv_has ls 5 [(2, .int (1 : Int32)), (1, .int (0 : Int32)), (0, .ref po)] := hl
  have lp4 : ∀ (k4 : Nat) (n : Nat) (cN : Nat) (uN : Nat → Int32) (vN : Nat → Int32) (ls : Array Slot) (H : Heap) (locs : List Loc), n + k4 = 9 → 1 ≤ n → cN ≤ 80 → l_o k4 n (cN, uN, vN) = l_o 8 1 (0, us, vs) → lv_has ls 5 [(2, .int (nI n)), (1, .int (nI cN)), (0, .ref po)] → va_P D cls (lW cI cJ po u1 u2 l1 l2 l3 l4 uN vN lu lw lf lo lc ln fs) H → va_D A (lW cI cJ po u1 u2 l1 l2 l3 l4 uN vN lu lw lf lo lc ln fs) → va_S A s.heap H locs → W p l e rm_Proof_listFunctions s m ([.ref po] : List Value).toArray below meth c H locs 0 0 Q (F0 m 4 ls ([])) := by
    intro k4
    induction k4 with
    | zero =>
      intro n cN uN vN ls H locs hnk hn1 hcN hE hl hP hD hS
      refine lv_iload_n X.1.1 X.1.2.1 d_Proof_listFunctions_4 rfl (lv_at hl 0 rfl) ?_
      refine lv_bipush (v := (8 : Int32)) X.1.1 X.1.2.1 d_Proof_listFunctions_5 (by decide) ?_
      refine wn_gt (a := n) (b := 8) (tgt := 84) X.1.1 X.1.2.1 d_Proof_listFunctions_7 (by decide) (by omega) (by omega) (fun h7 => ?_) (fun h7 => by exfalso; omega)
      exact hret 84 H locs ls _ hP hD hS d_Proof_listFunctions_84 (by rw [← hE]; rfl)
    | succ k4 ih4 =>
      intro n cN uN vN ls H locs hnk hn1 hcN hE hl hP hD hS
      refine lv_iload_n X.1.1 X.1.2.1 d_Proof_listFunctions_4 rfl (lv_at hl 0 rfl) ?_
      refine lv_bipush (v := (8 : Int32)) X.1.1 X.1.2.1 d_Proof_listFunctions_5 (by decide) ?_
      refine wn_gt (a := n) (b := 8) (tgt := 84) X.1.1 X.1.2.1 d_Proof_listFunctions_7 (by decide) (by omega) (by omega) (fun h7 => by exfalso; omega) (fun h7 => ?_)
      refine lv_iconst (v := (4 : Int32)) X.1.1 X.1.2.1 d_Proof_listFunctions_10 (by decide) ?_
      refine wt_i md_0 ?_
      refine lv_istore_n X.1.1 X.1.2.1 d_Proof_listFunctions_11 rfl hl (by decide) rfl (fun ls hl => ?_)
      have hl : lv_has ls 5 [(3, .int (md 0)), (2, .int (nI n)), (1, .int (nI cN)), (0, .ref po)] := hl
      have lp12 : ∀ (k12 : Nat) (i : Nat) (cU : Nat) (uU : Nat → Int32) (vU : Nat → Int32) (ls : Array Slot) (H : Heap) (locs : List Loc), i + k12 = 9 → cU ≤ 80 → l_u (nI n) k12 i (cU, uU, vU) = l_u (nI n) 9 0 (cN, uN, vN) → lv_has ls 5 [(3, .int (md i)), (2, .int (nI n)), (1, .int (nI cU)), (0, .ref po)] → va_P D cls (lW cI cJ po u1 u2 l1 l2 l3 l4 uU vU lu lw lf lo lc ln fs) H → va_D A (lW cI cJ po u1 u2 l1 l2 l3 l4 uU vU lu lw lf lo lc ln fs) → va_S A s.heap H locs → W p l e rm_Proof_listFunctions s m ([.ref po] : List Value).toArray below meth c H locs 0 0 Q (F0 m 12 ls ([])) := by
        intro k12
        induction k12 with
        | zero =>
          intro i cU uU vU ls H locs hik hcU hE2 hl hP hD hS
          refine lv_iload_n X.1.1 X.1.2.1 d_Proof_listFunctions_12 rfl (lv_at hl 0 rfl) ?_
          refine lv_bipush (v := (-4 : Int32)) X.1.1 X.1.2.1 d_Proof_listFunctions_13 (by decide) ?_
          refine wi_lt (tgt := 78) X.1.1 X.1.2.1 d_Proof_listFunctions_15 (by decide) (fun h15 => ?_) (fun h15 => absurd ((md_lt i (by omega)).mpr (by omega)) h15)
          refine lv_iinc (k := 1) (v := nI (n + 1)) X.1.1 X.1.2.1 d_Proof_listFunctions_78 hl rfl (nI_1 n) (by decide) rfl (fun ls hl => ?_)
          have hl : lv_has ls 5 [(2, .int (nI (n + 1))), (3, .int (md i)), (1, .int (nI cU)), (0, .ref po)] := hl
          refine lv_goto (tgt := 4) X.1.1 X.1.2.1 d_Proof_listFunctions_81 (by decide) ?_
          exact ih4 (n + 1) cU uU vU ls H locs (by omega) (by omega) (hcU) (by rw [show (cU, uU, vU) = _ from hE2]; exact hE) (lv_sub hl [0, 2, 3] rfl) hP hD hS
        | succ k12 ih12 =>
          intro i cU uU vU ls H locs hik hcU hE2 hl hP hD hS
          refine lv_iload_n X.1.1 X.1.2.1 d_Proof_listFunctions_12 rfl (lv_at hl 0 rfl) ?_
          refine lv_bipush (v := (-4 : Int32)) X.1.1 X.1.2.1 d_Proof_listFunctions_13 (by decide) ?_
          refine wi_lt (tgt := 78) X.1.1 X.1.2.1 d_Proof_listFunctions_15 (by decide) (fun h15 => absurd ((md_lt i (by omega)).mp h15) (by omega)) (fun h15 => ?_)
          refine lv_iconst (v := (4 : Int32)) X.1.1 X.1.2.1 d_Proof_listFunctions_18 (by decide) ?_
          refine wt_i md_0 ?_
          refine lv_istore X.1.1 X.1.2.1 d_Proof_listFunctions_19 hl (by decide) rfl (fun ls hl => ?_)
          have hl : lv_has ls 5 [(4, .int (md 0)), (3, .int (md i)), (2, .int (nI n)), (1, .int (nI cU)), (0, .ref po)] := hl
          have lp21 : ∀ (k21 : Nat) (j : Nat) (cV : Nat) (uV : Nat → Int32) (vV : Nat → Int32) (ls : Array Slot) (H : Heap) (locs : List Loc), j + k21 = 9 → cV ≤ 80 → l_i (nI n) (md i) k21 j (cV, uV, vV) = l_i (nI n) (md i) 9 0 (cU, uU, vU) → lv_has ls 5 [(4, .int (md j)), (3, .int (md i)), (2, .int (nI n)), (1, .int (nI cV)), (0, .ref po)] → va_P D cls (lW cI cJ po u1 u2 l1 l2 l3 l4 uV vV lu lw lf lo lc ln fs) H → va_D A (lW cI cJ po u1 u2 l1 l2 l3 l4 uV vV lu lw lf lo lc ln fs) → va_S A s.heap H locs → W p l e rm_Proof_listFunctions s m ([.ref po] : List Value).toArray below meth c H locs 0 0 Q (F0 m 21 ls ([])) := by
            intro k21
            induction k21 with
            | zero =>
              intro j cV uV vV ls H locs hjk hcV hE3 hl hP hD hS
              refine lv_iload X.1.1 X.1.2.1 d_Proof_listFunctions_21 (lv_at hl 0 rfl) ?_
              refine lv_bipush (v := (-4 : Int32)) X.1.1 X.1.2.1 d_Proof_listFunctions_23 (by decide) ?_
              refine wi_lt (tgt := 72) X.1.1 X.1.2.1 d_Proof_listFunctions_25 (by decide) (fun h25 => ?_) (fun h25 => absurd ((md_lt j (by omega)).mpr (by omega)) h25)
              refine lv_iinc (k := 1) (v := md (i + 1)) X.1.1 X.1.2.1 d_Proof_listFunctions_72 hl rfl (md_s i) (by decide) rfl (fun ls hl => ?_)
              have hl : lv_has ls 5 [(3, .int (md (i + 1))), (4, .int (md j)), (2, .int (nI n)), (1, .int (nI cV)), (0, .ref po)] := hl
              refine lv_goto (tgt := 12) X.1.1 X.1.2.1 d_Proof_listFunctions_75 (by decide) ?_
              exact ih12 (i + 1) cV uV vV ls H locs (by omega) (hcV) (by rw [show (cV, uV, vV) = _ from hE3]; exact hE2) (lv_sub hl [0, 2, 3, 4] rfl) hP hD hS
            | succ k21 ih21 =>
              intro j cV uV vV ls H locs hjk hcV hE3 hl hP hD hS
              refine lv_iload X.1.1 X.1.2.1 d_Proof_listFunctions_21 (lv_at hl 0 rfl) ?_
              refine lv_bipush (v := (-4 : Int32)) X.1.1 X.1.2.1 d_Proof_listFunctions_23 (by decide) ?_
              refine wi_lt (tgt := 72) X.1.1 X.1.2.1 d_Proof_listFunctions_25 (by decide) (fun h25 => absurd ((md_lt j (by omega)).mp h25) (by omega)) (fun h25 => ?_)
              refine lv_iload_n X.1.1 X.1.2.1 d_Proof_listFunctions_28 rfl (lv_at hl 1 rfl) ?_
              refine wm_abs_Proof_45 X hl.1 (by decide) (Nat.le_of_ble_eq_true rfl) (by decide) d_Proof_listFunctions_29 ?_
              refine lv_iload X.1.1 X.1.2.1 d_Proof_listFunctions_32 (lv_at hl 0 rfl) ?_
              refine wm_abs_Proof_45 X hl.1 (by decide) (Nat.le_of_ble_eq_true rfl) (by decide) d_Proof_listFunctions_34 ?_
              refine lv_iadd X.1.1 X.1.2.1 d_Proof_listFunctions_37 ?_
              refine lv_iload_n X.1.1 X.1.2.1 d_Proof_listFunctions_38 rfl (lv_at hl 2 rfl) ?_
              refine wi_ne (tgt := 66) X.1.1 X.1.2.1 d_Proof_listFunctions_39 (by decide) (fun h39 => ?_) (fun h39 => ?_)
              · refine lv_iinc (k := 0) (v := md (j + 1)) X.1.1 X.1.2.1 d_Proof_listFunctions_66 hl rfl (md_s j) (by decide) rfl (fun ls hl => ?_)
                have hl : lv_has ls 5 [(4, .int (md (j + 1))), (3, .int (md i)), (2, .int (nI n)), (1, .int (nI cV)), (0, .ref po)] := hl
                refine lv_goto (tgt := 21) X.1.1 X.1.2.1 d_Proof_listFunctions_69 (by decide) ?_
                exact ih21 (j + 1) cV uV vV ls H locs (by omega) (by omega) (by rw [← hE3]; show _ = l_i (nI n) (md i) k21 (j + 1) (l_s (nI n) (md i) (md j) (cV, uV, vV)); simp only [l_s, if_neg h39]) (lv_sub hl [0, 1, 2, 3, 4] rfl) hP hD hS
              · refine lv_iload_n X.1.1 X.1.2.1 d_Proof_listFunctions_42 rfl (lv_at hl 3 rfl) ?_
                refine lv_bipush (v := (80 : Int32)) X.1.1 X.1.2.1 d_Proof_listFunctions_43 (by decide) ?_
                refine wn_ge (a := cV) (b := 80) (tgt := 66) X.1.1 X.1.2.1 d_Proof_listFunctions_45 (by decide) (by omega) (by omega) (fun h45 => ?_) (fun h45 => ?_)
                · refine lv_iinc (k := 0) (v := md (j + 1)) X.1.1 X.1.2.1 d_Proof_listFunctions_66 hl rfl (md_s j) (by decide) rfl (fun ls hl => ?_)
                  have hl : lv_has ls 5 [(4, .int (md (j + 1))), (3, .int (md i)), (2, .int (nI n)), (1, .int (nI cV)), (0, .ref po)] := hl
                  refine lv_goto (tgt := 21) X.1.1 X.1.2.1 d_Proof_listFunctions_69 (by decide) ?_
                  exact ih21 (j + 1) cV uV vV ls H locs (by omega) (by omega) (by rw [← hE3]; show _ = l_i (nI n) (md i) k21 (j + 1) (l_s (nI n) (md i) (md j) (cV, uV, vV)); simp only [l_s, if_pos h39, if_neg h45]) (lv_sub hl [0, 1, 2, 3, 4] rfl) hP hD hS
                · refine lv_aload_n X.1.1 X.1.2.1 d_Proof_listFunctions_48 rfl (lv_at hl 4 rfl) ?_
                  refine fg_Proof_9 X hP 0 rfl rfl d_Proof_listFunctions_49 ?_
                  refine lv_iload_n X.1.1 X.1.2.1 d_Proof_listFunctions_52 rfl (lv_at hl 3 rfl) ?_
                  refine lv_iload_n X.1.1 X.1.2.1 d_Proof_listFunctions_53 rfl (lv_at hl 1 rfl) ?_
                  refine wa_ist X.1.1 X.1.2.1 X.2.1 hP hD hS 1 0 rfl rfl cV rfl (by omega) (by decide) d_Proof_listFunctions_54 (fun H locs hP hD hS => ?_)
                  have hP : va_P D cls (lW cI cJ po u1 u2 l1 l2 l3 l4 (upd uV cV (md i)) vV lu lw lf lo lc ln fs) H := hP
                  have hD : va_D A (lW cI cJ po u1 u2 l1 l2 l3 l4 (upd uV cV (md i)) vV lu lw lf lo lc ln fs) := hD
                  refine lv_aload_n X.1.1 X.1.2.1 d_Proof_listFunctions_55 rfl (lv_at hl 4 rfl) ?_
                  refine fg_Proof_15 X hP 0 rfl rfl d_Proof_listFunctions_56 ?_
                  refine lv_iload_n X.1.1 X.1.2.1 d_Proof_listFunctions_59 rfl (lv_at hl 3 rfl) ?_
                  refine lv_iload X.1.1 X.1.2.1 d_Proof_listFunctions_60 (lv_at hl 0 rfl) ?_
                  refine wa_ist X.1.1 X.1.2.1 X.2.1 hP hD hS 2 0 rfl rfl cV rfl (by omega) (by decide) d_Proof_listFunctions_62 (fun H locs hP hD hS => ?_)
                  have hP : va_P D cls (lW cI cJ po u1 u2 l1 l2 l3 l4 (upd uV cV (md i)) (upd vV cV (md j)) lu lw lf lo lc ln fs) H := hP
                  have hD : va_D A (lW cI cJ po u1 u2 l1 l2 l3 l4 (upd uV cV (md i)) (upd vV cV (md j)) lu lw lf lo lc ln fs) := hD
                  refine lv_iinc (k := 3) (v := nI (cV + 1)) X.1.1 X.1.2.1 d_Proof_listFunctions_63 hl rfl (nI_1 cV) (by decide) rfl (fun ls hl => ?_)
                  have hl : lv_has ls 5 [(1, .int (nI (cV + 1))), (4, .int (md j)), (3, .int (md i)), (2, .int (nI n)), (0, .ref po)] := hl
                  refine lv_iinc (k := 1) (v := md (j + 1)) X.1.1 X.1.2.1 d_Proof_listFunctions_66 hl rfl (md_s j) (by decide) rfl (fun ls hl => ?_)
                  have hl : lv_has ls 5 [(4, .int (md (j + 1))), (1, .int (nI (cV + 1))), (3, .int (md i)), (2, .int (nI n)), (0, .ref po)] := hl
                  refine lv_goto (tgt := 21) X.1.1 X.1.2.1 d_Proof_listFunctions_69 (by decide) ?_
                  exact ih21 (j + 1) (cV + 1) (upd uV cV (md i)) (upd vV cV (md j)) ls H locs (by omega) (by omega) (by rw [← hE3]; show _ = l_i (nI n) (md i) k21 (j + 1) (l_s (nI n) (md i) (md j) (cV, uV, vV)); simp only [l_s, if_pos h39, if_pos h45]) (lv_sub hl [0, 2, 3, 1, 4] rfl) hP hD hS
          exact lp21 9 0 cU uU vU ls H locs (by omega) (hcU) (rfl) (lv_sub hl [0, 1, 2, 3, 4] rfl) hP hD hS
      exact lp12 9 0 cN uN vN ls H locs (by omega) (hcN) (rfl) (lv_sub hl [0, 1, 2, 3] rfl) hP hD hS
  exact lp4 8 1 0 us vs ls H locs (by omega) (by omega) (by omega) (rfl) (lv_sub hl [0, 1, 2] rfl) hP hD hS
set_option maxHeartbeats 4000000 in
set_option maxRecDepth 100000 in
theorem c_Proof_init (h : Nat) : wk_kc l y_Proof_init (Cond.code y_Proof_init b_Proof_init 1 none :: BW) rm_Proof_init D cls (kT cI cJ cS) nz [.ref h] [(h, .inr (2, [.null, .null, .null, .null, .null, .null, .int 0, .int 0, .int 0]))] (fun wz => ∃ q1 q2 q3 q4 q5 q6, wz = lW cI cJ h q1 q2 q3 q4 q5 q6 uS vS (fun _ => 0) (fun _ => 0) (fun _ => 0) (fun _ => 0) 0 0 0) 6 184 := by
  refine ws_c (plainFor_of_name (by decide)) (Nat.le_of_ble_eq_true rfl) ?_
  intro p e s m below meth c A ls Q X hname hret hl hP hD hS
  have hin : meth.name = "<init>" := hname
  obtain ⟨H, hH⟩ : ∃ H, H = s.heap := ⟨_, rfl⟩
  obtain ⟨locs, hlo⟩ : ∃ locs : List Loc, locs = [] := ⟨_, rfl⟩
  have hP : va_P D cls [(h, .inr (2, [.null, .null, .null, .null, .null, .null, .int 0, .int 0, .int 0]))] H := by rw [hH]; exact hP
  have hS : va_S A s.heap H locs := by rw [hH, hlo]; exact hS
  suffices hgo : W p l e rm_Proof_init s m ([.ref h] : List Value).toArray below meth c H locs 0 0 Q (F0 m 0 ls []) by rw [hH, hlo] at hgo; exact hgo
  clear hH hlo
  have hl : lv_has ls 1 [(0, .ref h)] := hl
  refine lv_aload_n X.1.1 X.1.2.1 d_Proof_init_0 rfl (lv_at hl 0 rfl) ?_
  refine W.objInit X.1.1 X.1.2.1 X.1.2.2.2.1 (X.1.2.2.2.2 _ (List.mem_append_right _ (List.mem_append_right _ (List.mem_append_right _ (List.mem_append_left _ (List.mem_of_getElem? (i := 8) rfl)))))) (X.1.2.2.2.2 _ (List.mem_append_left _ (List.mem_of_getElem? (i := 13) rfl))) (X.1.2.2.2.2 _ (List.mem_append_left _ (List.mem_of_getElem? (i := 14) rfl))) rfl (by rw [X.1.2.2.1]; exact hl.1) rfl d_Proof_init_1 (Nat.le_of_ble_eq_true rfl) (Nat.le_of_ble_eq_true rfl) ?_
  refine W.eq (g2 := F0 m 4 ls []) rfl ?_
  refine lv_aload_n X.1.1 X.1.2.1 d_Proof_init_4 rfl (lv_at hl 0 rfl) ?_
  refine lv_bipush (v := (80 : Int32)) X.1.1 X.1.2.1 d_Proof_init_5 (by decide) ?_
  refine wo_ni X (X.1.2.2.2.2 _ (List.mem_append_right _ (List.mem_append_right _ (List.mem_append_left _ (List.mem_of_getElem? (i := 10) rfl))))) hP hD hS 80 (by decide) (by decide) (Nat.le_of_ble_eq_true rfl) (Nat.le_of_ble_eq_true rfl) d_Proof_init_7 (fun q1 H hP hD hS => ?_)
  have hP : va_P D cls [(h, .inr (2, [.null, .null, .null, .null, .null, .null, .int 0, .int 0, .int 0])), (q1, .inl (cI, 80, .inl (fun _ => 0)))] H := hP
  have hD : va_D A [(h, .inr (2, [.null, .null, .null, .null, .null, .null, .int 0, .int 0, .int 0])), (q1, .inl (cI, 80, .inl (fun _ => 0)))] := hD
  refine W.widen (k := 1) (n := 80) (Nat.le_of_ble_eq_true rfl) (Nat.le_of_ble_eq_true rfl) ?_
  refine fp_Proof_9 X hin hP hD hS 0 rfl rfl rfl rfl d_Proof_init_9 (fun H locs hP hD hS => ?_)
  have hP : va_P D cls [(h, .inr (2, [.ref q1, .null, .null, .null, .null, .null, .int 0, .int 0, .int 0])), (q1, .inl (cI, 80, .inl (fun _ => 0)))] H := hP
  have hD : va_D A [(h, .inr (2, [.ref q1, .null, .null, .null, .null, .null, .int 0, .int 0, .int 0])), (q1, .inl (cI, 80, .inl (fun _ => 0)))] := hD
  refine lv_aload_n X.1.1 X.1.2.1 d_Proof_init_12 rfl (lv_at hl 0 rfl) ?_
  refine lv_bipush (v := (80 : Int32)) X.1.1 X.1.2.1 d_Proof_init_13 (by decide) ?_
  refine wo_ni X (X.1.2.2.2.2 _ (List.mem_append_right _ (List.mem_append_right _ (List.mem_append_left _ (List.mem_of_getElem? (i := 10) rfl))))) hP hD hS 80 (by decide) (by decide) (Nat.le_of_ble_eq_true rfl) (Nat.le_of_ble_eq_true rfl) d_Proof_init_15 (fun q2 H hP hD hS => ?_)
  have hP : va_P D cls [(h, .inr (2, [.ref q1, .null, .null, .null, .null, .null, .int 0, .int 0, .int 0])), (q1, .inl (cI, 80, .inl (fun _ => 0))), (q2, .inl (cI, 80, .inl (fun _ => 0)))] H := hP
  have hD : va_D A [(h, .inr (2, [.ref q1, .null, .null, .null, .null, .null, .int 0, .int 0, .int 0])), (q1, .inl (cI, 80, .inl (fun _ => 0))), (q2, .inl (cI, 80, .inl (fun _ => 0)))] := hD
  refine W.widen (k := 2) (n := 160) (Nat.le_of_ble_eq_true rfl) (Nat.le_of_ble_eq_true rfl) ?_
  refine fp_Proof_15 X hin hP hD hS 0 rfl rfl rfl rfl d_Proof_init_17 (fun H locs hP hD hS => ?_)
  have hP : va_P D cls [(h, .inr (2, [.ref q1, .ref q2, .null, .null, .null, .null, .int 0, .int 0, .int 0])), (q1, .inl (cI, 80, .inl (fun _ => 0))), (q2, .inl (cI, 80, .inl (fun _ => 0)))] H := hP
  have hD : va_D A [(h, .inr (2, [.ref q1, .ref q2, .null, .null, .null, .null, .int 0, .int 0, .int 0])), (q1, .inl (cI, 80, .inl (fun _ => 0))), (q2, .inl (cI, 80, .inl (fun _ => 0)))] := hD
  refine lv_aload_n X.1.1 X.1.2.1 d_Proof_init_20 rfl (lv_at hl 0 rfl) ?_
  refine lv_bipush (v := (6 : Int32)) X.1.1 X.1.2.1 d_Proof_init_21 (by decide) ?_
  refine wo_ni X (X.1.2.2.2.2 _ (List.mem_append_right _ (List.mem_append_right _ (List.mem_append_left _ (List.mem_of_getElem? (i := 10) rfl))))) hP hD hS 6 (by decide) (by decide) (Nat.le_of_ble_eq_true rfl) (Nat.le_of_ble_eq_true rfl) d_Proof_init_23 (fun q3 H hP hD hS => ?_)
  have hP : va_P D cls [(h, .inr (2, [.ref q1, .ref q2, .null, .null, .null, .null, .int 0, .int 0, .int 0])), (q1, .inl (cI, 80, .inl (fun _ => 0))), (q2, .inl (cI, 80, .inl (fun _ => 0))), (q3, .inl (cI, 6, .inl (fun _ => 0)))] H := hP
  have hD : va_D A [(h, .inr (2, [.ref q1, .ref q2, .null, .null, .null, .null, .int 0, .int 0, .int 0])), (q1, .inl (cI, 80, .inl (fun _ => 0))), (q2, .inl (cI, 80, .inl (fun _ => 0))), (q3, .inl (cI, 6, .inl (fun _ => 0)))] := hD
  refine W.widen (k := 3) (n := 166) (Nat.le_of_ble_eq_true rfl) (Nat.le_of_ble_eq_true rfl) ?_
  refine fp_Proof_18 X hin hP hD hS 0 rfl rfl rfl rfl d_Proof_init_25 (fun H locs hP hD hS => ?_)
  have hP : va_P D cls [(h, .inr (2, [.ref q1, .ref q2, .ref q3, .null, .null, .null, .int 0, .int 0, .int 0])), (q1, .inl (cI, 80, .inl (fun _ => 0))), (q2, .inl (cI, 80, .inl (fun _ => 0))), (q3, .inl (cI, 6, .inl (fun _ => 0)))] H := hP
  have hD : va_D A [(h, .inr (2, [.ref q1, .ref q2, .ref q3, .null, .null, .null, .int 0, .int 0, .int 0])), (q1, .inl (cI, 80, .inl (fun _ => 0))), (q2, .inl (cI, 80, .inl (fun _ => 0))), (q3, .inl (cI, 6, .inl (fun _ => 0)))] := hD
  refine lv_aload_n X.1.1 X.1.2.1 d_Proof_init_28 rfl (lv_at hl 0 rfl) ?_
  refine lv_bipush (v := (6 : Int32)) X.1.1 X.1.2.1 d_Proof_init_29 (by decide) ?_
  refine wo_ni X (X.1.2.2.2.2 _ (List.mem_append_right _ (List.mem_append_right _ (List.mem_append_left _ (List.mem_of_getElem? (i := 10) rfl))))) hP hD hS 6 (by decide) (by decide) (Nat.le_of_ble_eq_true rfl) (Nat.le_of_ble_eq_true rfl) d_Proof_init_31 (fun q4 H hP hD hS => ?_)
  have hP : va_P D cls [(h, .inr (2, [.ref q1, .ref q2, .ref q3, .null, .null, .null, .int 0, .int 0, .int 0])), (q1, .inl (cI, 80, .inl (fun _ => 0))), (q2, .inl (cI, 80, .inl (fun _ => 0))), (q3, .inl (cI, 6, .inl (fun _ => 0))), (q4, .inl (cI, 6, .inl (fun _ => 0)))] H := hP
  have hD : va_D A [(h, .inr (2, [.ref q1, .ref q2, .ref q3, .null, .null, .null, .int 0, .int 0, .int 0])), (q1, .inl (cI, 80, .inl (fun _ => 0))), (q2, .inl (cI, 80, .inl (fun _ => 0))), (q3, .inl (cI, 6, .inl (fun _ => 0))), (q4, .inl (cI, 6, .inl (fun _ => 0)))] := hD
  refine W.widen (k := 4) (n := 172) (Nat.le_of_ble_eq_true rfl) (Nat.le_of_ble_eq_true rfl) ?_
  refine fp_Proof_21 X hin hP hD hS 0 rfl rfl rfl rfl d_Proof_init_33 (fun H locs hP hD hS => ?_)
  have hP : va_P D cls [(h, .inr (2, [.ref q1, .ref q2, .ref q3, .ref q4, .null, .null, .int 0, .int 0, .int 0])), (q1, .inl (cI, 80, .inl (fun _ => 0))), (q2, .inl (cI, 80, .inl (fun _ => 0))), (q3, .inl (cI, 6, .inl (fun _ => 0))), (q4, .inl (cI, 6, .inl (fun _ => 0)))] H := hP
  have hD : va_D A [(h, .inr (2, [.ref q1, .ref q2, .ref q3, .ref q4, .null, .null, .int 0, .int 0, .int 0])), (q1, .inl (cI, 80, .inl (fun _ => 0))), (q2, .inl (cI, 80, .inl (fun _ => 0))), (q3, .inl (cI, 6, .inl (fun _ => 0))), (q4, .inl (cI, 6, .inl (fun _ => 0)))] := hD
  refine lv_aload_n X.1.1 X.1.2.1 d_Proof_init_36 rfl (lv_at hl 0 rfl) ?_
  refine lv_bipush (v := (6 : Int32)) X.1.1 X.1.2.1 d_Proof_init_37 (by decide) ?_
  refine wo_nl X (X.1.2.2.2.2 _ (List.mem_append_right _ (List.mem_append_right _ (List.mem_append_right _ (List.mem_append_right _ (List.mem_append_right _ (List.mem_append_left _ (List.mem_of_getElem? (i := 3) rfl)))))))) hP hD hS 6 (by decide) (by decide) (Nat.le_of_ble_eq_true rfl) (Nat.le_of_ble_eq_true rfl) d_Proof_init_39 (fun q5 H hP hD hS => ?_)
  have hP : va_P D cls [(h, .inr (2, [.ref q1, .ref q2, .ref q3, .ref q4, .null, .null, .int 0, .int 0, .int 0])), (q1, .inl (cI, 80, .inl (fun _ => 0))), (q2, .inl (cI, 80, .inl (fun _ => 0))), (q3, .inl (cI, 6, .inl (fun _ => 0))), (q4, .inl (cI, 6, .inl (fun _ => 0))), (q5, .inl (cJ, 6, .inr (.inl (fun _ => 0))))] H := hP
  have hD : va_D A [(h, .inr (2, [.ref q1, .ref q2, .ref q3, .ref q4, .null, .null, .int 0, .int 0, .int 0])), (q1, .inl (cI, 80, .inl (fun _ => 0))), (q2, .inl (cI, 80, .inl (fun _ => 0))), (q3, .inl (cI, 6, .inl (fun _ => 0))), (q4, .inl (cI, 6, .inl (fun _ => 0))), (q5, .inl (cJ, 6, .inr (.inl (fun _ => 0))))] := hD
  refine W.widen (k := 5) (n := 178) (Nat.le_of_ble_eq_true rfl) (Nat.le_of_ble_eq_true rfl) ?_
  refine fp_Proof_24 X hin hP hD hS 0 rfl rfl rfl rfl d_Proof_init_41 (fun H locs hP hD hS => ?_)
  have hP : va_P D cls [(h, .inr (2, [.ref q1, .ref q2, .ref q3, .ref q4, .ref q5, .null, .int 0, .int 0, .int 0])), (q1, .inl (cI, 80, .inl (fun _ => 0))), (q2, .inl (cI, 80, .inl (fun _ => 0))), (q3, .inl (cI, 6, .inl (fun _ => 0))), (q4, .inl (cI, 6, .inl (fun _ => 0))), (q5, .inl (cJ, 6, .inr (.inl (fun _ => 0))))] H := hP
  have hD : va_D A [(h, .inr (2, [.ref q1, .ref q2, .ref q3, .ref q4, .ref q5, .null, .int 0, .int 0, .int 0])), (q1, .inl (cI, 80, .inl (fun _ => 0))), (q2, .inl (cI, 80, .inl (fun _ => 0))), (q3, .inl (cI, 6, .inl (fun _ => 0))), (q4, .inl (cI, 6, .inl (fun _ => 0))), (q5, .inl (cJ, 6, .inr (.inl (fun _ => 0))))] := hD
  refine lv_aload_n X.1.1 X.1.2.1 d_Proof_init_44 rfl (lv_at hl 0 rfl) ?_
  refine lv_bipush (v := (6 : Int32)) X.1.1 X.1.2.1 d_Proof_init_45 (by decide) ?_
  refine wo_ni X (X.1.2.2.2.2 _ (List.mem_append_right _ (List.mem_append_right _ (List.mem_append_left _ (List.mem_of_getElem? (i := 10) rfl))))) hP hD hS 6 (by decide) (by decide) (Nat.le_of_ble_eq_true rfl) (Nat.le_of_ble_eq_true rfl) d_Proof_init_47 (fun q6 H hP hD hS => ?_)
  have hP : va_P D cls [(h, .inr (2, [.ref q1, .ref q2, .ref q3, .ref q4, .ref q5, .null, .int 0, .int 0, .int 0])), (q1, .inl (cI, 80, .inl (fun _ => 0))), (q2, .inl (cI, 80, .inl (fun _ => 0))), (q3, .inl (cI, 6, .inl (fun _ => 0))), (q4, .inl (cI, 6, .inl (fun _ => 0))), (q5, .inl (cJ, 6, .inr (.inl (fun _ => 0)))), (q6, .inl (cI, 6, .inl (fun _ => 0)))] H := hP
  have hD : va_D A [(h, .inr (2, [.ref q1, .ref q2, .ref q3, .ref q4, .ref q5, .null, .int 0, .int 0, .int 0])), (q1, .inl (cI, 80, .inl (fun _ => 0))), (q2, .inl (cI, 80, .inl (fun _ => 0))), (q3, .inl (cI, 6, .inl (fun _ => 0))), (q4, .inl (cI, 6, .inl (fun _ => 0))), (q5, .inl (cJ, 6, .inr (.inl (fun _ => 0)))), (q6, .inl (cI, 6, .inl (fun _ => 0)))] := hD
  refine W.widen (k := 6) (n := 184) (Nat.le_of_ble_eq_true rfl) (Nat.le_of_ble_eq_true rfl) ?_
  refine fp_Proof_28 X hin hP hD hS 0 rfl rfl rfl rfl d_Proof_init_49 (fun H locs hP hD hS => ?_)
  have hP : va_P D cls [(h, .inr (2, [.ref q1, .ref q2, .ref q3, .ref q4, .ref q5, .ref q6, .int 0, .int 0, .int 0])), (q1, .inl (cI, 80, .inl (fun _ => 0))), (q2, .inl (cI, 80, .inl (fun _ => 0))), (q3, .inl (cI, 6, .inl (fun _ => 0))), (q4, .inl (cI, 6, .inl (fun _ => 0))), (q5, .inl (cJ, 6, .inr (.inl (fun _ => 0)))), (q6, .inl (cI, 6, .inl (fun _ => 0)))] H := hP
  have hD : va_D A [(h, .inr (2, [.ref q1, .ref q2, .ref q3, .ref q4, .ref q5, .ref q6, .int 0, .int 0, .int 0])), (q1, .inl (cI, 80, .inl (fun _ => 0))), (q2, .inl (cI, 80, .inl (fun _ => 0))), (q3, .inl (cI, 6, .inl (fun _ => 0))), (q4, .inl (cI, 6, .inl (fun _ => 0))), (q5, .inl (cJ, 6, .inr (.inl (fun _ => 0)))), (q6, .inl (cI, 6, .inl (fun _ => 0)))] := hD
  refine lv_aload_n X.1.1 X.1.2.1 d_Proof_init_52 rfl (lv_at hl 0 rfl) ?_
  refine lv_iconst (v := (0 : Int32)) X.1.1 X.1.2.1 d_Proof_init_53 (by decide) ?_
  refine fp_Proof_31 X hP hD hS 0 rfl rfl rfl rfl d_Proof_init_54 (fun H locs hP hD hS => ?_)
  have hP : va_P D cls [(h, .inr (2, [.ref q1, .ref q2, .ref q3, .ref q4, .ref q5, .ref q6, .int 0, .int 0, .int 0])), (q1, .inl (cI, 80, .inl (fun _ => 0))), (q2, .inl (cI, 80, .inl (fun _ => 0))), (q3, .inl (cI, 6, .inl (fun _ => 0))), (q4, .inl (cI, 6, .inl (fun _ => 0))), (q5, .inl (cJ, 6, .inr (.inl (fun _ => 0)))), (q6, .inl (cI, 6, .inl (fun _ => 0)))] H := hP
  have hD : va_D A [(h, .inr (2, [.ref q1, .ref q2, .ref q3, .ref q4, .ref q5, .ref q6, .int 0, .int 0, .int 0])), (q1, .inl (cI, 80, .inl (fun _ => 0))), (q2, .inl (cI, 80, .inl (fun _ => 0))), (q3, .inl (cI, 6, .inl (fun _ => 0))), (q4, .inl (cI, 6, .inl (fun _ => 0))), (q5, .inl (cJ, 6, .inr (.inl (fun _ => 0)))), (q6, .inl (cI, 6, .inl (fun _ => 0)))] := hD
  refine lv_aload_n X.1.1 X.1.2.1 d_Proof_init_57 rfl (lv_at hl 0 rfl) ?_
  refine lv_iconst (v := (0 : Int32)) X.1.1 X.1.2.1 d_Proof_init_58 (by decide) ?_
  refine fp_Proof_35 X hP hD hS 0 rfl rfl rfl rfl d_Proof_init_59 (fun H locs hP hD hS => ?_)
  have hP : va_P D cls [(h, .inr (2, [.ref q1, .ref q2, .ref q3, .ref q4, .ref q5, .ref q6, .int 0, .int 0, .int 0])), (q1, .inl (cI, 80, .inl (fun _ => 0))), (q2, .inl (cI, 80, .inl (fun _ => 0))), (q3, .inl (cI, 6, .inl (fun _ => 0))), (q4, .inl (cI, 6, .inl (fun _ => 0))), (q5, .inl (cJ, 6, .inr (.inl (fun _ => 0)))), (q6, .inl (cI, 6, .inl (fun _ => 0)))] H := hP
  have hD : va_D A [(h, .inr (2, [.ref q1, .ref q2, .ref q3, .ref q4, .ref q5, .ref q6, .int 0, .int 0, .int 0])), (q1, .inl (cI, 80, .inl (fun _ => 0))), (q2, .inl (cI, 80, .inl (fun _ => 0))), (q3, .inl (cI, 6, .inl (fun _ => 0))), (q4, .inl (cI, 6, .inl (fun _ => 0))), (q5, .inl (cJ, 6, .inr (.inl (fun _ => 0)))), (q6, .inl (cI, 6, .inl (fun _ => 0)))] := hD
  refine lv_aload_n X.1.1 X.1.2.1 d_Proof_init_62 rfl (lv_at hl 0 rfl) ?_
  refine lv_iconst (v := (0 : Int32)) X.1.1 X.1.2.1 d_Proof_init_63 (by decide) ?_
  refine fp_Proof_38 X hP hD hS 0 rfl rfl rfl rfl d_Proof_init_64 (fun H locs hP hD hS => ?_)
  have hP : va_P D cls [(h, .inr (2, [.ref q1, .ref q2, .ref q3, .ref q4, .ref q5, .ref q6, .int 0, .int 0, .int 0])), (q1, .inl (cI, 80, .inl (fun _ => 0))), (q2, .inl (cI, 80, .inl (fun _ => 0))), (q3, .inl (cI, 6, .inl (fun _ => 0))), (q4, .inl (cI, 6, .inl (fun _ => 0))), (q5, .inl (cJ, 6, .inr (.inl (fun _ => 0)))), (q6, .inl (cI, 6, .inl (fun _ => 0)))] H := hP
  have hD : va_D A [(h, .inr (2, [.ref q1, .ref q2, .ref q3, .ref q4, .ref q5, .ref q6, .int 0, .int 0, .int 0])), (q1, .inl (cI, 80, .inl (fun _ => 0))), (q2, .inl (cI, 80, .inl (fun _ => 0))), (q3, .inl (cI, 6, .inl (fun _ => 0))), (q4, .inl (cI, 6, .inl (fun _ => 0))), (q5, .inl (cJ, 6, .inr (.inl (fun _ => 0)))), (q6, .inl (cI, 6, .inl (fun _ => 0)))] := hD
  refine lv_aload_n X.1.1 X.1.2.1 d_Proof_init_67 rfl (lv_at hl 0 rfl) ?_
  refine wc_Vv [] 2 0 X nz_nest (c_Proof_listFunctions h q1 q2 q3 q4 q5 q6 (fun _ => 0) (fun _ => 0) (fun _ => 0) (fun _ => 0) (fun _ => 0) (fun _ => 0) 0 0 0) (cw_Proof_42 X.1.2.2.2.2 X.2.2.1 (by decide)) [] [] rfl hP hD hS rfl rfl rfl rfl hl.1 (Nat.le_of_ble_eq_true rfl) (by decide) d_Proof_init_68 (fun H locs wn hwn hP hD hS => ?_)
  subst hwn
  have hP : va_P D cls (lW cI cJ h q1 q2 q3 q4 q5 q6 uS vS (fun _ => 0) (fun _ => 0) (fun _ => 0) (fun _ => 0) 0 0 0) H := hP
  have hD : va_D A (lW cI cJ h q1 q2 q3 q4 q5 q6 uS vS (fun _ => 0) (fun _ => 0) (fun _ => 0) (fun _ => 0) 0 0 0) := hD
  exact hret 71 H locs ls _ _ _ hP hD hS d_Proof_init_71 (Nat.le_of_ble_eq_true rfl) (Nat.le_of_ble_eq_true rfl) (⟨_, _, _, _, _, _, rfl⟩)
end CT
