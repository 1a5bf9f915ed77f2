section CT
variable {l : Launch} {D : va_G} {cI cJ cS : ClassId}
set_option maxHeartbeats 4000000 in
set_option maxRecDepth 100000 in
theorem c_LoopRanker_isVariable (v : Int32) : wk_ki l y_LoopRanker_isVariable (Cond.code y_LoopRanker_isVariable b_LoopRanker_isVariable 1 (some .boolean) :: BW) rm_LoopRanker_isVariable D cls (kT cI cJ cS) nz [.int v] ([]) (fun wz => wz = []) (r_v v) := by
  refine ws_z (plainFor_of_name (by decide)) (Nat.le_of_ble_eq_true rfl) ?_
  intro p e s m below meth c A ls Q X hret hl hP hD hS
  obtain ⟨H, hH⟩ : ∃ H, H = s.heap := ⟨_, rfl⟩
  obtain ⟨locs, hlo⟩ : ∃ locs : List Loc, locs = [] := ⟨_, rfl⟩
  have hP : va_P D cls ([]) H := by rw [hH]; exact hP
  have hS : va_S A s.heap H locs := by rw [hH, hlo]; exact hS
  suffices hgo : W p l e rm_LoopRanker_isVariable s m ([.int v] : List Value).toArray below meth c H locs 0 0 Q (F0 m 0 ls ([])) by rw [hH, hlo] at hgo; exact hgo
  clear hH hlo
  have hl : lv_has ls 1 [(0, .int v)] := hl
  refine lv_iload_n X.1.1 X.1.2.1 d_LoopRanker_isVariable_0 rfl (lv_at hl 0 rfl) ?_
  refine wi0_eq (tgt := 9) X.1.1 X.1.2.1 d_LoopRanker_isVariable_1 (by decide) (fun h1 => ?_) (fun h1 => ?_)
  · refine lv_iconst (v := (1 : Int32)) X.1.1 X.1.2.1 d_LoopRanker_isVariable_9 (by decide) ?_
    refine lv_goto (tgt := 14) X.1.1 X.1.2.1 d_LoopRanker_isVariable_10 (by decide) ?_
    exact hret 14 H locs ls _ _ hP hD hS d_LoopRanker_isVariable_14 (Or.inr rfl) (by first | (simp only [r_v, if_pos h1]; done) | simp [r_v, h1]) (rfl)
  · refine lv_iload_n X.1.1 X.1.2.1 d_LoopRanker_isVariable_4 rfl (lv_at hl 0 rfl) ?_
    refine lv_iconst (v := (1 : Int32)) X.1.1 X.1.2.1 d_LoopRanker_isVariable_5 (by decide) ?_
    refine wi_ne (tgt := 13) X.1.1 X.1.2.1 d_LoopRanker_isVariable_6 (by decide) (fun h6 => ?_) (fun h6 => ?_)
    · refine lv_iconst (v := (0 : Int32)) X.1.1 X.1.2.1 d_LoopRanker_isVariable_13 (by decide) ?_
      exact hret 14 H locs ls _ _ hP hD hS d_LoopRanker_isVariable_14 (Or.inl rfl) (by first | (simp only [r_v, if_neg h1, if_neg h6]; done) | simp [r_v, h1, h6]) (rfl)
    · refine lv_iconst (v := (1 : Int32)) X.1.1 X.1.2.1 d_LoopRanker_isVariable_9 (by decide) ?_
      refine lv_goto (tgt := 14) X.1.1 X.1.2.1 d_LoopRanker_isVariable_10 (by decide) ?_
      exact hret 14 H locs ls _ _ hP hD hS d_LoopRanker_isVariable_14 (Or.inr rfl) (by first | (simp only [r_v, if_neg h1, if_pos h6]; done) | simp [r_v, h1, h6]) (rfl)
set_option maxHeartbeats 4000000 in
set_option maxRecDepth 100000 in
theorem c_LoopRanker_isWithin (n k : Int64) : wk_ki l y_LoopRanker_isWithin (Cond.code y_LoopRanker_isWithin b_LoopRanker_isWithin 4 (some .boolean) :: BW) rm_LoopRanker_isWithin D cls (kT cI cJ cS) nz [.long n, .long k] ([]) (fun wz => wz = []) (r_w n k) := by
  refine ws_z (plainFor_of_name (by decide)) (Nat.le_of_ble_eq_true rfl) ?_
  intro p e s m below meth c A ls Q X hret hl hP hD hS
  obtain ⟨H, hH⟩ : ∃ H, H = s.heap := ⟨_, rfl⟩
  obtain ⟨locs, hlo⟩ : ∃ locs : List Loc, locs = [] := ⟨_, rfl⟩
  have hP : va_P D cls ([]) H := by rw [hH]; exact hP
  have hS : va_S A s.heap H locs := by rw [hH, hlo]; exact hS
  suffices hgo : W p l e rm_LoopRanker_isWithin s m ([.long n, .long k] : List Value).toArray below meth c H locs 0 0 Q (F0 m 0 ls ([])) by rw [hH, hlo] at hgo; exact hgo
  clear hH hlo
  have hl : lv_has ls 4 [(0, .long n), (2, .long k)] := hl
  refine lv_lload_n X.1.1 X.1.2.1 d_LoopRanker_isWithin_0 rfl (lv_at hl 0 rfl) ?_
  refine lv_lload_n X.1.1 X.1.2.1 d_LoopRanker_isWithin_1 rfl (lv_at hl 1 rfl) ?_
  refine lv_lneg X.1.1 X.1.2.1 d_LoopRanker_isWithin_2 ?_
  refine wl_lt (tgt := 17) X.1.1 X.1.2.1 d_LoopRanker_isWithin_3 d_LoopRanker_isWithin_4 (by decide) (fun h3 => ?_) (fun h3 => ?_)
  · refine lv_iconst (v := (0 : Int32)) X.1.1 X.1.2.1 d_LoopRanker_isWithin_17 (by decide) ?_
    exact hret 18 H locs ls _ _ hP hD hS d_LoopRanker_isWithin_18 (Or.inl rfl) (by first | (simp only [r_w, if_pos h3]; done) | simp [r_w, h3]) (rfl)
  · refine lv_lload_n X.1.1 X.1.2.1 d_LoopRanker_isWithin_7 rfl (lv_at hl 0 rfl) ?_
    refine lv_lload_n X.1.1 X.1.2.1 d_LoopRanker_isWithin_8 rfl (lv_at hl 1 rfl) ?_
    refine wl_gt (tgt := 17) X.1.1 X.1.2.1 d_LoopRanker_isWithin_9 d_LoopRanker_isWithin_10 (by decide) (fun h9 => ?_) (fun h9 => ?_)
    · refine lv_iconst (v := (0 : Int32)) X.1.1 X.1.2.1 d_LoopRanker_isWithin_17 (by decide) ?_
      exact hret 18 H locs ls _ _ hP hD hS d_LoopRanker_isWithin_18 (Or.inl rfl) (by first | (simp only [r_w, if_neg h3, if_pos h9]; done) | simp [r_w, h3, h9]) (rfl)
    · refine lv_iconst (v := (1 : Int32)) X.1.1 X.1.2.1 d_LoopRanker_isWithin_13 (by decide) ?_
      refine lv_goto (tgt := 18) X.1.1 X.1.2.1 d_LoopRanker_isWithin_14 (by decide) ?_
      exact hret 18 H locs ls _ _ hP hD hS d_LoopRanker_isWithin_18 (Or.inr rfl) (by first | (simp only [r_w, if_neg h3, if_neg h9]; done) | simp [r_w, h3, h9]) (rfl)
set_option maxHeartbeats 4000000 in
set_option maxRecDepth 100000 in
theorem c_LoopRanker_isStep (lr sa po u1 u2 l1 l2 l3 l4 : Nat) (us vs lu lw : Nat → Int32) (lf : Nat → Int64) (lo : Nat → Int32) (lc ln : Nat) (fs : Int32) (bs : List bT) (sc : Nat) (x y : Int64) (fd : Int32) (t : Int32) : wk_ki l y_LoopRanker_isStep (Cond.code y_LoopRanker_isStep b_LoopRanker_isStep 2 (some .boolean) :: BW) rm_LoopRanker_isStep D cls (kT cI cJ cS) nz [.ref lr, .int t] (rW cI cJ cS lr sa po u1 u2 l1 l2 l3 l4 us vs lu lw lf lo lc ln fs bs sc x y fd) (fun wz => wz = rW cI cJ cS lr sa po u1 u2 l1 l2 l3 l4 us vs lu lw lf lo lc ln fs bs sc x y fd) (m_th sc t) := by
  refine ws_z (plainFor_of_name (by decide)) (Nat.le_of_ble_eq_true rfl) ?_
  intro p e s m below meth c A ls Q X hret hl hP hD hS
  obtain ⟨H, hH⟩ : ∃ H, H = s.heap := ⟨_, rfl⟩
  obtain ⟨locs, hlo⟩ : ∃ locs : List Loc, locs = [] := ⟨_, rfl⟩
  have hP : va_P D cls (rW cI cJ cS lr sa po u1 u2 l1 l2 l3 l4 us vs lu lw lf lo lc ln fs bs sc x y fd) H := by rw [hH]; exact hP
  have hS : va_S A s.heap H locs := by rw [hH, hlo]; exact hS
  suffices hgo : W p l e rm_LoopRanker_isStep s m ([.ref lr, .int t] : List Value).toArray below meth c H locs 0 0 Q (F0 m 0 ls ([])) by rw [hH, hlo] at hgo; exact hgo
  clear hH hlo
  have hl : lv_has ls 2 [(0, .ref lr), (1, .int t)] := hl
  refine lv_iload_n X.1.1 X.1.2.1 d_LoopRanker_isStep_0 rfl (lv_at hl 1 rfl) ?_
  refine wi0_lt (tgt := 16) X.1.1 X.1.2.1 d_LoopRanker_isStep_1 (by decide) (fun h1 => ?_) (fun h1 => ?_)
  · refine lv_iconst (v := (0 : Int32)) X.1.1 X.1.2.1 d_LoopRanker_isStep_16 (by decide) ?_
    exact hret 17 H locs ls _ _ hP hD hS d_LoopRanker_isStep_17 (Or.inl rfl) (by first | (simp only [m_th, if_pos h1]; done) | simp [m_th, h1]) (rfl)
  · refine lv_iload_n X.1.1 X.1.2.1 d_LoopRanker_isStep_4 rfl (lv_at hl 1 rfl) ?_
    refine lv_aload_n X.1.1 X.1.2.1 d_LoopRanker_isStep_5 rfl (lv_at hl 0 rfl) ?_
    refine fg_LoopRanker_23 X hP 0 rfl rfl d_LoopRanker_isStep_6 ?_
    refine wi_ge (tgt := 16) X.1.1 X.1.2.1 d_LoopRanker_isStep_9 (by decide) (fun h9 => ?_) (fun h9 => ?_)
    · refine lv_iconst (v := (0 : Int32)) X.1.1 X.1.2.1 d_LoopRanker_isStep_16 (by decide) ?_
      exact hret 17 H locs ls _ _ hP hD hS d_LoopRanker_isStep_17 (Or.inl rfl) (by first | (simp only [m_th, if_neg h1, if_neg h9]; done) | simp [m_th, h1, h9]) (rfl)
    · refine lv_iconst (v := (1 : Int32)) X.1.1 X.1.2.1 d_LoopRanker_isStep_12 (by decide) ?_
      refine lv_goto (tgt := 17) X.1.1 X.1.2.1 d_LoopRanker_isStep_13 (by decide) ?_
      exact hret 17 H locs ls _ _ hP hD hS d_LoopRanker_isStep_17 (Or.inr rfl) (by first | (simp only [m_th, if_neg h1, if_pos h9]; done) | simp [m_th, h1, h9]) (rfl)
set_option maxHeartbeats 4000000 in
set_option maxRecDepth 100000 in
theorem c_LoopRanker_transitions (lr sa po u1 u2 l1 l2 l3 l4 : Nat) (us vs lu lw : Nat → Int32) (lf : Nat → Int64) (lo : Nat → Int32) (lc ln : Nat) (fs : Int32) (bs : List bT) (sc : Nat) (x y : Int64) (fd : Int32) (ds : List bDt) (hI : rI us vs ds sc lu lw lf lo lc ln fs bs) : wk_ki l y_LoopRanker_transitions (Cond.code y_LoopRanker_transitions b_LoopRanker_transitions 1 (some .int) :: BW) rm_LoopRanker_transitions D cls (kT cI cJ cS) nz [.ref lr] (rW cI cJ cS lr sa po u1 u2 l1 l2 l3 l4 us vs lu lw lf lo lc ln fs bs sc x y fd) (fun wz => ∃ lu2 lw2 lf2 lo2 lc2 ln2 fs2 bs2, wz = rW cI cJ cS lr sa po u1 u2 l1 l2 l3 l4 us vs lu2 lw2 lf2 lo2 lc2 ln2 fs2 bs2 sc x y fd ∧ rI us vs ds sc lu2 lw2 lf2 lo2 lc2 ln2 fs2 bs2) (nI sc) := by
  refine ws_i (plainFor_of_name (by decide)) (Nat.le_of_ble_eq_true rfl) ?_
  intro p e s m below meth c A ls Q X hret hl hP hD hS
  obtain ⟨H, hH⟩ : ∃ H, H = s.heap := ⟨_, rfl⟩
  obtain ⟨locs, hlo⟩ : ∃ locs : List Loc, locs = [] := ⟨_, rfl⟩
  have hP : va_P D cls (rW cI cJ cS lr sa po u1 u2 l1 l2 l3 l4 us vs lu lw lf lo lc ln fs bs sc x y fd) H := by rw [hH]; exact hP
  have hS : va_S A s.heap H locs := by rw [hH, hlo]; exact hS
  suffices hgo : W p l e rm_LoopRanker_transitions s m ([.ref lr] : List Value).toArray below meth c H locs 0 0 Q (F0 m 0 ls ([])) by rw [hH, hlo] at hgo; exact hgo
  clear hH hlo
  have hl : lv_has ls 1 [(0, .ref lr)] := hl
  have hok := hI.1
  have hmap := hI.2.2.1
  have hsc := hI.2.1
  refine lv_aload_n X.1.1 X.1.2.1 d_LoopRanker_transitions_0 rfl (lv_at hl 0 rfl) ?_
  refine fg_LoopRanker_23 X hP 0 rfl rfl d_LoopRanker_transitions_1 ?_
  exact hret 4 H locs ls _ _ hP hD hS d_LoopRanker_transitions_4 (rfl) (⟨lu, lw, lf, lo, _, _, _, bs, rfl, hok, hI.2.1, hmap, hI.2.2.2⟩)
set_option maxHeartbeats 4000000 in
set_option maxRecDepth 100000 in
theorem c_LoopRanker_fired (lr sa po u1 u2 l1 l2 l3 l4 : Nat) (us vs lu lw : Nat → Int32) (lf : Nat → Int64) (lo : Nat → Int32) (lc ln : Nat) (fs : Int32) (bs : List bT) (sc : Nat) (x y : Int64) (fd : Int32) (ds : List bDt) (hI : rI us vs ds sc lu lw lf lo lc ln fs bs) : wk_ki l y_LoopRanker_fired (Cond.code y_LoopRanker_fired b_LoopRanker_fired 1 (some .int) :: BW) rm_LoopRanker_fired D cls (kT cI cJ cS) nz [.ref lr] (rW cI cJ cS lr sa po u1 u2 l1 l2 l3 l4 us vs lu lw lf lo lc ln fs bs sc x y fd) (fun wz => ∃ lu2 lw2 lf2 lo2 lc2 ln2 fs2 bs2, wz = rW cI cJ cS lr sa po u1 u2 l1 l2 l3 l4 us vs lu2 lw2 lf2 lo2 lc2 ln2 fs2 bs2 sc x y fd ∧ rI us vs ds sc lu2 lw2 lf2 lo2 lc2 ln2 fs2 bs2) fd := by
  refine ws_i (plainFor_of_name (by decide)) (Nat.le_of_ble_eq_true rfl) ?_
  intro p e s m below meth c A ls Q X hret hl hP hD hS
  obtain ⟨H, hH⟩ : ∃ H, H = s.heap := ⟨_, rfl⟩
  obtain ⟨locs, hlo⟩ : ∃ locs : List Loc, locs = [] := ⟨_, rfl⟩
  have hP : va_P D cls (rW cI cJ cS lr sa po u1 u2 l1 l2 l3 l4 us vs lu lw lf lo lc ln fs bs sc x y fd) H := by rw [hH]; exact hP
  have hS : va_S A s.heap H locs := by rw [hH, hlo]; exact hS
  suffices hgo : W p l e rm_LoopRanker_fired s m ([.ref lr] : List Value).toArray below meth c H locs 0 0 Q (F0 m 0 ls ([])) by rw [hH, hlo] at hgo; exact hgo
  clear hH hlo
  have hl : lv_has ls 1 [(0, .ref lr)] := hl
  have hok := hI.1
  have hmap := hI.2.2.1
  have hsc := hI.2.1
  refine lv_aload_n X.1.1 X.1.2.1 d_LoopRanker_fired_0 rfl (lv_at hl 0 rfl) ?_
  refine fg_LoopRanker_34 X hP 0 rfl rfl d_LoopRanker_fired_1 ?_
  exact hret 4 H locs ls _ _ hP hD hS d_LoopRanker_fired_4 (rfl) (⟨lu, lw, lf, lo, _, _, _, bs, rfl, hok, hI.2.1, hmap, hI.2.2.2⟩)
theorem r_v_0 {v : Int32} (h : r_v v = 0) : ¬ v = 0 ∧ ¬ v = 1 := by
  unfold r_v at h
  refine ⟨fun z => ?_, fun z => ?_⟩
  · rw [if_pos z] at h; exact absurd h (by decide)
  · rw [z] at h; exact absurd h (by decide)
theorem r_v_1 {v : Int32} (h : ¬ r_v v = 0) (h0 : ¬ v = 0) : v = 1 := by
  unfold r_v at h
  rw [if_neg h0] at h
  by_cases h1 : v = 1
  · exact h1
  · rw [if_neg h1] at h; exact absurd rfl h
set_option maxHeartbeats 4000000 in
set_option maxRecDepth 100000 in
theorem c_LoopRanker_value (lr sa po u1 u2 l1 l2 l3 l4 : Nat) (us vs lu lw : Nat → Int32) (lf : Nat → Int64) (lo : Nat → Int32) (lc ln : Nat) (fs : Int32) (bs : List bT) (sc : Nat) (x y : Int64) (fd : Int32) (v : Int32) (ds : List bDt) (hI : rI us vs ds sc lu lw lf lo lc ln fs bs) : wk_kl l y_LoopRanker_value (Cond.code y_LoopRanker_value b_LoopRanker_value 2 (some .long) :: BW) rm_LoopRanker_value D cls (kT cI cJ cS) nz [.ref lr, .int v] (rW cI cJ cS lr sa po u1 u2 l1 l2 l3 l4 us vs lu lw lf lo lc ln fs bs sc x y fd) (fun wz => ∃ lu2 lw2 lf2 lo2 lc2 ln2 fs2 bs2, wz = rW cI cJ cS lr sa po u1 u2 l1 l2 l3 l4 us vs lu2 lw2 lf2 lo2 lc2 ln2 fs2 bs2 sc x y fd ∧ rI us vs ds sc lu2 lw2 lf2 lo2 lc2 ln2 fs2 bs2) (m_vx v x y) := by
  refine ws_l (plainFor_of_name (by decide)) (Nat.le_of_ble_eq_true rfl) ?_
  intro p e s m below meth c A ls Q X hret hl hP hD hS
  obtain ⟨H, hH⟩ : ∃ H, H = s.heap := ⟨_, rfl⟩
  obtain ⟨locs, hlo⟩ : ∃ locs : List Loc, locs = [] := ⟨_, rfl⟩
  have hP : va_P D cls (rW cI cJ cS lr sa po u1 u2 l1 l2 l3 l4 us vs lu lw lf lo lc ln fs bs sc x y fd) H := by rw [hH]; exact hP
  have hS : va_S A s.heap H locs := by rw [hH, hlo]; exact hS
  suffices hgo : W p l e rm_LoopRanker_value s m ([.ref lr, .int v] : List Value).toArray below meth c H locs 0 0 Q (F0 m 0 ls ([])) by rw [hH, hlo] at hgo; exact hgo
  clear hH hlo
  have hl : lv_has ls 2 [(0, .ref lr), (1, .int v)] := hl
  have hok := hI.1
  have hmap := hI.2.2.1
  have hsc := hI.2.1
  refine lv_iload_n X.1.1 X.1.2.1 d_LoopRanker_value_0 rfl (lv_at hl 1 rfl) ?_
  refine wc_Si [.int v] X nz_nest (c_LoopRanker_isVariable v) (cw_LoopRanker_69 X.1.2.2.2.2 X.2.2.1 (by decide)) (rW cI cJ cS lr sa po u1 u2 l1 l2 l3 l4 us vs lu lw lf lo lc ln fs bs sc x y fd) ([]) (by rw [List.append_nil, List.append_nil]) hP hD hS rfl rfl hl.1 (Nat.le_of_ble_eq_true rfl) (by decide) d_LoopRanker_value_1 (fun H locs wn hwn hP hD hS => ?_)
  subst hwn
  rw [List.nil_append, List.append_nil] at hP hD
  have hP : va_P D cls (rW cI cJ cS lr sa po u1 u2 l1 l2 l3 l4 us vs lu lw lf lo lc ln fs bs sc x y fd) H := hP
  have hD : va_D A (rW cI cJ cS lr sa po u1 u2 l1 l2 l3 l4 us vs lu lw lf lo lc ln fs bs sc x y fd) := hD
  refine wi0_ne (tgt := 9) X.1.1 X.1.2.1 d_LoopRanker_value_4 (by decide) (fun h4 => ?_) (fun h4 => ?_)
  · refine lv_iload_n X.1.1 X.1.2.1 d_LoopRanker_value_9 rfl (lv_at hl 1 rfl) ?_
    refine wi0_ne (tgt := 20) X.1.1 X.1.2.1 d_LoopRanker_value_10 (by decide) (fun h10 => ?_) (fun h10 => ?_)
    · refine lv_aload_n X.1.1 X.1.2.1 d_LoopRanker_value_20 rfl (lv_at hl 0 rfl) ?_
      refine fg_LoopRanker_31 X hP 0 rfl rfl d_LoopRanker_value_21 ?_
      exact hret 24 H locs ls _ _ hP hD hS d_LoopRanker_value_24 (by unfold m_vx; rw [if_neg h10, if_pos (r_v_1 h4 h10)]) (⟨lu, lw, lf, lo, _, _, _, bs, rfl, hok, hI.2.1, hmap, hI.2.2.2⟩)
    · refine lv_aload_n X.1.1 X.1.2.1 d_LoopRanker_value_13 rfl (lv_at hl 0 rfl) ?_
      refine fg_LoopRanker_27 X hP 0 rfl rfl d_LoopRanker_value_14 ?_
      refine lv_goto (tgt := 24) X.1.1 X.1.2.1 d_LoopRanker_value_17 (by decide) ?_
      exact hret 24 H locs ls _ _ hP hD hS d_LoopRanker_value_24 (by unfold m_vx; rw [if_pos h10]) (⟨lu, lw, lf, lo, _, _, _, bs, rfl, hok, hI.2.1, hmap, hI.2.2.2⟩)
  · refine lv_lconst (v := 0) X.1.1 X.1.2.1 d_LoopRanker_value_7 (by decide) ?_
    exact hret 8 H locs ls _ _ hP hD hS d_LoopRanker_value_8 (by unfold m_vx; rw [if_neg (r_v_0 h4).1, if_neg (r_v_0 h4).2]) (⟨lu, lw, lf, lo, _, _, _, bs, rfl, hok, hI.2.1, hmap, hI.2.2.2⟩)
set_option maxHeartbeats 4000000 in
set_option maxRecDepth 100000 in
theorem c_LoopRanker_start (lr sa po u1 u2 l1 l2 l3 l4 : Nat) (us vs lu lw : Nat → Int32) (lf : Nat → Int64) (lo : Nat → Int32) (lc ln : Nat) (fs : Int32) (bs : List bT) (sc : Nat) (x y : Int64) (fd : Int32) (nx ny : Int32) (ds : List bDt) (hI : rI us vs ds sc lu lw lf lo lc ln fs bs) : wk_ki l y_LoopRanker_start (Cond.code y_LoopRanker_start b_LoopRanker_start 3 (some .boolean) :: BW) rm_LoopRanker_start D cls (kT cI cJ cS) nz [.ref lr, .int nx, .int ny] (rW cI cJ cS lr sa po u1 u2 l1 l2 l3 l4 us vs lu lw lf lo lc ln fs bs sc x y fd) (fun wz => ∃ lu2 lw2 lf2 lo2 lc2 ln2 fs2 bs2, wz = (if r_w nx.toInt64 1000000 = 0 ∨ r_w ny.toInt64 1000000 = 0 then rW cI cJ cS lr sa po u1 u2 l1 l2 l3 l4 us vs lu2 lw2 lf2 lo2 lc2 ln2 fs2 bs2 sc x y fd else rW cI cJ cS lr sa po u1 u2 l1 l2 l3 l4 us vs lu2 lw2 lf2 lo2 lc2 ln2 fs2 bs2 sc nx.toInt64 ny.toInt64 0) ∧ rI us vs ds sc lu2 lw2 lf2 lo2 lc2 ln2 fs2 bs2) (if r_w nx.toInt64 1000000 = 0 ∨ r_w ny.toInt64 1000000 = 0 then 0 else 1) := by
  refine ws_z (plainFor_of_name (by decide)) (Nat.le_of_ble_eq_true rfl) ?_
  intro p e s m below meth c A ls Q X hret hl hP hD hS
  obtain ⟨H, hH⟩ : ∃ H, H = s.heap := ⟨_, rfl⟩
  obtain ⟨locs, hlo⟩ : ∃ locs : List Loc, locs = [] := ⟨_, rfl⟩
  have hP : va_P D cls (rW cI cJ cS lr sa po u1 u2 l1 l2 l3 l4 us vs lu lw lf lo lc ln fs bs sc x y fd) H := by rw [hH]; exact hP
  have hS : va_S A s.heap H locs := by rw [hH, hlo]; exact hS
  suffices hgo : W p l e rm_LoopRanker_start s m ([.ref lr, .int nx, .int ny] : List Value).toArray below meth c H locs 0 0 Q (F0 m 0 ls ([])) by rw [hH, hlo] at hgo; exact hgo
  clear hH hlo
  have hl : lv_has ls 3 [(0, .ref lr), (1, .int nx), (2, .int ny)] := hl
  have hok := hI.1
  have hmap := hI.2.2.1
  have hsc := hI.2.1
  refine lv_iload_n X.1.1 X.1.2.1 d_LoopRanker_start_0 rfl (lv_at hl 1 rfl) ?_
  refine lv_i2l X.1.1 X.1.2.1 d_LoopRanker_start_1 rfl ?_
  refine lv_ldc2 (v := 1000000) X.1.1 X.1.2.1 X.1.2.2.2.1 (X.1.2.2.2.2 _ kc_LoopRanker_134) d_LoopRanker_start_2 ?_
  refine wc_Si [.long nx.toInt64, .long (1000000 : Int64)] X nz_nest (c_LoopRanker_isWithin nx.toInt64 (1000000 : Int64)) (cw_LoopRanker_50 X.1.2.2.2.2 X.2.2.1 (by decide)) (rW cI cJ cS lr sa po u1 u2 l1 l2 l3 l4 us vs lu lw lf lo lc ln fs bs sc x y fd) ([]) (by rw [List.append_nil, List.append_nil]) hP hD hS rfl rfl hl.1 (Nat.le_of_ble_eq_true rfl) (by decide) d_LoopRanker_start_5 (fun H locs wn hwn hP hD hS => ?_)
  subst hwn
  rw [List.nil_append, List.append_nil] at hP hD
  have hP : va_P D cls (rW cI cJ cS lr sa po u1 u2 l1 l2 l3 l4 us vs lu lw lf lo lc ln fs bs sc x y fd) H := hP
  have hD : va_D A (rW cI cJ cS lr sa po u1 u2 l1 l2 l3 l4 us vs lu lw lf lo lc ln fs bs sc x y fd) := hD
  refine wi0_eq (tgt := 22) X.1.1 X.1.2.1 d_LoopRanker_start_8 (by decide) (fun h8 => ?_) (fun h8 => ?_)
  · refine lv_iconst (v := (0 : Int32)) X.1.1 X.1.2.1 d_LoopRanker_start_22 (by decide) ?_
    exact hret 23 H locs ls _ _ hP hD hS d_LoopRanker_start_23 (Or.inl rfl) (by simp [h8]) (⟨lu, lw, lf, lo, lc, ln, fs, bs, by simp [h8], hI⟩)
  · refine lv_iload_n X.1.1 X.1.2.1 d_LoopRanker_start_11 rfl (lv_at hl 2 rfl) ?_
    refine lv_i2l X.1.1 X.1.2.1 d_LoopRanker_start_12 rfl ?_
    refine lv_ldc2 (v := 1000000) X.1.1 X.1.2.1 X.1.2.2.2.1 (X.1.2.2.2.2 _ kc_LoopRanker_134) d_LoopRanker_start_13 ?_
    refine wc_Si [.long ny.toInt64, .long (1000000 : Int64)] X nz_nest (c_LoopRanker_isWithin ny.toInt64 (1000000 : Int64)) (cw_LoopRanker_50 X.1.2.2.2.2 X.2.2.1 (by decide)) (rW cI cJ cS lr sa po u1 u2 l1 l2 l3 l4 us vs lu lw lf lo lc ln fs bs sc x y fd) ([]) (by rw [List.append_nil, List.append_nil]) hP hD hS rfl rfl hl.1 (Nat.le_of_ble_eq_true rfl) (by decide) d_LoopRanker_start_16 (fun H locs wn hwn hP hD hS => ?_)
    subst hwn
    rw [List.nil_append, List.append_nil] at hP hD
    have hP : va_P D cls (rW cI cJ cS lr sa po u1 u2 l1 l2 l3 l4 us vs lu lw lf lo lc ln fs bs sc x y fd) H := hP
    have hD : va_D A (rW cI cJ cS lr sa po u1 u2 l1 l2 l3 l4 us vs lu lw lf lo lc ln fs bs sc x y fd) := hD
    refine wi0_ne (tgt := 24) X.1.1 X.1.2.1 d_LoopRanker_start_19 (by decide) (fun h19 => ?_) (fun h19 => ?_)
    · refine lv_aload_n X.1.1 X.1.2.1 d_LoopRanker_start_24 rfl (lv_at hl 0 rfl) ?_
      refine lv_iload_n X.1.1 X.1.2.1 d_LoopRanker_start_25 rfl (lv_at hl 1 rfl) ?_
      refine lv_i2l X.1.1 X.1.2.1 d_LoopRanker_start_26 rfl ?_
      refine fp_LoopRanker_27 X hP hD hS 0 rfl rfl rfl rfl d_LoopRanker_start_27 (fun H locs hP hD hS => ?_)
      have hP : va_P D cls (rW cI cJ cS lr sa po u1 u2 l1 l2 l3 l4 us vs lu lw lf lo lc ln fs bs sc nx.toInt64 y fd) H := hP
      have hD : va_D A (rW cI cJ cS lr sa po u1 u2 l1 l2 l3 l4 us vs lu lw lf lo lc ln fs bs sc nx.toInt64 y fd) := hD
      refine lv_aload_n X.1.1 X.1.2.1 d_LoopRanker_start_30 rfl (lv_at hl 0 rfl) ?_
      refine lv_iload_n X.1.1 X.1.2.1 d_LoopRanker_start_31 rfl (lv_at hl 2 rfl) ?_
      refine lv_i2l X.1.1 X.1.2.1 d_LoopRanker_start_32 rfl ?_
      refine fp_LoopRanker_31 X hP hD hS 0 rfl rfl rfl rfl d_LoopRanker_start_33 (fun H locs hP hD hS => ?_)
      have hP : va_P D cls (rW cI cJ cS lr sa po u1 u2 l1 l2 l3 l4 us vs lu lw lf lo lc ln fs bs sc nx.toInt64 ny.toInt64 fd) H := hP
      have hD : va_D A (rW cI cJ cS lr sa po u1 u2 l1 l2 l3 l4 us vs lu lw lf lo lc ln fs bs sc nx.toInt64 ny.toInt64 fd) := hD
      refine lv_aload_n X.1.1 X.1.2.1 d_LoopRanker_start_36 rfl (lv_at hl 0 rfl) ?_
      refine lv_iconst (v := (0 : Int32)) X.1.1 X.1.2.1 d_LoopRanker_start_37 (by decide) ?_
      refine fp_LoopRanker_34 X hP hD hS 0 rfl rfl rfl rfl d_LoopRanker_start_38 (fun H locs hP hD hS => ?_)
      have hP : va_P D cls (rW cI cJ cS lr sa po u1 u2 l1 l2 l3 l4 us vs lu lw lf lo lc ln fs bs sc nx.toInt64 ny.toInt64 (0 : Int32)) H := hP
      have hD : va_D A (rW cI cJ cS lr sa po u1 u2 l1 l2 l3 l4 us vs lu lw lf lo lc ln fs bs sc nx.toInt64 ny.toInt64 (0 : Int32)) := hD
      refine lv_iconst (v := (1 : Int32)) X.1.1 X.1.2.1 d_LoopRanker_start_41 (by decide) ?_
      exact hret 42 H locs ls _ _ hP hD hS d_LoopRanker_start_42 (Or.inr rfl) (by simp [h8, h19]) (⟨lu, lw, lf, lo, lc, ln, fs, bs, by simp [h8, h19], hI⟩)
    · refine lv_iconst (v := (0 : Int32)) X.1.1 X.1.2.1 d_LoopRanker_start_22 (by decide) ?_
      exact hret 23 H locs ls _ _ hP hD hS d_LoopRanker_start_23 (Or.inl rfl) (by simp [h8, h19]) (⟨lu, lw, lf, lo, lc, ln, fs, bs, by simp [h8, h19], hI⟩)
set_option maxHeartbeats 4000000 in
set_option maxRecDepth 100000 in
theorem c_LoopRanker_transition_full (lr sa po u1 u2 l1 l2 l3 l4 : Nat) (us vs lu lw : Nat → Int32) (lf : Nat → Int64) (lo : Nat → Int32) (lc ln : Nat) (fs : Int32) (bs : List bT) (sc : Nat) (x y : Int64) (fd : Int32) (ds : List bDt) (hI : rI us vs ds sc lu lw lf lo lc ln fs bs) (hc : sc = 6) : wk_ki l y_LoopRanker_transition (Cond.code y_LoopRanker_transition b_LoopRanker_transition 1 (some .int) :: BW) rm_LoopRanker_transition D cls (kT cI cJ cS) nz [.ref lr] (rW cI cJ cS lr sa po u1 u2 l1 l2 l3 l4 us vs lu lw lf lo lc ln fs bs sc x y fd) (fun wz => ∃ lu2 lw2 lf2 lo2 lc2 ln2 fs2 bs2, wz = rW cI cJ cS lr sa po u1 u2 l1 l2 l3 l4 us vs lu2 lw2 lf2 lo2 lc2 ln2 fs2 bs2 sc x y fd ∧ rI us vs ds sc lu2 lw2 lf2 lo2 lc2 ln2 fs2 bs2) (-1) := by
  refine ws_i (plainFor_of_name (by decide)) (Nat.le_of_ble_eq_true rfl) ?_
  intro p e s m below meth c A ls Q X hret hl hP hD hS
  obtain ⟨H, hH⟩ : ∃ H, H = s.heap := ⟨_, rfl⟩
  obtain ⟨locs, hlo⟩ : ∃ locs : List Loc, locs = [] := ⟨_, rfl⟩
  have hP : va_P D cls (rW cI cJ cS lr sa po u1 u2 l1 l2 l3 l4 us vs lu lw lf lo lc ln fs bs sc x y fd) H := by rw [hH]; exact hP
  have hS : va_S A s.heap H locs := by rw [hH, hlo]; exact hS
  suffices hgo : W p l e rm_LoopRanker_transition s m ([.ref lr] : List Value).toArray below meth c H locs 0 0 Q (F0 m 0 ls ([])) by rw [hH, hlo] at hgo; exact hgo
  clear hH hlo
  have hl : lv_has ls 1 [(0, .ref lr)] := hl
  have hok := hI.1
  have hmap := hI.2.2.1
  have hsc := hI.2.1
  refine lv_aload_n X.1.1 X.1.2.1 d_LoopRanker_transition_0 rfl (lv_at hl 0 rfl) ?_
  refine fg_LoopRanker_23 X hP 0 rfl rfl d_LoopRanker_transition_1 ?_
  refine lv_bipush (v := (6 : Int32)) X.1.1 X.1.2.1 d_LoopRanker_transition_4 (by decide) ?_
  refine wn_lt (a := sc) (b := 6) (tgt := 11) X.1.1 X.1.2.1 d_LoopRanker_transition_6 (by decide) (by omega) (by omega) (fun h6 => by exfalso; omega) (fun h6 => ?_)
  refine lv_iconst (v := (-1 : Int32)) X.1.1 X.1.2.1 d_LoopRanker_transition_9 (by decide) ?_
  exact hret 10 H locs ls _ _ hP hD hS d_LoopRanker_transition_10 (rfl) (⟨lu, lw, lf, lo, _, _, _, bs, rfl, hok, hI.2.1, hmap, hI.2.2.2⟩)
set_option maxHeartbeats 4000000 in
set_option maxRecDepth 100000 in
theorem c_LoopRanker_transition (lr sa po u1 u2 l1 l2 l3 l4 : Nat) (us vs lu lw : Nat → Int32) (lf : Nat → Int64) (lo : Nat → Int32) (lc ln : Nat) (fs : Int32) (bs : List bT) (sc : Nat) (x y : Int64) (fd : Int32) (ds : List bDt) (hI : rI us vs ds sc lu lw lf lo lc ln fs bs) (hc : sc < 6) : wk_ki l y_LoopRanker_transition (Cond.code y_LoopRanker_transition b_LoopRanker_transition 1 (some .int) :: BW) rm_LoopRanker_transition D cls (kT cI cJ cS) nz [.ref lr] (rW cI cJ cS lr sa po u1 u2 l1 l2 l3 l4 us vs lu lw lf lo lc ln fs bs sc x y fd) (fun wz => ∃ lu2 lw2 lf2 lo2 lc2 ln2 fs2 bs2, wz = rW cI cJ cS lr sa po u1 u2 l1 l2 l3 l4 us vs lu2 lw2 lf2 lo2 lc2 ln2 fs2 bs2 (sc + 1) x y fd ∧ rI us vs (ds.set sc (dReset (dAt ds sc))) (sc + 1) lu2 lw2 lf2 lo2 lc2 ln2 fs2 bs2) (nI sc) := by
  refine ws_i (plainFor_of_name (by decide)) (Nat.le_of_ble_eq_true rfl) ?_
  intro p e s m below meth c A ls Q X hret hl hP hD hS
  obtain ⟨H, hH⟩ : ∃ H, H = s.heap := ⟨_, rfl⟩
  obtain ⟨locs, hlo⟩ : ∃ locs : List Loc, locs = [] := ⟨_, rfl⟩
  have hP : va_P D cls (rW cI cJ cS lr sa po u1 u2 l1 l2 l3 l4 us vs lu lw lf lo lc ln fs bs sc x y fd) H := by rw [hH]; exact hP
  have hS : va_S A s.heap H locs := by rw [hH, hlo]; exact hS
  suffices hgo : W p l e rm_LoopRanker_transition s m ([.ref lr] : List Value).toArray below meth c H locs 0 0 Q (F0 m 0 ls ([])) by rw [hH, hlo] at hgo; exact hgo
  clear hH hlo
  have hl : lv_has ls 1 [(0, .ref lr)] := hl
  have hok := hI.1
  have hmap := hI.2.2.1
  have hsc := hI.2.1
  refine lv_aload_n X.1.1 X.1.2.1 d_LoopRanker_transition_0 rfl (lv_at hl 0 rfl) ?_
  refine fg_LoopRanker_23 X hP 0 rfl rfl d_LoopRanker_transition_1 ?_
  refine lv_bipush (v := (6 : Int32)) X.1.1 X.1.2.1 d_LoopRanker_transition_4 (by decide) ?_
  refine wn_lt (a := sc) (b := 6) (tgt := 11) X.1.1 X.1.2.1 d_LoopRanker_transition_6 (by decide) (by omega) (by omega) (fun h6 => ?_) (fun h6 => by exfalso; omega)
  refine lv_aload_n X.1.1 X.1.2.1 d_LoopRanker_transition_11 rfl (lv_at hl 0 rfl) ?_
  refine fg_LoopRanker_11 X hP 0 rfl rfl d_LoopRanker_transition_12 ?_
  refine lv_aload_n X.1.1 X.1.2.1 d_LoopRanker_transition_15 rfl (lv_at hl 0 rfl) ?_
  refine fg_LoopRanker_23 X hP 0 rfl rfl d_LoopRanker_transition_16 ?_
  obtain ⟨b1, hb1⟩ := bs_get (bs := bs) (k := sc) hok.1 (by omega)
  refine wa_ald X.1.1 X.1.2.1 X.2.1 hP 1 2 rfl rfl sc rfl (by omega) (by decide) (bF_at hb1) d_LoopRanker_transition_19 ?_
  refine wb_Nv [] 1 0 X nz_nest (c_Step_reset (b1.1 0) (b1.1 1) (b1.1 2) (b1.1 3) (b1.1 4) (b1.1 5) (b1.1 6) b1.2.1.1 b1.2.1.2.1 b1.2.1.2.2 b1.2.2.1.1 b1.2.2.1.2 b1.2.2.2.1.1 b1.2.2.2.1.2 b1.2.2.2.2.1 b1.2.2.2.2.2.1 b1.2.2.2.2.2.2 ) (cw_LoopRanker_37 X.1.2.2.2.2 X.2.2.1 (by decide)) _ hb1 [] [] rfl hP hD hS rfl rfl rfl rfl hl.1 (Nat.le_of_ble_eq_true rfl) (by decide) d_LoopRanker_transition_20 (fun H locs wn hwn hall hS => ?_)
  subst hwn
  obtain ⟨hP, hD⟩ := hall ((b1.1, b1.2.1, (0, 0), (0, 0), (s_set (s_set b1.2.2.2.2.1 0 1 0 0) 1 0 1 0, b1.2.2.2.2.2.1, 0))) rfl
  rw [← bF_set (b' := (b1.1, b1.2.1, (0, 0), (0, 0), (s_set (s_set b1.2.2.2.2.1 0 1 0 0) 1 0 1 0, b1.2.2.2.2.2.1, 0))) hb1 rfl] at hP hD
  have hok := bsOK_set (b := (b1.1, b1.2.1, (0, 0), (0, 0), (s_set (s_set b1.2.2.2.2.1 0 1 0 0) 1 0 1 0, b1.2.2.2.2.2.1, 0))) hok sc (⟨by show 0 ≤ 4; omega, Or.inl rfl, fun z => absurd rfl z, fun z => absurd rfl z⟩)
  have hmap : (bs.set sc ((b1.1, b1.2.1, (0, 0), (0, 0), (s_set (s_set b1.2.2.2.2.1 0 1 0 0) 1 0 1 0, b1.2.2.2.2.2.1, 0)))).map bD = ds.set sc (dReset (dAt ds sc)) := by rw [bs_map_set hmap, dAt_of hmap hb1]; rfl
  have hb2x : (bs.set sc ((b1.1, b1.2.1, (0, 0), (0, 0), (s_set (s_set b1.2.2.2.2.1 0 1 0 0) 1 0 1 0, b1.2.2.2.2.2.1, 0))))[sc]? = some ((b1.1, b1.2.1, (0, 0), (0, 0), (s_set (s_set b1.2.2.2.2.1 0 1 0 0) 1 0 1 0, b1.2.2.2.2.2.1, 0))) := bs_set_at hb1
  generalize hgen : bs.set sc ((b1.1, b1.2.1, (0, 0), (0, 0), (s_set (s_set b1.2.2.2.2.1 0 1 0 0) 1 0 1 0, b1.2.2.2.2.2.1, 0))) = bs2x at hP hD hok hmap hb2x
  have hP : va_P D cls (rW cI cJ cS lr sa po u1 u2 l1 l2 l3 l4 us vs lu lw lf lo lc ln fs bs2x sc x y fd) H := hP
  have hD : va_D A (rW cI cJ cS lr sa po u1 u2 l1 l2 l3 l4 us vs lu lw lf lo lc ln fs bs2x sc x y fd) := hD
  refine lv_aload_n X.1.1 X.1.2.1 d_LoopRanker_transition_23 rfl (lv_at hl 0 rfl) ?_
  refine lv_dup X.1.1 X.1.2.1 d_LoopRanker_transition_24 rfl ?_
  refine fg_LoopRanker_23 X hP 0 rfl rfl d_LoopRanker_transition_25 ?_
  refine lv_iconst (v := (1 : Int32)) X.1.1 X.1.2.1 d_LoopRanker_transition_28 (by decide) ?_
  refine wn_add (a := sc) (b := 1) X.1.1 X.1.2.1 d_LoopRanker_transition_29 ?_
  refine fp_LoopRanker_23 X hP hD hS 0 rfl rfl rfl rfl d_LoopRanker_transition_30 (fun H locs hP hD hS => ?_)
  have hP : va_P D cls (rW cI cJ cS lr sa po u1 u2 l1 l2 l3 l4 us vs lu lw lf lo lc ln fs bs2x (sc + 1) x y fd) H := hP
  have hD : va_D A (rW cI cJ cS lr sa po u1 u2 l1 l2 l3 l4 us vs lu lw lf lo lc ln fs bs2x (sc + 1) x y fd) := hD
  refine lv_aload_n X.1.1 X.1.2.1 d_LoopRanker_transition_33 rfl (lv_at hl 0 rfl) ?_
  refine fg_LoopRanker_19 X hP 0 rfl rfl d_LoopRanker_transition_34 ?_
  refine lv_iconst (v := (0 : Int32)) X.1.1 X.1.2.1 d_LoopRanker_transition_37 (by decide) ?_
  refine fp_LoopRanker_40 X hP hD hS 2 rfl rfl rfl rfl d_LoopRanker_transition_38 (fun H locs hP hD hS => ?_)
  have hP : va_P D cls (rW cI cJ cS lr sa po u1 u2 l1 l2 l3 l4 us vs lu lw lf lo lc ln (0 : Int32) bs2x (sc + 1) x y fd) H := hP
  have hD : va_D A (rW cI cJ cS lr sa po u1 u2 l1 l2 l3 l4 us vs lu lw lf lo lc ln (0 : Int32) bs2x (sc + 1) x y fd) := hD
  refine lv_aload_n X.1.1 X.1.2.1 d_LoopRanker_transition_41 rfl (lv_at hl 0 rfl) ?_
  refine fg_LoopRanker_23 X hP 0 rfl rfl d_LoopRanker_transition_42 ?_
  refine lv_iconst (v := (1 : Int32)) X.1.1 X.1.2.1 d_LoopRanker_transition_45 (by decide) ?_
  refine wn_sub (a := sc + 1) (b := 1) X.1.1 X.1.2.1 d_LoopRanker_transition_46 (by omega) ?_
  exact hret 47 H locs ls _ _ hP hD hS d_LoopRanker_transition_47 (by rw [show sc + 1 - 1 = sc by omega]) (⟨lu, lw, lf, lo, lc, ln, 0, bs2x, rfl, hok, by omega, hmap, fun z => absurd rfl z⟩)
set_option maxHeartbeats 4000000 in
set_option maxRecDepth 100000 in
theorem c_LoopRanker_guard_bad (lr sa po u1 u2 l1 l2 l3 l4 : Nat) (us vs lu lw : Nat → Int32) (lf : Nat → Int64) (lo : Nat → Int32) (lc ln : Nat) (fs : Int32) (bs : List bT) (sc : Nat) (x y : Int64) (fd : Int32) (t gp gq gr : Int32) (ds : List bDt) (hI : rI us vs ds sc lu lw lf lo lc ln fs bs) (hbad : m_th sc t = 0) : wk_ki l y_LoopRanker_guard (Cond.code y_LoopRanker_guard b_LoopRanker_guard 5 (some .int) :: BW) rm_LoopRanker_guard D cls (kT cI cJ cS) nz [.ref lr, .int t, .int gp, .int gq, .int gr] (rW cI cJ cS lr sa po u1 u2 l1 l2 l3 l4 us vs lu lw lf lo lc ln fs bs sc x y fd) (fun wz => ∃ lu2 lw2 lf2 lo2 lc2 ln2 fs2 bs2, wz = rW cI cJ cS lr sa po u1 u2 l1 l2 l3 l4 us vs lu2 lw2 lf2 lo2 lc2 ln2 fs2 bs2 sc x y fd ∧ rI us vs ds sc lu2 lw2 lf2 lo2 lc2 ln2 fs2 bs2) (-1) := by
  refine ws_i (plainFor_of_name (by decide)) (Nat.le_of_ble_eq_true rfl) ?_
  intro p e s m below meth c A ls Q X hret hl hP hD hS
  obtain ⟨H, hH⟩ : ∃ H, H = s.heap := ⟨_, rfl⟩
  obtain ⟨locs, hlo⟩ : ∃ locs : List Loc, locs = [] := ⟨_, rfl⟩
  have hP : va_P D cls (rW cI cJ cS lr sa po u1 u2 l1 l2 l3 l4 us vs lu lw lf lo lc ln fs bs sc x y fd) H := by rw [hH]; exact hP
  have hS : va_S A s.heap H locs := by rw [hH, hlo]; exact hS
  suffices hgo : W p l e rm_LoopRanker_guard s m ([.ref lr, .int t, .int gp, .int gq, .int gr] : List Value).toArray below meth c H locs 0 0 Q (F0 m 0 ls ([])) by rw [hH, hlo] at hgo; exact hgo
  clear hH hlo
  have hl : lv_has ls 5 [(0, .ref lr), (1, .int t), (2, .int gp), (3, .int gq), (4, .int gr)] := hl
  have hok := hI.1
  have hmap := hI.2.2.1
  have hsc := hI.2.1
  refine lv_aload_n X.1.1 X.1.2.1 d_LoopRanker_guard_0 rfl (lv_at hl 0 rfl) ?_
  refine lv_iload_n X.1.1 X.1.2.1 d_LoopRanker_guard_1 rfl (lv_at hl 1 rfl) ?_
  refine wc_Vi [.int t] 3 0 X nz_nest (c_LoopRanker_isStep lr sa po u1 u2 l1 l2 l3 l4 us vs lu lw lf lo lc ln fs bs sc x y fd t) (cw_LoopRanker_44 X.1.2.2.2.2 X.2.2.1 (by decide)) ([]) ([]) ((List.append_nil _).symm) hP hD hS rfl rfl rfl rfl hl.1 (Nat.le_of_ble_eq_true rfl) (by decide) d_LoopRanker_guard_2 (fun H locs wn hwn hP hD hS => ?_)
  subst hwn
  rw [List.nil_append, List.append_nil] at hP hD
  have hP : va_P D cls (rW cI cJ cS lr sa po u1 u2 l1 l2 l3 l4 us vs lu lw lf lo lc ln fs bs sc x y fd) H := hP
  have hD : va_D A (rW cI cJ cS lr sa po u1 u2 l1 l2 l3 l4 us vs lu lw lf lo lc ln fs bs sc x y fd) := hD
  refine wi0_eq (tgt := 58) X.1.1 X.1.2.1 d_LoopRanker_guard_5 (by decide) (fun h5 => ?_) (fun h5 => absurd hbad h5)
  refine lv_iconst (v := (-1 : Int32)) X.1.1 X.1.2.1 d_LoopRanker_guard_58 (by decide) ?_
  exact hret 59 H locs ls _ _ hP hD hS d_LoopRanker_guard_59 (rfl) (⟨lu, lw, lf, lo, _, _, _, bs, rfl, hok, hI.2.1, hmap, hI.2.2.2⟩)
theorem guard_no {X : Prop} {a b c d : Prop} (h : a ∨ b ∨ c ∨ d) (ha : ¬ a) (hb : ¬ b) (hc : ¬ c) (hd : ¬ d) : X := by
  rcases h with z | z | z | z
  · exact absurd z ha
  · exact absurd z hb
  · exact absurd z hc
  · exact absurd z hd
set_option maxHeartbeats 4000000 in
set_option maxRecDepth 100000 in
theorem c_LoopRanker_guard_no (lr sa po u1 u2 l1 l2 l3 l4 : Nat) (us vs lu lw : Nat → Int32) (lf : Nat → Int64) (lo : Nat → Int32) (lc ln : Nat) (fs : Int32) (bs : List bT) (sc : Nat) (x y : Int64) (fd : Int32) (t : Nat) (gp gq gr : Int32) (ds : List bDt) (hI : rI us vs ds sc lu lw lf lo lc ln fs bs) (ht : t < sc) (hno : r_w gp.toInt64 9 = 0 ∨ r_w gq.toInt64 9 = 0 ∨ r_w gr.toInt64 99 = 0 ∨ (dAt ds t).2.1.1 = 4) : wk_ki l y_LoopRanker_guard (Cond.code y_LoopRanker_guard b_LoopRanker_guard 5 (some .int) :: BW) rm_LoopRanker_guard D cls (kT cI cJ cS) nz [.ref lr, .int (nI t), .int gp, .int gq, .int gr] (rW cI cJ cS lr sa po u1 u2 l1 l2 l3 l4 us vs lu lw lf lo lc ln fs bs sc x y fd) (fun wz => ∃ lu2 lw2 lf2 lo2 lc2 ln2 fs2 bs2, wz = rW cI cJ cS lr sa po u1 u2 l1 l2 l3 l4 us vs lu2 lw2 lf2 lo2 lc2 ln2 fs2 bs2 sc x y fd ∧ rI us vs ds sc lu2 lw2 lf2 lo2 lc2 ln2 fs2 bs2) (-1) := by
  refine ws_i (plainFor_of_name (by decide)) (Nat.le_of_ble_eq_true rfl) ?_
  intro p e s m below meth c A ls Q X hret hl hP hD hS
  obtain ⟨H, hH⟩ : ∃ H, H = s.heap := ⟨_, rfl⟩
  obtain ⟨locs, hlo⟩ : ∃ locs : List Loc, locs = [] := ⟨_, rfl⟩
  have hP : va_P D cls (rW cI cJ cS lr sa po u1 u2 l1 l2 l3 l4 us vs lu lw lf lo lc ln fs bs sc x y fd) H := by rw [hH]; exact hP
  have hS : va_S A s.heap H locs := by rw [hH, hlo]; exact hS
  suffices hgo : W p l e rm_LoopRanker_guard s m ([.ref lr, .int (nI t), .int gp, .int gq, .int gr] : List Value).toArray below meth c H locs 0 0 Q (F0 m 0 ls ([])) by rw [hH, hlo] at hgo; exact hgo
  clear hH hlo
  have hl : lv_has ls 5 [(0, .ref lr), (1, .int (nI t)), (2, .int gp), (3, .int gq), (4, .int gr)] := hl
  have hok := hI.1
  have hmap := hI.2.2.1
  have hsc := hI.2.1
  refine lv_aload_n X.1.1 X.1.2.1 d_LoopRanker_guard_0 rfl (lv_at hl 0 rfl) ?_
  refine lv_iload_n X.1.1 X.1.2.1 d_LoopRanker_guard_1 rfl (lv_at hl 1 rfl) ?_
  refine wc_Vi [.int (nI t)] 3 0 X nz_nest (c_LoopRanker_isStep lr sa po u1 u2 l1 l2 l3 l4 us vs lu lw lf lo lc ln fs bs sc x y fd (nI t)) (cw_LoopRanker_44 X.1.2.2.2.2 X.2.2.1 (by decide)) ([]) ([]) ((List.append_nil _).symm) hP hD hS rfl rfl rfl rfl hl.1 (Nat.le_of_ble_eq_true rfl) (by decide) d_LoopRanker_guard_2 (fun H locs wn hwn hP hD hS => ?_)
  subst hwn
  rw [List.nil_append, List.append_nil] at hP hD
  have hP : va_P D cls (rW cI cJ cS lr sa po u1 u2 l1 l2 l3 l4 us vs lu lw lf lo lc ln fs bs sc x y fd) H := hP
  have hD : va_D A (rW cI cJ cS lr sa po u1 u2 l1 l2 l3 l4 us vs lu lw lf lo lc ln fs bs sc x y fd) := hD
  refine wi0_eq (tgt := 58) X.1.1 X.1.2.1 d_LoopRanker_guard_5 (by decide) (fun h5 => absurd h5 (by rw [m_th_1 (by omega) (by omega)]; decide)) (fun h5 => ?_)
  refine lv_iload_n X.1.1 X.1.2.1 d_LoopRanker_guard_8 rfl (lv_at hl 2 rfl) ?_
  refine lv_i2l X.1.1 X.1.2.1 d_LoopRanker_guard_9 rfl ?_
  refine lv_ldc2 (v := 9) X.1.1 X.1.2.1 X.1.2.2.2.1 (X.1.2.2.2.2 _ kc_LoopRanker_48) d_LoopRanker_guard_10 ?_
  refine wc_Si [.long gp.toInt64, .long (9 : Int64)] X nz_nest (c_LoopRanker_isWithin gp.toInt64 (9 : Int64)) (cw_LoopRanker_50 X.1.2.2.2.2 X.2.2.1 (by decide)) (rW cI cJ cS lr sa po u1 u2 l1 l2 l3 l4 us vs lu lw lf lo lc ln fs bs sc x y fd) ([]) (by rw [List.append_nil, List.append_nil]) hP hD hS rfl rfl hl.1 (Nat.le_of_ble_eq_true rfl) (by decide) d_LoopRanker_guard_13 (fun H locs wn hwn hP hD hS => ?_)
  subst hwn
  rw [List.nil_append, List.append_nil] at hP hD
  have hP : va_P D cls (rW cI cJ cS lr sa po u1 u2 l1 l2 l3 l4 us vs lu lw lf lo lc ln fs bs sc x y fd) H := hP
  have hD : va_D A (rW cI cJ cS lr sa po u1 u2 l1 l2 l3 l4 us vs lu lw lf lo lc ln fs bs sc x y fd) := hD
  refine wi0_eq (tgt := 58) X.1.1 X.1.2.1 d_LoopRanker_guard_16 (by decide) (fun h16 => ?_) (fun h16 => ?_)
  · refine lv_iconst (v := (-1 : Int32)) X.1.1 X.1.2.1 d_LoopRanker_guard_58 (by decide) ?_
    exact hret 59 H locs ls _ _ hP hD hS d_LoopRanker_guard_59 (rfl) (⟨lu, lw, lf, lo, _, _, _, bs, rfl, hok, hI.2.1, hmap, hI.2.2.2⟩)
  · refine lv_iload_n X.1.1 X.1.2.1 d_LoopRanker_guard_19 rfl (lv_at hl 3 rfl) ?_
    refine lv_i2l X.1.1 X.1.2.1 d_LoopRanker_guard_20 rfl ?_
    refine lv_ldc2 (v := 9) X.1.1 X.1.2.1 X.1.2.2.2.1 (X.1.2.2.2.2 _ kc_LoopRanker_48) d_LoopRanker_guard_21 ?_
    refine wc_Si [.long gq.toInt64, .long (9 : Int64)] X nz_nest (c_LoopRanker_isWithin gq.toInt64 (9 : Int64)) (cw_LoopRanker_50 X.1.2.2.2.2 X.2.2.1 (by decide)) (rW cI cJ cS lr sa po u1 u2 l1 l2 l3 l4 us vs lu lw lf lo lc ln fs bs sc x y fd) ([]) (by rw [List.append_nil, List.append_nil]) hP hD hS rfl rfl hl.1 (Nat.le_of_ble_eq_true rfl) (by decide) d_LoopRanker_guard_24 (fun H locs wn hwn hP hD hS => ?_)
    subst hwn
    rw [List.nil_append, List.append_nil] at hP hD
    have hP : va_P D cls (rW cI cJ cS lr sa po u1 u2 l1 l2 l3 l4 us vs lu lw lf lo lc ln fs bs sc x y fd) H := hP
    have hD : va_D A (rW cI cJ cS lr sa po u1 u2 l1 l2 l3 l4 us vs lu lw lf lo lc ln fs bs sc x y fd) := hD
    refine wi0_eq (tgt := 58) X.1.1 X.1.2.1 d_LoopRanker_guard_27 (by decide) (fun h27 => ?_) (fun h27 => ?_)
    · refine lv_iconst (v := (-1 : Int32)) X.1.1 X.1.2.1 d_LoopRanker_guard_58 (by decide) ?_
      exact hret 59 H locs ls _ _ hP hD hS d_LoopRanker_guard_59 (rfl) (⟨lu, lw, lf, lo, _, _, _, bs, rfl, hok, hI.2.1, hmap, hI.2.2.2⟩)
    · refine lv_iload X.1.1 X.1.2.1 d_LoopRanker_guard_30 (lv_at hl 4 rfl) ?_
      refine lv_i2l X.1.1 X.1.2.1 d_LoopRanker_guard_32 rfl ?_
      refine lv_ldc2 (v := 99) X.1.1 X.1.2.1 X.1.2.2.2.1 (X.1.2.2.2.2 _ kc_LoopRanker_54) d_LoopRanker_guard_33 ?_
      refine wc_Si [.long gr.toInt64, .long (99 : Int64)] X nz_nest (c_LoopRanker_isWithin gr.toInt64 (99 : Int64)) (cw_LoopRanker_50 X.1.2.2.2.2 X.2.2.1 (by decide)) (rW cI cJ cS lr sa po u1 u2 l1 l2 l3 l4 us vs lu lw lf lo lc ln fs bs sc x y fd) ([]) (by rw [List.append_nil, List.append_nil]) hP hD hS rfl rfl hl.1 (Nat.le_of_ble_eq_true rfl) (by decide) d_LoopRanker_guard_36 (fun H locs wn hwn hP hD hS => ?_)
      subst hwn
      rw [List.nil_append, List.append_nil] at hP hD
      have hP : va_P D cls (rW cI cJ cS lr sa po u1 u2 l1 l2 l3 l4 us vs lu lw lf lo lc ln fs bs sc x y fd) H := hP
      have hD : va_D A (rW cI cJ cS lr sa po u1 u2 l1 l2 l3 l4 us vs lu lw lf lo lc ln fs bs sc x y fd) := hD
      refine wi0_eq (tgt := 58) X.1.1 X.1.2.1 d_LoopRanker_guard_39 (by decide) (fun h39 => ?_) (fun h39 => ?_)
      · refine lv_iconst (v := (-1 : Int32)) X.1.1 X.1.2.1 d_LoopRanker_guard_58 (by decide) ?_
        exact hret 59 H locs ls _ _ hP hD hS d_LoopRanker_guard_59 (rfl) (⟨lu, lw, lf, lo, _, _, _, bs, rfl, hok, hI.2.1, hmap, hI.2.2.2⟩)
      · refine lv_aload_n X.1.1 X.1.2.1 d_LoopRanker_guard_42 rfl (lv_at hl 0 rfl) ?_
        refine fg_LoopRanker_11 X hP 0 rfl rfl d_LoopRanker_guard_43 ?_
        refine lv_iload_n X.1.1 X.1.2.1 d_LoopRanker_guard_46 rfl (lv_at hl 1 rfl) ?_
        obtain ⟨b1, hb1⟩ := bs_get (bs := bs) (k := t) hok.1 (by omega)
        refine wa_ald X.1.1 X.1.2.1 X.2.1 hP 1 2 rfl rfl t rfl (by omega) (by decide) (bF_at hb1) d_LoopRanker_guard_47 ?_
        refine fg_LoopRanker_56 X (wb_cut hP hb1) 0 rfl rfl d_LoopRanker_guard_48 ?_
        refine fg_LoopRanker_60 X (wb_cut hP hb1) 1 rfl rfl d_LoopRanker_guard_51 ?_
        refine lv_iconst (v := (4 : Int32)) X.1.1 X.1.2.1 d_LoopRanker_guard_54 (by decide) ?_
        have hn4 := (hok.2 _ _ hb1).1
        refine wn_lt (a := b1.2.2.1.1) (b := 4) (tgt := 60) X.1.1 X.1.2.1 d_LoopRanker_guard_55 (by decide) (by omega) (by omega) (fun h55 => guard_no hno h16 h27 h39 (by rw [dAt_of hmap hb1]; show ¬ b1.2.2.1.1 = 4; omega)) (fun h55 => ?_)
        refine lv_iconst (v := (-1 : Int32)) X.1.1 X.1.2.1 d_LoopRanker_guard_58 (by decide) ?_
        exact hret 59 H locs ls _ _ hP hD hS d_LoopRanker_guard_59 (rfl) (⟨lu, lw, lf, lo, _, _, _, bs, rfl, hok, hI.2.1, hmap, hI.2.2.2⟩)
set_option maxHeartbeats 4000000 in
set_option maxRecDepth 100000 in
theorem c_LoopRanker_guard (lr sa po u1 u2 l1 l2 l3 l4 : Nat) (us vs lu lw : Nat → Int32) (lf : Nat → Int64) (lo : Nat → Int32) (lc ln : Nat) (fs : Int32) (bs : List bT) (sc : Nat) (x y : Int64) (fd : Int32) (t : Nat) (gp gq gr : Int32) (ds : List bDt) (hI : rI us vs ds sc lu lw lf lo lc ln fs bs) (ht : t < sc) (hyes : ¬ (r_w gp.toInt64 9 = 0 ∨ r_w gq.toInt64 9 = 0 ∨ r_w gr.toInt64 99 = 0 ∨ (dAt ds t).2.1.1 = 4)) : wk_ki l y_LoopRanker_guard (Cond.code y_LoopRanker_guard b_LoopRanker_guard 5 (some .int) :: BW) rm_LoopRanker_guard D cls (kT cI cJ cS) nz [.ref lr, .int (nI t), .int gp, .int gq, .int gr] (rW cI cJ cS lr sa po u1 u2 l1 l2 l3 l4 us vs lu lw lf lo lc ln fs bs sc x y fd) (fun wz => ∃ lu2 lw2 lf2 lo2 lc2 ln2 fs2 bs2, wz = rW cI cJ cS lr sa po u1 u2 l1 l2 l3 l4 us vs lu2 lw2 lf2 lo2 lc2 ln2 fs2 bs2 sc x y fd ∧ rI us vs (ds.set t (dAdd (dAt ds t) gp gq gr)) sc lu2 lw2 lf2 lo2 lc2 ln2 fs2 bs2) (nI ((dAt ds t).2.1.1 + 1)) := by
  refine ws_i (plainFor_of_name (by decide)) (Nat.le_of_ble_eq_true rfl) ?_
  intro p e s m below meth c A ls Q X hret hl hP hD hS
  obtain ⟨H, hH⟩ : ∃ H, H = s.heap := ⟨_, rfl⟩
  obtain ⟨locs, hlo⟩ : ∃ locs : List Loc, locs = [] := ⟨_, rfl⟩
  have hP : va_P D cls (rW cI cJ cS lr sa po u1 u2 l1 l2 l3 l4 us vs lu lw lf lo lc ln fs bs sc x y fd) H := by rw [hH]; exact hP
  have hS : va_S A s.heap H locs := by rw [hH, hlo]; exact hS
  suffices hgo : W p l e rm_LoopRanker_guard s m ([.ref lr, .int (nI t), .int gp, .int gq, .int gr] : List Value).toArray below meth c H locs 0 0 Q (F0 m 0 ls ([])) by rw [hH, hlo] at hgo; exact hgo
  clear hH hlo
  have hl : lv_has ls 5 [(0, .ref lr), (1, .int (nI t)), (2, .int gp), (3, .int gq), (4, .int gr)] := hl
  have hok := hI.1
  have hmap := hI.2.2.1
  have hsc := hI.2.1
  refine lv_aload_n X.1.1 X.1.2.1 d_LoopRanker_guard_0 rfl (lv_at hl 0 rfl) ?_
  refine lv_iload_n X.1.1 X.1.2.1 d_LoopRanker_guard_1 rfl (lv_at hl 1 rfl) ?_
  refine wc_Vi [.int (nI t)] 3 0 X nz_nest (c_LoopRanker_isStep lr sa po u1 u2 l1 l2 l3 l4 us vs lu lw lf lo lc ln fs bs sc x y fd (nI t)) (cw_LoopRanker_44 X.1.2.2.2.2 X.2.2.1 (by decide)) ([]) ([]) ((List.append_nil _).symm) hP hD hS rfl rfl rfl rfl hl.1 (Nat.le_of_ble_eq_true rfl) (by decide) d_LoopRanker_guard_2 (fun H locs wn hwn hP hD hS => ?_)
  subst hwn
  rw [List.nil_append, List.append_nil] at hP hD
  have hP : va_P D cls (rW cI cJ cS lr sa po u1 u2 l1 l2 l3 l4 us vs lu lw lf lo lc ln fs bs sc x y fd) H := hP
  have hD : va_D A (rW cI cJ cS lr sa po u1 u2 l1 l2 l3 l4 us vs lu lw lf lo lc ln fs bs sc x y fd) := hD
  refine wi0_eq (tgt := 58) X.1.1 X.1.2.1 d_LoopRanker_guard_5 (by decide) (fun h5 => absurd h5 (by rw [m_th_1 (by omega) (by omega)]; decide)) (fun h5 => ?_)
  refine lv_iload_n X.1.1 X.1.2.1 d_LoopRanker_guard_8 rfl (lv_at hl 2 rfl) ?_
  refine lv_i2l X.1.1 X.1.2.1 d_LoopRanker_guard_9 rfl ?_
  refine lv_ldc2 (v := 9) X.1.1 X.1.2.1 X.1.2.2.2.1 (X.1.2.2.2.2 _ kc_LoopRanker_48) d_LoopRanker_guard_10 ?_
  refine wc_Si [.long gp.toInt64, .long (9 : Int64)] X nz_nest (c_LoopRanker_isWithin gp.toInt64 (9 : Int64)) (cw_LoopRanker_50 X.1.2.2.2.2 X.2.2.1 (by decide)) (rW cI cJ cS lr sa po u1 u2 l1 l2 l3 l4 us vs lu lw lf lo lc ln fs bs sc x y fd) ([]) (by rw [List.append_nil, List.append_nil]) hP hD hS rfl rfl hl.1 (Nat.le_of_ble_eq_true rfl) (by decide) d_LoopRanker_guard_13 (fun H locs wn hwn hP hD hS => ?_)
  subst hwn
  rw [List.nil_append, List.append_nil] at hP hD
  have hP : va_P D cls (rW cI cJ cS lr sa po u1 u2 l1 l2 l3 l4 us vs lu lw lf lo lc ln fs bs sc x y fd) H := hP
  have hD : va_D A (rW cI cJ cS lr sa po u1 u2 l1 l2 l3 l4 us vs lu lw lf lo lc ln fs bs sc x y fd) := hD
  refine wi0_eq (tgt := 58) X.1.1 X.1.2.1 d_LoopRanker_guard_16 (by decide) (fun h16 => absurd (by simp [h16]) hyes) (fun h16 => ?_)
  refine lv_iload_n X.1.1 X.1.2.1 d_LoopRanker_guard_19 rfl (lv_at hl 3 rfl) ?_
  refine lv_i2l X.1.1 X.1.2.1 d_LoopRanker_guard_20 rfl ?_
  refine lv_ldc2 (v := 9) X.1.1 X.1.2.1 X.1.2.2.2.1 (X.1.2.2.2.2 _ kc_LoopRanker_48) d_LoopRanker_guard_21 ?_
  refine wc_Si [.long gq.toInt64, .long (9 : Int64)] X nz_nest (c_LoopRanker_isWithin gq.toInt64 (9 : Int64)) (cw_LoopRanker_50 X.1.2.2.2.2 X.2.2.1 (by decide)) (rW cI cJ cS lr sa po u1 u2 l1 l2 l3 l4 us vs lu lw lf lo lc ln fs bs sc x y fd) ([]) (by rw [List.append_nil, List.append_nil]) hP hD hS rfl rfl hl.1 (Nat.le_of_ble_eq_true rfl) (by decide) d_LoopRanker_guard_24 (fun H locs wn hwn hP hD hS => ?_)
  subst hwn
  rw [List.nil_append, List.append_nil] at hP hD
  have hP : va_P D cls (rW cI cJ cS lr sa po u1 u2 l1 l2 l3 l4 us vs lu lw lf lo lc ln fs bs sc x y fd) H := hP
  have hD : va_D A (rW cI cJ cS lr sa po u1 u2 l1 l2 l3 l4 us vs lu lw lf lo lc ln fs bs sc x y fd) := hD
  refine wi0_eq (tgt := 58) X.1.1 X.1.2.1 d_LoopRanker_guard_27 (by decide) (fun h27 => absurd (by simp [h27]) hyes) (fun h27 => ?_)
  refine lv_iload X.1.1 X.1.2.1 d_LoopRanker_guard_30 (lv_at hl 4 rfl) ?_
  refine lv_i2l X.1.1 X.1.2.1 d_LoopRanker_guard_32 rfl ?_
  refine lv_ldc2 (v := 99) X.1.1 X.1.2.1 X.1.2.2.2.1 (X.1.2.2.2.2 _ kc_LoopRanker_54) d_LoopRanker_guard_33 ?_
  refine wc_Si [.long gr.toInt64, .long (99 : Int64)] X nz_nest (c_LoopRanker_isWithin gr.toInt64 (99 : Int64)) (cw_LoopRanker_50 X.1.2.2.2.2 X.2.2.1 (by decide)) (rW cI cJ cS lr sa po u1 u2 l1 l2 l3 l4 us vs lu lw lf lo lc ln fs bs sc x y fd) ([]) (by rw [List.append_nil, List.append_nil]) hP hD hS rfl rfl hl.1 (Nat.le_of_ble_eq_true rfl) (by decide) d_LoopRanker_guard_36 (fun H locs wn hwn hP hD hS => ?_)
  subst hwn
  rw [List.nil_append, List.append_nil] at hP hD
  have hP : va_P D cls (rW cI cJ cS lr sa po u1 u2 l1 l2 l3 l4 us vs lu lw lf lo lc ln fs bs sc x y fd) H := hP
  have hD : va_D A (rW cI cJ cS lr sa po u1 u2 l1 l2 l3 l4 us vs lu lw lf lo lc ln fs bs sc x y fd) := hD
  refine wi0_eq (tgt := 58) X.1.1 X.1.2.1 d_LoopRanker_guard_39 (by decide) (fun h39 => absurd (by simp [h39]) hyes) (fun h39 => ?_)
  refine lv_aload_n X.1.1 X.1.2.1 d_LoopRanker_guard_42 rfl (lv_at hl 0 rfl) ?_
  refine fg_LoopRanker_11 X hP 0 rfl rfl d_LoopRanker_guard_43 ?_
  refine lv_iload_n X.1.1 X.1.2.1 d_LoopRanker_guard_46 rfl (lv_at hl 1 rfl) ?_
  obtain ⟨b1, hb1⟩ := bs_get (bs := bs) (k := t) hok.1 (by omega)
  refine wa_ald X.1.1 X.1.2.1 X.2.1 hP 1 2 rfl rfl t rfl (by omega) (by decide) (bF_at hb1) d_LoopRanker_guard_47 ?_
  refine fg_LoopRanker_56 X (wb_cut hP hb1) 0 rfl rfl d_LoopRanker_guard_48 ?_
  refine fg_LoopRanker_60 X (wb_cut hP hb1) 1 rfl rfl d_LoopRanker_guard_51 ?_
  refine lv_iconst (v := (4 : Int32)) X.1.1 X.1.2.1 d_LoopRanker_guard_54 (by decide) ?_
  have hn4 := (hok.2 _ _ hb1).1
  refine wn_lt (a := b1.2.2.1.1) (b := 4) (tgt := 60) X.1.1 X.1.2.1 d_LoopRanker_guard_55 (by decide) (by omega) (by omega) (fun h55 => ?_) (fun h55 => absurd (by rw [dAt_of hmap hb1]; exact Or.inr (Or.inr (Or.inr (show b1.2.2.1.1 = 4 by omega)))) hyes)
  have hd0 : (dAt ds t).2.1.1 = b1.2.2.1.1 := by rw [dAt_of hmap hb1]; rfl
  refine lv_aload_n X.1.1 X.1.2.1 d_LoopRanker_guard_60 rfl (lv_at hl 0 rfl) ?_
  refine fg_LoopRanker_11 X hP 0 rfl rfl d_LoopRanker_guard_61 ?_
  refine lv_iload_n X.1.1 X.1.2.1 d_LoopRanker_guard_64 rfl (lv_at hl 1 rfl) ?_
  refine wa_ald X.1.1 X.1.2.1 X.2.1 hP 1 2 rfl rfl t rfl (by omega) (by decide) (bF_at hb1) d_LoopRanker_guard_65 ?_
  refine lv_iload_n X.1.1 X.1.2.1 d_LoopRanker_guard_66 rfl (lv_at hl 2 rfl) ?_
  refine lv_iload_n X.1.1 X.1.2.1 d_LoopRanker_guard_67 rfl (lv_at hl 3 rfl) ?_
  refine lv_iload X.1.1 X.1.2.1 d_LoopRanker_guard_68 (lv_at hl 4 rfl) ?_
  refine wb_Nv [.int gp, .int gq, .int gr] 1 0 X nz_nest (c_Step_addRow (b1.1 0) (b1.1 1) (b1.1 2) (b1.1 3) (b1.1 4) (b1.1 5) (b1.1 6) b1.2.1.1 b1.2.1.2.1 b1.2.1.2.2 b1.2.2.1.1 b1.2.2.1.2 b1.2.2.2.1.1 b1.2.2.2.1.2 b1.2.2.2.2.1 b1.2.2.2.2.2.1 b1.2.2.2.2.2.2 gp gq gr (by omega)) (cw_LoopRanker_65 X.1.2.2.2.2 X.2.2.1 (by decide)) _ hb1 [] [] rfl hP hD hS rfl rfl rfl rfl hl.1 (Nat.le_of_ble_eq_true rfl) (by decide) d_LoopRanker_guard_70 (fun H locs wn hwn hall hS => ?_)
  obtain ⟨t1, c1, rfl⟩ := hwn
  obtain ⟨hP, hD⟩ := hall ((b1.1, (upd b1.2.1.1 b1.2.2.1.1 gp, upd b1.2.1.2.1 b1.2.2.1.1 gq, upd b1.2.1.2.2 b1.2.2.1.1 gr), (b1.2.2.1.1 + 1, g_em b1.2.1.1 b1.2.1.2.1 b1.2.1.2.2 b1.2.2.1.1 b1.2.2.1.2 gp gq gr), (t1, c1), (b1.2.2.2.2.1, b1.2.2.2.2.2.1, 0))) rfl
  rw [← bF_set (b' := (b1.1, (upd b1.2.1.1 b1.2.2.1.1 gp, upd b1.2.1.2.1 b1.2.2.1.1 gq, upd b1.2.1.2.2 b1.2.2.1.1 gr), (b1.2.2.1.1 + 1, g_em b1.2.1.1 b1.2.1.2.1 b1.2.1.2.2 b1.2.2.1.1 b1.2.2.1.2 gp gq gr), (t1, c1), (b1.2.2.2.2.1, b1.2.2.2.2.2.1, 0))) hb1 rfl] at hP hD
  have hok := bsOK_set (b := (b1.1, (upd b1.2.1.1 b1.2.2.1.1 gp, upd b1.2.1.2.1 b1.2.2.1.1 gq, upd b1.2.1.2.2 b1.2.2.1.1 gr), (b1.2.2.1.1 + 1, g_em b1.2.1.1 b1.2.1.2.1 b1.2.1.2.2 b1.2.2.1.1 b1.2.2.1.2 gp gq gr), (t1, c1), (b1.2.2.2.2.1, b1.2.2.2.2.2.1, 0))) hok t (⟨by show b1.2.2.1.1 + 1 ≤ 4; omega, g_em_01 _ _ _ _ _ _ _ _ (hok.2 _ _ hb1).2.1, fun z => absurd rfl z, fun z => absurd rfl z⟩)
  have hmap : (bs.set t ((b1.1, (upd b1.2.1.1 b1.2.2.1.1 gp, upd b1.2.1.2.1 b1.2.2.1.1 gq, upd b1.2.1.2.2 b1.2.2.1.1 gr), (b1.2.2.1.1 + 1, g_em b1.2.1.1 b1.2.1.2.1 b1.2.1.2.2 b1.2.2.1.1 b1.2.2.1.2 gp gq gr), (t1, c1), (b1.2.2.2.2.1, b1.2.2.2.2.2.1, 0)))).map bD = ds.set t (dAdd (dAt ds t) gp gq gr) := by rw [bs_map_set hmap, dAt_of hmap hb1]; rfl
  have hb2x : (bs.set t ((b1.1, (upd b1.2.1.1 b1.2.2.1.1 gp, upd b1.2.1.2.1 b1.2.2.1.1 gq, upd b1.2.1.2.2 b1.2.2.1.1 gr), (b1.2.2.1.1 + 1, g_em b1.2.1.1 b1.2.1.2.1 b1.2.1.2.2 b1.2.2.1.1 b1.2.2.1.2 gp gq gr), (t1, c1), (b1.2.2.2.2.1, b1.2.2.2.2.2.1, 0))))[t]? = some ((b1.1, (upd b1.2.1.1 b1.2.2.1.1 gp, upd b1.2.1.2.1 b1.2.2.1.1 gq, upd b1.2.1.2.2 b1.2.2.1.1 gr), (b1.2.2.1.1 + 1, g_em b1.2.1.1 b1.2.1.2.1 b1.2.1.2.2 b1.2.2.1.1 b1.2.2.1.2 gp gq gr), (t1, c1), (b1.2.2.2.2.1, b1.2.2.2.2.2.1, 0))) := bs_set_at hb1
  generalize hgen : bs.set t ((b1.1, (upd b1.2.1.1 b1.2.2.1.1 gp, upd b1.2.1.2.1 b1.2.2.1.1 gq, upd b1.2.1.2.2 b1.2.2.1.1 gr), (b1.2.2.1.1 + 1, g_em b1.2.1.1 b1.2.1.2.1 b1.2.1.2.2 b1.2.2.1.1 b1.2.2.1.2 gp gq gr), (t1, c1), (b1.2.2.2.2.1, b1.2.2.2.2.2.1, 0))) = bs2x at hP hD hok hmap hb2x
  have hP : va_P D cls (rW cI cJ cS lr sa po u1 u2 l1 l2 l3 l4 us vs lu lw lf lo lc ln fs bs2x sc x y fd) H := hP
  have hD : va_D A (rW cI cJ cS lr sa po u1 u2 l1 l2 l3 l4 us vs lu lw lf lo lc ln fs bs2x sc x y fd) := hD
  refine lv_aload_n X.1.1 X.1.2.1 d_LoopRanker_guard_73 rfl (lv_at hl 0 rfl) ?_
  refine fg_LoopRanker_19 X hP 0 rfl rfl d_LoopRanker_guard_74 ?_
  refine lv_iconst (v := (0 : Int32)) X.1.1 X.1.2.1 d_LoopRanker_guard_77 (by decide) ?_
  refine fp_LoopRanker_40 X hP hD hS 2 rfl rfl rfl rfl d_LoopRanker_guard_78 (fun H locs hP hD hS => ?_)
  have hP : va_P D cls (rW cI cJ cS lr sa po u1 u2 l1 l2 l3 l4 us vs lu lw lf lo lc ln (0 : Int32) bs2x sc x y fd) H := hP
  have hD : va_D A (rW cI cJ cS lr sa po u1 u2 l1 l2 l3 l4 us vs lu lw lf lo lc ln (0 : Int32) bs2x sc x y fd) := hD
  refine lv_aload_n X.1.1 X.1.2.1 d_LoopRanker_guard_81 rfl (lv_at hl 0 rfl) ?_
  refine fg_LoopRanker_11 X hP 0 rfl rfl d_LoopRanker_guard_82 ?_
  refine lv_iload_n X.1.1 X.1.2.1 d_LoopRanker_guard_85 rfl (lv_at hl 1 rfl) ?_
  refine wa_ald X.1.1 X.1.2.1 X.2.1 hP 1 2 rfl rfl t rfl (by omega) (by decide) (bF_at hb2x) d_LoopRanker_guard_86 ?_
  refine fg_LoopRanker_56 X (wb_cut hP hb2x) 0 rfl rfl d_LoopRanker_guard_87 ?_
  refine fg_LoopRanker_60 X (wb_cut hP hb2x) 1 rfl rfl d_LoopRanker_guard_90 ?_
  exact hret 93 H locs ls _ _ hP hD hS d_LoopRanker_guard_93 (by rw [hd0]) (⟨lu, lw, lf, lo, lc, ln, 0, bs2x, rfl, hok, by omega, hmap, fun z => absurd rfl z⟩)
end CT
