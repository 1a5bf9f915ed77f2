section CT
variable {l : Launch} {D : va_G} {cI cJ cS : ClassId}
set_option maxHeartbeats 4000000 in
set_option maxRecDepth 100000 in
theorem c_LoopRanker_levels (lr sa po u1 u2 l1 l2 l3 l4 : Nat) (us vs lu lw : Nat → Int32) (lf : Nat → Int64) (lo : Nat → Int32) (lc ln : Nat) (fs : Int32) (bs : List bT) (sc : Nat) (x y : Int64) (fd : Int32) (ds : List bDt) (hI : rI us vs ds sc lu lw lf lo lc ln fs bs) : wk_ki l y_LoopRanker_levels (Cond.code y_LoopRanker_levels b_LoopRanker_levels 1 (some .int) :: BW) rm_LoopRanker_levels D cls (kT cI cJ cS) nz [.ref lr] (rW cI cJ cS lr sa po u1 u2 l1 l2 l3 l4 us vs lu lw lf lo lc ln fs bs sc x y fd) (fun wz => ∃ lu2 lw2 lf2 lo2 lc2 ln2 fs2 bs2, wz = rW cI cJ cS lr sa po u1 u2 l1 l2 l3 l4 us vs lu2 lw2 lf2 lo2 lc2 ln2 fs2 bs2 sc x y fd ∧ rI us vs ds sc lu2 lw2 lf2 lo2 lc2 ln2 fs2 bs2) (nI (c_fin ds us vs sc).2.length) := by
  refine ws_i (plainFor_of_name (by decide)) (Nat.le_of_ble_eq_true rfl) ?_
  intro p e s m below meth c A ls Q X hret hl hP hD hS
  obtain ⟨H, hH⟩ : ∃ H, H = s.heap := ⟨_, rfl⟩
  obtain ⟨locs, hlo⟩ : ∃ locs : List Loc, locs = [] := ⟨_, rfl⟩
  have hP : va_P D cls (rW cI cJ cS lr sa po u1 u2 l1 l2 l3 l4 us vs lu lw lf lo lc ln fs bs sc x y fd) H := by rw [hH]; exact hP
  have hS : va_S A s.heap H locs := by rw [hH, hlo]; exact hS
  suffices hgo : W p l e rm_LoopRanker_levels s m ([.ref lr] : List Value).toArray below meth c H locs 0 0 Q (F0 m 0 ls ([])) by rw [hH, hlo] at hgo; exact hgo
  clear hH hlo
  have hl : lv_has ls 1 [(0, .ref lr)] := hl
  have hok := hI.1
  have hmap := hI.2.2.1
  have hsc := hI.2.1
  refine lv_aload_n X.1.1 X.1.2.1 d_LoopRanker_levels_0 rfl (lv_at hl 0 rfl) ?_
  refine fg_LoopRanker_19 X hP 0 rfl rfl d_LoopRanker_levels_1 ?_
  refine lv_aload_n X.1.1 X.1.2.1 d_LoopRanker_levels_4 rfl (lv_at hl 0 rfl) ?_
  refine fg_LoopRanker_11 X hP 0 rfl rfl d_LoopRanker_levels_5 ?_
  refine lv_aload_n X.1.1 X.1.2.1 d_LoopRanker_levels_8 rfl (lv_at hl 0 rfl) ?_
  refine fg_LoopRanker_23 X hP 0 rfl rfl d_LoopRanker_levels_9 ?_
  refine wc_Nv [.ref sa, .int (nI sc)] 2 1 X nz_nest (c_Proof_renew sa po u1 u2 l1 l2 l3 l4 us vs lu lw lf lo lc ln fs bs sc ds hI.2.2.1 hI.1 hI.2.1 hI.2.2.2) (cw_LoopRanker_107 X.1.2.2.2.2 X.2.2.1 (by decide)) ([(lr, .inr (3, [.ref sa, .ref po, .int (nI sc), .long x, .long y, .int fd]))]) ([]) (by rw [List.append_nil]; rfl) hP hD hS rfl rfl rfl rfl hl.1 (Nat.le_of_ble_eq_true rfl) (by decide) d_LoopRanker_levels_12 (fun H locs wn hwn hP hD hS => ?_)
  obtain ⟨lu2, lw2, lf2, lo2, lc2, ln2, bs2, rfl, hok2, hmap2, hPR⟩ := hwn
  rw [List.append_nil] at hP hD
  have hP : va_P D cls (rW cI cJ cS lr sa po u1 u2 l1 l2 l3 l4 us vs lu2 lw2 lf2 lo2 lc2 ln2 1 bs2 sc x y fd) H := hP
  have hD : va_D A (rW cI cJ cS lr sa po u1 u2 l1 l2 l3 l4 us vs lu2 lw2 lf2 lo2 lc2 ln2 1 bs2 sc x y fd) := hD
  obtain ⟨elc, eln, elo, ehas⟩ := c_PR_fin hPR
  have hlen := c_fin_len ds us vs sc
  have hlfl := c_lf_le (c_fin ds us vs sc).1 sc 0 0
  refine lv_aload_n X.1.1 X.1.2.1 d_LoopRanker_levels_15 rfl (lv_at hl 0 rfl) ?_
  refine fg_LoopRanker_19 X hP 0 rfl rfl d_LoopRanker_levels_16 ?_
  refine fg_LoopRanker_111 X hP 2 rfl rfl d_LoopRanker_levels_19 ?_
  exact hret 22 H locs ls _ _ hP hD hS d_LoopRanker_levels_22 (by rw [elc]) (⟨lu2, lw2, lf2, lo2, lc2, ln2, 1, bs2, rfl, hok2, hI.2.1, hmap2, fun _ => ⟨rfl, hPR⟩⟩)
set_option maxHeartbeats 4000000 in
set_option maxRecDepth 100000 in
theorem c_LoopRanker_proven (lr sa po u1 u2 l1 l2 l3 l4 : Nat) (us vs lu lw : Nat → Int32) (lf : Nat → Int64) (lo : Nat → Int32) (lc ln : Nat) (fs : Int32) (bs : List bT) (sc : Nat) (x y : Int64) (fd : Int32) (ds : List bDt) (hI : rI us vs ds sc lu lw lf lo lc ln fs bs) : wk_ki l y_LoopRanker_proven (Cond.code y_LoopRanker_proven b_LoopRanker_proven 1 (some .boolean) :: BW) rm_LoopRanker_proven D cls (kT cI cJ cS) nz [.ref lr] (rW cI cJ cS lr sa po u1 u2 l1 l2 l3 l4 us vs lu lw lf lo lc ln fs bs sc x y fd) (fun wz => ∃ lu2 lw2 lf2 lo2 lc2 ln2 fs2 bs2, wz = rW cI cJ cS lr sa po u1 u2 l1 l2 l3 l4 us vs lu2 lw2 lf2 lo2 lc2 ln2 fs2 bs2 sc x y fd ∧ rI us vs ds sc lu2 lw2 lf2 lo2 lc2 ln2 fs2 bs2) (if c_lf (c_fin ds us vs sc).1 sc 0 0 = 0 then 1 else 0) := by
  refine ws_z (plainFor_of_name (by decide)) (Nat.le_of_ble_eq_true rfl) ?_
  intro p e s m below meth c A ls Q X hret hl hP hD hS
  obtain ⟨H, hH⟩ : ∃ H, H = s.heap := ⟨_, rfl⟩
  obtain ⟨locs, hlo⟩ : ∃ locs : List Loc, locs = [] := ⟨_, rfl⟩
  have hP : va_P D cls (rW cI cJ cS lr sa po u1 u2 l1 l2 l3 l4 us vs lu lw lf lo lc ln fs bs sc x y fd) H := by rw [hH]; exact hP
  have hS : va_S A s.heap H locs := by rw [hH, hlo]; exact hS
  suffices hgo : W p l e rm_LoopRanker_proven s m ([.ref lr] : List Value).toArray below meth c H locs 0 0 Q (F0 m 0 ls ([])) by rw [hH, hlo] at hgo; exact hgo
  clear hH hlo
  have hl : lv_has ls 1 [(0, .ref lr)] := hl
  have hok := hI.1
  have hmap := hI.2.2.1
  have hsc := hI.2.1
  refine lv_aload_n X.1.1 X.1.2.1 d_LoopRanker_proven_0 rfl (lv_at hl 0 rfl) ?_
  refine fg_LoopRanker_19 X hP 0 rfl rfl d_LoopRanker_proven_1 ?_
  refine lv_aload_n X.1.1 X.1.2.1 d_LoopRanker_proven_4 rfl (lv_at hl 0 rfl) ?_
  refine fg_LoopRanker_11 X hP 0 rfl rfl d_LoopRanker_proven_5 ?_
  refine lv_aload_n X.1.1 X.1.2.1 d_LoopRanker_proven_8 rfl (lv_at hl 0 rfl) ?_
  refine fg_LoopRanker_23 X hP 0 rfl rfl d_LoopRanker_proven_9 ?_
  refine wc_Nv [.ref sa, .int (nI sc)] 2 1 X nz_nest (c_Proof_renew sa po u1 u2 l1 l2 l3 l4 us vs lu lw lf lo lc ln fs bs sc ds hI.2.2.1 hI.1 hI.2.1 hI.2.2.2) (cw_LoopRanker_107 X.1.2.2.2.2 X.2.2.1 (by decide)) ([(lr, .inr (3, [.ref sa, .ref po, .int (nI sc), .long x, .long y, .int fd]))]) ([]) (by rw [List.append_nil]; rfl) hP hD hS rfl rfl rfl rfl hl.1 (Nat.le_of_ble_eq_true rfl) (by decide) d_LoopRanker_proven_12 (fun H locs wn hwn hP hD hS => ?_)
  obtain ⟨lu2, lw2, lf2, lo2, lc2, ln2, bs2, rfl, hok2, hmap2, hPR⟩ := hwn
  rw [List.append_nil] at hP hD
  have hP : va_P D cls (rW cI cJ cS lr sa po u1 u2 l1 l2 l3 l4 us vs lu2 lw2 lf2 lo2 lc2 ln2 1 bs2 sc x y fd) H := hP
  have hD : va_D A (rW cI cJ cS lr sa po u1 u2 l1 l2 l3 l4 us vs lu2 lw2 lf2 lo2 lc2 ln2 1 bs2 sc x y fd) := hD
  obtain ⟨elc, eln, elo, ehas⟩ := c_PR_fin hPR
  have hlen := c_fin_len ds us vs sc
  have hlfl := c_lf_le (c_fin ds us vs sc).1 sc 0 0
  refine lv_aload_n X.1.1 X.1.2.1 d_LoopRanker_proven_15 rfl (lv_at hl 0 rfl) ?_
  refine fg_LoopRanker_19 X hP 0 rfl rfl d_LoopRanker_proven_16 ?_
  refine fg_LoopRanker_114 X hP 2 rfl rfl d_LoopRanker_proven_19 ?_
  refine wn_if_ne (a := ln2) (tgt := 29) X.1.1 X.1.2.1 d_LoopRanker_proven_22 (by decide) (by omega) (fun h22 => ?_) (fun h22 => ?_)
  · refine lv_iconst (v := (0 : Int32)) X.1.1 X.1.2.1 d_LoopRanker_proven_29 (by decide) ?_
    exact hret 30 H locs ls _ _ hP hD hS d_LoopRanker_proven_30 (Or.inl rfl) (by rw [← eln]; first | (simp only [if_neg h22]; done) | simp [h22]) (⟨lu2, lw2, lf2, lo2, lc2, ln2, 1, bs2, rfl, hok2, hI.2.1, hmap2, fun _ => ⟨rfl, hPR⟩⟩)
  · refine lv_iconst (v := (1 : Int32)) X.1.1 X.1.2.1 d_LoopRanker_proven_25 (by decide) ?_
    refine lv_goto (tgt := 30) X.1.1 X.1.2.1 d_LoopRanker_proven_26 (by decide) ?_
    exact hret 30 H locs ls _ _ hP hD hS d_LoopRanker_proven_30 (Or.inr rfl) (by rw [← eln]; first | (simp only [if_pos h22]; done) | simp [h22]) (⟨lu2, lw2, lf2, lo2, lc2, ln2, 1, bs2, rfl, hok2, hI.2.1, hmap2, fun _ => ⟨rfl, hPR⟩⟩)
set_option maxHeartbeats 4000000 in
set_option maxRecDepth 100000 in
theorem c_LoopRanker_levelOf_bad (lr sa po u1 u2 l1 l2 l3 l4 : Nat) (us vs lu lw : Nat → Int32) (lf : Nat → Int64) (lo : Nat → Int32) (lc ln : Nat) (fs : Int32) (bs : List bT) (sc : Nat) (x y : Int64) (fd : Int32) (t : Int32) (ds : List bDt) (hI : rI us vs ds sc lu lw lf lo lc ln fs bs) (hbad : m_th sc t = 0) : wk_ki l y_LoopRanker_levelOf (Cond.code y_LoopRanker_levelOf b_LoopRanker_levelOf 2 (some .int) :: BW) rm_LoopRanker_levelOf D cls (kT cI cJ cS) nz [.ref lr, .int t] (rW cI cJ cS lr sa po u1 u2 l1 l2 l3 l4 us vs lu lw lf lo lc ln fs bs sc x y fd) (fun wz => ∃ lu2 lw2 lf2 lo2 lc2 ln2 fs2 bs2, wz = rW cI cJ cS lr sa po u1 u2 l1 l2 l3 l4 us vs lu2 lw2 lf2 lo2 lc2 ln2 fs2 bs2 sc x y fd ∧ rI us vs ds sc lu2 lw2 lf2 lo2 lc2 ln2 fs2 bs2) (-1) := by
  refine ws_i (plainFor_of_name (by decide)) (Nat.le_of_ble_eq_true rfl) ?_
  intro p e s m below meth c A ls Q X hret hl hP hD hS
  obtain ⟨H, hH⟩ : ∃ H, H = s.heap := ⟨_, rfl⟩
  obtain ⟨locs, hlo⟩ : ∃ locs : List Loc, locs = [] := ⟨_, rfl⟩
  have hP : va_P D cls (rW cI cJ cS lr sa po u1 u2 l1 l2 l3 l4 us vs lu lw lf lo lc ln fs bs sc x y fd) H := by rw [hH]; exact hP
  have hS : va_S A s.heap H locs := by rw [hH, hlo]; exact hS
  suffices hgo : W p l e rm_LoopRanker_levelOf s m ([.ref lr, .int t] : List Value).toArray below meth c H locs 0 0 Q (F0 m 0 ls ([])) by rw [hH, hlo] at hgo; exact hgo
  clear hH hlo
  have hl : lv_has ls 2 [(0, .ref lr), (1, .int t)] := hl
  have hok := hI.1
  have hmap := hI.2.2.1
  have hsc := hI.2.1
  refine lv_aload_n X.1.1 X.1.2.1 d_LoopRanker_levelOf_0 rfl (lv_at hl 0 rfl) ?_
  refine fg_LoopRanker_19 X hP 0 rfl rfl d_LoopRanker_levelOf_1 ?_
  refine lv_aload_n X.1.1 X.1.2.1 d_LoopRanker_levelOf_4 rfl (lv_at hl 0 rfl) ?_
  refine fg_LoopRanker_11 X hP 0 rfl rfl d_LoopRanker_levelOf_5 ?_
  refine lv_aload_n X.1.1 X.1.2.1 d_LoopRanker_levelOf_8 rfl (lv_at hl 0 rfl) ?_
  refine fg_LoopRanker_23 X hP 0 rfl rfl d_LoopRanker_levelOf_9 ?_
  refine wc_Nv [.ref sa, .int (nI sc)] 2 1 X nz_nest (c_Proof_renew sa po u1 u2 l1 l2 l3 l4 us vs lu lw lf lo lc ln fs bs sc ds hI.2.2.1 hI.1 hI.2.1 hI.2.2.2) (cw_LoopRanker_107 X.1.2.2.2.2 X.2.2.1 (by decide)) ([(lr, .inr (3, [.ref sa, .ref po, .int (nI sc), .long x, .long y, .int fd]))]) ([]) (by rw [List.append_nil]; rfl) hP hD hS rfl rfl rfl rfl hl.1 (Nat.le_of_ble_eq_true rfl) (by decide) d_LoopRanker_levelOf_12 (fun H locs wn hwn hP hD hS => ?_)
  obtain ⟨lu2, lw2, lf2, lo2, lc2, ln2, bs2, rfl, hok2, hmap2, hPR⟩ := hwn
  rw [List.append_nil] at hP hD
  have hP : va_P D cls (rW cI cJ cS lr sa po u1 u2 l1 l2 l3 l4 us vs lu2 lw2 lf2 lo2 lc2 ln2 1 bs2 sc x y fd) H := hP
  have hD : va_D A (rW cI cJ cS lr sa po u1 u2 l1 l2 l3 l4 us vs lu2 lw2 lf2 lo2 lc2 ln2 1 bs2 sc x y fd) := hD
  refine lv_aload_n X.1.1 X.1.2.1 d_LoopRanker_levelOf_15 rfl (lv_at hl 0 rfl) ?_
  refine lv_iload_n X.1.1 X.1.2.1 d_LoopRanker_levelOf_16 rfl (lv_at hl 1 rfl) ?_
  refine wc_Vi [.int t] 3 0 X nz_nest (c_LoopRanker_isStep lr sa po u1 u2 l1 l2 l3 l4 us vs lu2 lw2 lf2 lo2 lc2 ln2 1 bs2 sc x y fd t) (cw_LoopRanker_44 X.1.2.2.2.2 X.2.2.1 (by decide)) ([]) ([]) ((List.append_nil _).symm) hP hD hS rfl rfl rfl rfl hl.1 (Nat.le_of_ble_eq_true rfl) (by decide) d_LoopRanker_levelOf_17 (fun H locs wn hwn hP hD hS => ?_)
  subst hwn
  rw [List.nil_append, List.append_nil] at hP hD
  have hP : va_P D cls (rW cI cJ cS lr sa po u1 u2 l1 l2 l3 l4 us vs lu2 lw2 lf2 lo2 lc2 ln2 1 bs2 sc x y fd) H := hP
  have hD : va_D A (rW cI cJ cS lr sa po u1 u2 l1 l2 l3 l4 us vs lu2 lw2 lf2 lo2 lc2 ln2 1 bs2 sc x y fd) := hD
  refine wi0_eq (tgt := 35) X.1.1 X.1.2.1 d_LoopRanker_levelOf_20 (by decide) (fun h20 => ?_) (fun h20 => absurd hbad h20)
  refine lv_iconst (v := (-1 : Int32)) X.1.1 X.1.2.1 d_LoopRanker_levelOf_35 (by decide) ?_
  exact hret 36 H locs ls _ _ hP hD hS d_LoopRanker_levelOf_36 (rfl) (⟨lu2, lw2, lf2, lo2, lc2, ln2, 1, bs2, rfl, hok2, hI.2.1, hmap2, fun _ => ⟨rfl, hPR⟩⟩)
set_option maxHeartbeats 4000000 in
set_option maxRecDepth 100000 in
theorem c_LoopRanker_levelOf (lr sa po u1 u2 l1 l2 l3 l4 : Nat) (us vs lu lw : Nat → Int32) (lf : Nat → Int64) (lo : Nat → Int32) (lc ln : Nat) (fs : Int32) (bs : List bT) (sc : Nat) (x y : Int64) (fd : Int32) (t : Nat) (ds : List bDt) (hI : rI us vs ds sc lu lw lf lo lc ln fs bs) (ht : t < sc) : wk_ki l y_LoopRanker_levelOf (Cond.code y_LoopRanker_levelOf b_LoopRanker_levelOf 2 (some .int) :: BW) rm_LoopRanker_levelOf D cls (kT cI cJ cS) nz [.ref lr, .int (nI t)] (rW cI cJ cS lr sa po u1 u2 l1 l2 l3 l4 us vs lu lw lf lo lc ln fs bs sc x y fd) (fun wz => ∃ lu2 lw2 lf2 lo2 lc2 ln2 fs2 bs2, wz = rW cI cJ cS lr sa po u1 u2 l1 l2 l3 l4 us vs lu2 lw2 lf2 lo2 lc2 ln2 fs2 bs2 sc x y fd ∧ rI us vs ds sc lu2 lw2 lf2 lo2 lc2 ln2 fs2 bs2) ((c_fin ds us vs sc).1 t) := by
  refine ws_i (plainFor_of_name (by decide)) (Nat.le_of_ble_eq_true rfl) ?_
  intro p e s m below meth c A ls Q X hret hl hP hD hS
  obtain ⟨H, hH⟩ : ∃ H, H = s.heap := ⟨_, rfl⟩
  obtain ⟨locs, hlo⟩ : ∃ locs : List Loc, locs = [] := ⟨_, rfl⟩
  have hP : va_P D cls (rW cI cJ cS lr sa po u1 u2 l1 l2 l3 l4 us vs lu lw lf lo lc ln fs bs sc x y fd) H := by rw [hH]; exact hP
  have hS : va_S A s.heap H locs := by rw [hH, hlo]; exact hS
  suffices hgo : W p l e rm_LoopRanker_levelOf s m ([.ref lr, .int (nI t)] : List Value).toArray below meth c H locs 0 0 Q (F0 m 0 ls ([])) by rw [hH, hlo] at hgo; exact hgo
  clear hH hlo
  have hl : lv_has ls 2 [(0, .ref lr), (1, .int (nI t))] := hl
  have hok := hI.1
  have hmap := hI.2.2.1
  have hsc := hI.2.1
  refine lv_aload_n X.1.1 X.1.2.1 d_LoopRanker_levelOf_0 rfl (lv_at hl 0 rfl) ?_
  refine fg_LoopRanker_19 X hP 0 rfl rfl d_LoopRanker_levelOf_1 ?_
  refine lv_aload_n X.1.1 X.1.2.1 d_LoopRanker_levelOf_4 rfl (lv_at hl 0 rfl) ?_
  refine fg_LoopRanker_11 X hP 0 rfl rfl d_LoopRanker_levelOf_5 ?_
  refine lv_aload_n X.1.1 X.1.2.1 d_LoopRanker_levelOf_8 rfl (lv_at hl 0 rfl) ?_
  refine fg_LoopRanker_23 X hP 0 rfl rfl d_LoopRanker_levelOf_9 ?_
  refine wc_Nv [.ref sa, .int (nI sc)] 2 1 X nz_nest (c_Proof_renew sa po u1 u2 l1 l2 l3 l4 us vs lu lw lf lo lc ln fs bs sc ds hI.2.2.1 hI.1 hI.2.1 hI.2.2.2) (cw_LoopRanker_107 X.1.2.2.2.2 X.2.2.1 (by decide)) ([(lr, .inr (3, [.ref sa, .ref po, .int (nI sc), .long x, .long y, .int fd]))]) ([]) (by rw [List.append_nil]; rfl) hP hD hS rfl rfl rfl rfl hl.1 (Nat.le_of_ble_eq_true rfl) (by decide) d_LoopRanker_levelOf_12 (fun H locs wn hwn hP hD hS => ?_)
  obtain ⟨lu2, lw2, lf2, lo2, lc2, ln2, bs2, rfl, hok2, hmap2, hPR⟩ := hwn
  rw [List.append_nil] at hP hD
  have hP : va_P D cls (rW cI cJ cS lr sa po u1 u2 l1 l2 l3 l4 us vs lu2 lw2 lf2 lo2 lc2 ln2 1 bs2 sc x y fd) H := hP
  have hD : va_D A (rW cI cJ cS lr sa po u1 u2 l1 l2 l3 l4 us vs lu2 lw2 lf2 lo2 lc2 ln2 1 bs2 sc x y fd) := hD
  obtain ⟨elc, eln, elo, ehas⟩ := c_PR_fin hPR
  have hlen := c_fin_len ds us vs sc
  have hlfl := c_lf_le (c_fin ds us vs sc).1 sc 0 0
  refine lv_aload_n X.1.1 X.1.2.1 d_LoopRanker_levelOf_15 rfl (lv_at hl 0 rfl) ?_
  refine lv_iload_n X.1.1 X.1.2.1 d_LoopRanker_levelOf_16 rfl (lv_at hl 1 rfl) ?_
  refine wc_Vi [.int (nI t)] 3 0 X nz_nest (c_LoopRanker_isStep lr sa po u1 u2 l1 l2 l3 l4 us vs lu2 lw2 lf2 lo2 lc2 ln2 1 bs2 sc x y fd (nI t)) (cw_LoopRanker_44 X.1.2.2.2.2 X.2.2.1 (by decide)) ([]) ([]) ((List.append_nil _).symm) hP hD hS rfl rfl rfl rfl hl.1 (Nat.le_of_ble_eq_true rfl) (by decide) d_LoopRanker_levelOf_17 (fun H locs wn hwn hP hD hS => ?_)
  subst hwn
  rw [List.nil_append, List.append_nil] at hP hD
  have hP : va_P D cls (rW cI cJ cS lr sa po u1 u2 l1 l2 l3 l4 us vs lu2 lw2 lf2 lo2 lc2 ln2 1 bs2 sc x y fd) H := hP
  have hD : va_D A (rW cI cJ cS lr sa po u1 u2 l1 l2 l3 l4 us vs lu2 lw2 lf2 lo2 lc2 ln2 1 bs2 sc x y fd) := hD
  refine wi0_eq (tgt := 35) X.1.1 X.1.2.1 d_LoopRanker_levelOf_20 (by decide) (fun h20 => absurd h20 (by rw [m_th_1 (by omega) (by omega)]; decide)) (fun h20 => ?_)
  refine lv_aload_n X.1.1 X.1.2.1 d_LoopRanker_levelOf_23 rfl (lv_at hl 0 rfl) ?_
  refine fg_LoopRanker_19 X hP 0 rfl rfl d_LoopRanker_levelOf_24 ?_
  refine fg_LoopRanker_117 X hP 2 rfl rfl d_LoopRanker_levelOf_27 ?_
  refine lv_iload_n X.1.1 X.1.2.1 d_LoopRanker_levelOf_30 rfl (lv_at hl 1 rfl) ?_
  refine wa_ild X.1.1 X.1.2.1 X.2.1 hP 8 0 rfl rfl t rfl (by omega) (by decide) d_LoopRanker_levelOf_31 ?_
  refine lv_goto (tgt := 36) X.1.1 X.1.2.1 d_LoopRanker_levelOf_32 (by decide) ?_
  exact hret 36 H locs ls _ _ hP hD hS d_LoopRanker_levelOf_36 (elo t ht) (⟨lu2, lw2, lf2, lo2, lc2, ln2, 1, bs2, rfl, hok2, hI.2.1, hmap2, fun _ => ⟨rfl, hPR⟩⟩)
set_option maxHeartbeats 4000000 in
set_option maxRecDepth 100000 in
theorem c_LoopRanker_coefficient_bad (lr sa po u1 u2 l1 l2 l3 l4 : Nat) (us vs lu lw : Nat → Int32) (lf : Nat → Int64) (lo : Nat → Int32) (lc ln : Nat) (fs : Int32) (bs : List bT) (sc : Nat) (x y : Int64) (fd : Int32) (lev : Int32) (v : Int32) (ds : List bDt) (hI : rI us vs ds sc lu lw lf lo lc ln fs bs) (hbad : m_th (c_fin ds us vs sc).2.length lev = 0) : wk_ki l y_LoopRanker_coefficient (Cond.code y_LoopRanker_coefficient b_LoopRanker_coefficient 3 (some .int) :: BW) rm_LoopRanker_coefficient D cls (kT cI cJ cS) nz [.ref lr, .int lev, .int v] (rW cI cJ cS lr sa po u1 u2 l1 l2 l3 l4 us vs lu lw lf lo lc ln fs bs sc x y fd) (fun wz => ∃ lu2 lw2 lf2 lo2 lc2 ln2 fs2 bs2, wz = rW cI cJ cS lr sa po u1 u2 l1 l2 l3 l4 us vs lu2 lw2 lf2 lo2 lc2 ln2 fs2 bs2 sc x y fd ∧ rI us vs ds sc lu2 lw2 lf2 lo2 lc2 ln2 fs2 bs2) 0 := by
  refine ws_i (plainFor_of_name (by decide)) (Nat.le_of_ble_eq_true rfl) ?_
  intro p e s m below meth c A ls Q X hret hl hP hD hS
  obtain ⟨H, hH⟩ : ∃ H, H = s.heap := ⟨_, rfl⟩
  obtain ⟨locs, hlo⟩ : ∃ locs : List Loc, locs = [] := ⟨_, rfl⟩
  have hP : va_P D cls (rW cI cJ cS lr sa po u1 u2 l1 l2 l3 l4 us vs lu lw lf lo lc ln fs bs sc x y fd) H := by rw [hH]; exact hP
  have hS : va_S A s.heap H locs := by rw [hH, hlo]; exact hS
  suffices hgo : W p l e rm_LoopRanker_coefficient s m ([.ref lr, .int lev, .int v] : List Value).toArray below meth c H locs 0 0 Q (F0 m 0 ls ([])) by rw [hH, hlo] at hgo; exact hgo
  clear hH hlo
  have hl : lv_has ls 3 [(0, .ref lr), (1, .int lev), (2, .int v)] := hl
  have hok := hI.1
  have hmap := hI.2.2.1
  have hsc := hI.2.1
  refine lv_aload_n X.1.1 X.1.2.1 d_LoopRanker_coefficient_0 rfl (lv_at hl 0 rfl) ?_
  refine fg_LoopRanker_19 X hP 0 rfl rfl d_LoopRanker_coefficient_1 ?_
  refine lv_aload_n X.1.1 X.1.2.1 d_LoopRanker_coefficient_4 rfl (lv_at hl 0 rfl) ?_
  refine fg_LoopRanker_11 X hP 0 rfl rfl d_LoopRanker_coefficient_5 ?_
  refine lv_aload_n X.1.1 X.1.2.1 d_LoopRanker_coefficient_8 rfl (lv_at hl 0 rfl) ?_
  refine fg_LoopRanker_23 X hP 0 rfl rfl d_LoopRanker_coefficient_9 ?_
  refine wc_Nv [.ref sa, .int (nI sc)] 2 1 X nz_nest (c_Proof_renew sa po u1 u2 l1 l2 l3 l4 us vs lu lw lf lo lc ln fs bs sc ds hI.2.2.1 hI.1 hI.2.1 hI.2.2.2) (cw_LoopRanker_107 X.1.2.2.2.2 X.2.2.1 (by decide)) ([(lr, .inr (3, [.ref sa, .ref po, .int (nI sc), .long x, .long y, .int fd]))]) ([]) (by rw [List.append_nil]; rfl) hP hD hS rfl rfl rfl rfl hl.1 (Nat.le_of_ble_eq_true rfl) (by decide) d_LoopRanker_coefficient_12 (fun H locs wn hwn hP hD hS => ?_)
  obtain ⟨lu2, lw2, lf2, lo2, lc2, ln2, bs2, rfl, hok2, hmap2, hPR⟩ := hwn
  rw [List.append_nil] at hP hD
  have hP : va_P D cls (rW cI cJ cS lr sa po u1 u2 l1 l2 l3 l4 us vs lu2 lw2 lf2 lo2 lc2 ln2 1 bs2 sc x y fd) H := hP
  have hD : va_D A (rW cI cJ cS lr sa po u1 u2 l1 l2 l3 l4 us vs lu2 lw2 lf2 lo2 lc2 ln2 1 bs2 sc x y fd) := hD
  obtain ⟨elc, eln, elo, ehas⟩ := c_PR_fin hPR
  have hlen := c_fin_len ds us vs sc
  have hlfl := c_lf_le (c_fin ds us vs sc).1 sc 0 0
  refine lv_aload_n X.1.1 X.1.2.1 d_LoopRanker_coefficient_15 rfl (lv_at hl 0 rfl) ?_
  refine fg_LoopRanker_19 X hP 0 rfl rfl d_LoopRanker_coefficient_16 ?_
  refine lv_iload_n X.1.1 X.1.2.1 d_LoopRanker_coefficient_19 rfl (lv_at hl 1 rfl) ?_
  refine wc_Ni [.int lev] 2 1 X nz_nest (c_Proof_hasLevel sa po u1 u2 l1 l2 l3 l4 us vs lu2 lw2 lf2 lo2 lc2 ln2 1 bs2 lev ) (cw_LoopRanker_121 X.1.2.2.2.2 X.2.2.1 (by decide)) ([(lr, .inr (3, [.ref sa, .ref po, .int (nI sc), .long x, .long y, .int fd]))]) ([]) (by rw [List.append_nil]; rfl) hP hD hS rfl rfl rfl rfl hl.1 (Nat.le_of_ble_eq_true rfl) (by decide) d_LoopRanker_coefficient_20 (fun H locs wn hwn hP hD hS => ?_)
  subst hwn
  rw [List.append_nil] at hP hD
  have hP : va_P D cls (rW cI cJ cS lr sa po u1 u2 l1 l2 l3 l4 us vs lu2 lw2 lf2 lo2 lc2 ln2 1 bs2 sc x y fd) H := hP
  have hD : va_D A (rW cI cJ cS lr sa po u1 u2 l1 l2 l3 l4 us vs lu2 lw2 lf2 lo2 lc2 ln2 1 bs2 sc x y fd) := hD
  refine wi0_eq (tgt := 33) X.1.1 X.1.2.1 d_LoopRanker_coefficient_23 (by decide) (fun h23 => ?_) (fun h23 => absurd (by rw [← elc] at hbad; exact hbad) h23)
  refine lv_iconst (v := (0 : Int32)) X.1.1 X.1.2.1 d_LoopRanker_coefficient_33 (by decide) ?_
  exact hret 34 H locs ls _ _ hP hD hS d_LoopRanker_coefficient_34 (rfl) (⟨lu2, lw2, lf2, lo2, lc2, ln2, 1, bs2, rfl, hok2, hI.2.1, hmap2, fun _ => ⟨rfl, hPR⟩⟩)
set_option maxHeartbeats 4000000 in
set_option maxRecDepth 100000 in
theorem c_LoopRanker_floor_bad (lr sa po u1 u2 l1 l2 l3 l4 : Nat) (us vs lu lw : Nat → Int32) (lf : Nat → Int64) (lo : Nat → Int32) (lc ln : Nat) (fs : Int32) (bs : List bT) (sc : Nat) (x y : Int64) (fd : Int32) (lev : Int32) (ds : List bDt) (hI : rI us vs ds sc lu lw lf lo lc ln fs bs) (hbad : m_th (c_fin ds us vs sc).2.length lev = 0) : wk_kl l y_LoopRanker_floor (Cond.code y_LoopRanker_floor b_LoopRanker_floor 2 (some .long) :: BW) rm_LoopRanker_floor D cls (kT cI cJ cS) nz [.ref lr, .int lev] (rW cI cJ cS lr sa po u1 u2 l1 l2 l3 l4 us vs lu lw lf lo lc ln fs bs sc x y fd) (fun wz => ∃ lu2 lw2 lf2 lo2 lc2 ln2 fs2 bs2, wz = rW cI cJ cS lr sa po u1 u2 l1 l2 l3 l4 us vs lu2 lw2 lf2 lo2 lc2 ln2 fs2 bs2 sc x y fd ∧ rI us vs ds sc lu2 lw2 lf2 lo2 lc2 ln2 fs2 bs2) 4611686018427387904 := by
  refine ws_l (plainFor_of_name (by decide)) (Nat.le_of_ble_eq_true rfl) ?_
  intro p e s m below meth c A ls Q X hret hl hP hD hS
  obtain ⟨H, hH⟩ : ∃ H, H = s.heap := ⟨_, rfl⟩
  obtain ⟨locs, hlo⟩ : ∃ locs : List Loc, locs = [] := ⟨_, rfl⟩
  have hP : va_P D cls (rW cI cJ cS lr sa po u1 u2 l1 l2 l3 l4 us vs lu lw lf lo lc ln fs bs sc x y fd) H := by rw [hH]; exact hP
  have hS : va_S A s.heap H locs := by rw [hH, hlo]; exact hS
  suffices hgo : W p l e rm_LoopRanker_floor s m ([.ref lr, .int lev] : List Value).toArray below meth c H locs 0 0 Q (F0 m 0 ls ([])) by rw [hH, hlo] at hgo; exact hgo
  clear hH hlo
  have hl : lv_has ls 2 [(0, .ref lr), (1, .int lev)] := hl
  have hok := hI.1
  have hmap := hI.2.2.1
  have hsc := hI.2.1
  refine lv_aload_n X.1.1 X.1.2.1 d_LoopRanker_floor_0 rfl (lv_at hl 0 rfl) ?_
  refine fg_LoopRanker_19 X hP 0 rfl rfl d_LoopRanker_floor_1 ?_
  refine lv_aload_n X.1.1 X.1.2.1 d_LoopRanker_floor_4 rfl (lv_at hl 0 rfl) ?_
  refine fg_LoopRanker_11 X hP 0 rfl rfl d_LoopRanker_floor_5 ?_
  refine lv_aload_n X.1.1 X.1.2.1 d_LoopRanker_floor_8 rfl (lv_at hl 0 rfl) ?_
  refine fg_LoopRanker_23 X hP 0 rfl rfl d_LoopRanker_floor_9 ?_
  refine wc_Nv [.ref sa, .int (nI sc)] 2 1 X nz_nest (c_Proof_renew sa po u1 u2 l1 l2 l3 l4 us vs lu lw lf lo lc ln fs bs sc ds hI.2.2.1 hI.1 hI.2.1 hI.2.2.2) (cw_LoopRanker_107 X.1.2.2.2.2 X.2.2.1 (by decide)) ([(lr, .inr (3, [.ref sa, .ref po, .int (nI sc), .long x, .long y, .int fd]))]) ([]) (by rw [List.append_nil]; rfl) hP hD hS rfl rfl rfl rfl hl.1 (Nat.le_of_ble_eq_true rfl) (by decide) d_LoopRanker_floor_12 (fun H locs wn hwn hP hD hS => ?_)
  obtain ⟨lu2, lw2, lf2, lo2, lc2, ln2, bs2, rfl, hok2, hmap2, hPR⟩ := hwn
  rw [List.append_nil] at hP hD
  have hP : va_P D cls (rW cI cJ cS lr sa po u1 u2 l1 l2 l3 l4 us vs lu2 lw2 lf2 lo2 lc2 ln2 1 bs2 sc x y fd) H := hP
  have hD : va_D A (rW cI cJ cS lr sa po u1 u2 l1 l2 l3 l4 us vs lu2 lw2 lf2 lo2 lc2 ln2 1 bs2 sc x y fd) := hD
  obtain ⟨elc, eln, elo, ehas⟩ := c_PR_fin hPR
  have hlen := c_fin_len ds us vs sc
  have hlfl := c_lf_le (c_fin ds us vs sc).1 sc 0 0
  refine lv_aload_n X.1.1 X.1.2.1 d_LoopRanker_floor_15 rfl (lv_at hl 0 rfl) ?_
  refine fg_LoopRanker_19 X hP 0 rfl rfl d_LoopRanker_floor_16 ?_
  refine lv_iload_n X.1.1 X.1.2.1 d_LoopRanker_floor_19 rfl (lv_at hl 1 rfl) ?_
  refine wc_Ni [.int lev] 2 1 X nz_nest (c_Proof_hasLevel sa po u1 u2 l1 l2 l3 l4 us vs lu2 lw2 lf2 lo2 lc2 ln2 1 bs2 lev ) (cw_LoopRanker_121 X.1.2.2.2.2 X.2.2.1 (by decide)) ([(lr, .inr (3, [.ref sa, .ref po, .int (nI sc), .long x, .long y, .int fd]))]) ([]) (by rw [List.append_nil]; rfl) hP hD hS rfl rfl rfl rfl hl.1 (Nat.le_of_ble_eq_true rfl) (by decide) d_LoopRanker_floor_20 (fun H locs wn hwn hP hD hS => ?_)
  subst hwn
  rw [List.append_nil] at hP hD
  have hP : va_P D cls (rW cI cJ cS lr sa po u1 u2 l1 l2 l3 l4 us vs lu2 lw2 lf2 lo2 lc2 ln2 1 bs2 sc x y fd) H := hP
  have hD : va_D A (rW cI cJ cS lr sa po u1 u2 l1 l2 l3 l4 us vs lu2 lw2 lf2 lo2 lc2 ln2 1 bs2 sc x y fd) := hD
  refine wi0_eq (tgt := 38) X.1.1 X.1.2.1 d_LoopRanker_floor_23 (by decide) (fun h23 => ?_) (fun h23 => absurd (by rw [← elc] at hbad; exact hbad) h23)
  refine lv_ldc2 (v := 4611686018427387904) X.1.1 X.1.2.1 X.1.2.2.2.1 (X.1.2.2.2.2 _ kc_LoopRanker_82) d_LoopRanker_floor_38 ?_
  exact hret 41 H locs ls _ _ hP hD hS d_LoopRanker_floor_41 (rfl) (⟨lu2, lw2, lf2, lo2, lc2, ln2, 1, bs2, rfl, hok2, hI.2.1, hmap2, fun _ => ⟨rfl, hPR⟩⟩)
set_option maxHeartbeats 4000000 in
set_option maxRecDepth 100000 in
theorem c_LoopRanker_rank_bad (lr sa po u1 u2 l1 l2 l3 l4 : Nat) (us vs lu lw : Nat → Int32) (lf : Nat → Int64) (lo : Nat → Int32) (lc ln : Nat) (fs : Int32) (bs : List bT) (sc : Nat) (x y : Int64) (fd : Int32) (lev : Int32) (ds : List bDt) (hI : rI us vs ds sc lu lw lf lo lc ln fs bs) (hbad : m_th (c_fin ds us vs sc).2.length lev = 0) : wk_kl l y_LoopRanker_rank (Cond.code y_LoopRanker_rank b_LoopRanker_rank 2 (some .long) :: BW) rm_LoopRanker_rank D cls (kT cI cJ cS) nz [.ref lr, .int lev] (rW cI cJ cS lr sa po u1 u2 l1 l2 l3 l4 us vs lu lw lf lo lc ln fs bs sc x y fd) (fun wz => ∃ lu2 lw2 lf2 lo2 lc2 ln2 fs2 bs2, wz = rW cI cJ cS lr sa po u1 u2 l1 l2 l3 l4 us vs lu2 lw2 lf2 lo2 lc2 ln2 fs2 bs2 sc x y fd ∧ rI us vs ds sc lu2 lw2 lf2 lo2 lc2 ln2 fs2 bs2) 4611686018427387904 := by
  refine ws_l (plainFor_of_name (by decide)) (Nat.le_of_ble_eq_true rfl) ?_
  intro p e s m below meth c A ls Q X hret hl hP hD hS
  obtain ⟨H, hH⟩ : ∃ H, H = s.heap := ⟨_, rfl⟩
  obtain ⟨locs, hlo⟩ : ∃ locs : List Loc, locs = [] := ⟨_, rfl⟩
  have hP : va_P D cls (rW cI cJ cS lr sa po u1 u2 l1 l2 l3 l4 us vs lu lw lf lo lc ln fs bs sc x y fd) H := by rw [hH]; exact hP
  have hS : va_S A s.heap H locs := by rw [hH, hlo]; exact hS
  suffices hgo : W p l e rm_LoopRanker_rank s m ([.ref lr, .int lev] : List Value).toArray below meth c H locs 0 0 Q (F0 m 0 ls ([])) by rw [hH, hlo] at hgo; exact hgo
  clear hH hlo
  have hl : lv_has ls 2 [(0, .ref lr), (1, .int lev)] := hl
  have hok := hI.1
  have hmap := hI.2.2.1
  have hsc := hI.2.1
  refine lv_aload_n X.1.1 X.1.2.1 d_LoopRanker_rank_0 rfl (lv_at hl 0 rfl) ?_
  refine fg_LoopRanker_19 X hP 0 rfl rfl d_LoopRanker_rank_1 ?_
  refine lv_aload_n X.1.1 X.1.2.1 d_LoopRanker_rank_4 rfl (lv_at hl 0 rfl) ?_
  refine fg_LoopRanker_11 X hP 0 rfl rfl d_LoopRanker_rank_5 ?_
  refine lv_aload_n X.1.1 X.1.2.1 d_LoopRanker_rank_8 rfl (lv_at hl 0 rfl) ?_
  refine fg_LoopRanker_23 X hP 0 rfl rfl d_LoopRanker_rank_9 ?_
  refine wc_Nv [.ref sa, .int (nI sc)] 2 1 X nz_nest (c_Proof_renew sa po u1 u2 l1 l2 l3 l4 us vs lu lw lf lo lc ln fs bs sc ds hI.2.2.1 hI.1 hI.2.1 hI.2.2.2) (cw_LoopRanker_107 X.1.2.2.2.2 X.2.2.1 (by decide)) ([(lr, .inr (3, [.ref sa, .ref po, .int (nI sc), .long x, .long y, .int fd]))]) ([]) (by rw [List.append_nil]; rfl) hP hD hS rfl rfl rfl rfl hl.1 (Nat.le_of_ble_eq_true rfl) (by decide) d_LoopRanker_rank_12 (fun H locs wn hwn hP hD hS => ?_)
  obtain ⟨lu2, lw2, lf2, lo2, lc2, ln2, bs2, rfl, hok2, hmap2, hPR⟩ := hwn
  rw [List.append_nil] at hP hD
  have hP : va_P D cls (rW cI cJ cS lr sa po u1 u2 l1 l2 l3 l4 us vs lu2 lw2 lf2 lo2 lc2 ln2 1 bs2 sc x y fd) H := hP
  have hD : va_D A (rW cI cJ cS lr sa po u1 u2 l1 l2 l3 l4 us vs lu2 lw2 lf2 lo2 lc2 ln2 1 bs2 sc x y fd) := hD
  obtain ⟨elc, eln, elo, ehas⟩ := c_PR_fin hPR
  have hlen := c_fin_len ds us vs sc
  have hlfl := c_lf_le (c_fin ds us vs sc).1 sc 0 0
  refine lv_aload_n X.1.1 X.1.2.1 d_LoopRanker_rank_15 rfl (lv_at hl 0 rfl) ?_
  refine fg_LoopRanker_19 X hP 0 rfl rfl d_LoopRanker_rank_16 ?_
  refine lv_iload_n X.1.1 X.1.2.1 d_LoopRanker_rank_19 rfl (lv_at hl 1 rfl) ?_
  refine wc_Ni [.int lev] 2 1 X nz_nest (c_Proof_hasLevel sa po u1 u2 l1 l2 l3 l4 us vs lu2 lw2 lf2 lo2 lc2 ln2 1 bs2 lev ) (cw_LoopRanker_121 X.1.2.2.2.2 X.2.2.1 (by decide)) ([(lr, .inr (3, [.ref sa, .ref po, .int (nI sc), .long x, .long y, .int fd]))]) ([]) (by rw [List.append_nil]; rfl) hP hD hS rfl rfl rfl rfl hl.1 (Nat.le_of_ble_eq_true rfl) (by decide) d_LoopRanker_rank_20 (fun H locs wn hwn hP hD hS => ?_)
  subst hwn
  rw [List.append_nil] at hP hD
  have hP : va_P D cls (rW cI cJ cS lr sa po u1 u2 l1 l2 l3 l4 us vs lu2 lw2 lf2 lo2 lc2 ln2 1 bs2 sc x y fd) H := hP
  have hD : va_D A (rW cI cJ cS lr sa po u1 u2 l1 l2 l3 l4 us vs lu2 lw2 lf2 lo2 lc2 ln2 1 bs2 sc x y fd) := hD
  refine wi0_eq (tgt := 45) X.1.1 X.1.2.1 d_LoopRanker_rank_23 (by decide) (fun h23 => ?_) (fun h23 => absurd (by rw [← elc] at hbad; exact hbad) h23)
  refine lv_ldc2 (v := 4611686018427387904) X.1.1 X.1.2.1 X.1.2.2.2.1 (X.1.2.2.2.2 _ kc_LoopRanker_82) d_LoopRanker_rank_45 ?_
  exact hret 48 H locs ls _ _ hP hD hS d_LoopRanker_rank_48 (rfl) (⟨lu2, lw2, lf2, lo2, lc2, ln2, 1, bs2, rfl, hok2, hI.2.1, hmap2, fun _ => ⟨rfl, hPR⟩⟩)
set_option maxHeartbeats 4000000 in
set_option maxRecDepth 100000 in
theorem c_LoopRanker_coefficient (lr sa po u1 u2 l1 l2 l3 l4 : Nat) (us vs lu lw : Nat → Int32) (lf : Nat → Int64) (lo : Nat → Int32) (lc ln : Nat) (fs : Int32) (bs : List bT) (sc : Nat) (x y : Int64) (fd : Int32) (lev : Nat) (v : Int32) (ds : List bDt) (hI : rI us vs ds sc lu lw lf lo lc ln fs bs) (hlt : lev < (c_fin ds us vs sc).2.length) : wk_ki l y_LoopRanker_coefficient (Cond.code y_LoopRanker_coefficient b_LoopRanker_coefficient 3 (some .int) :: BW) rm_LoopRanker_coefficient D cls (kT cI cJ cS) nz [.ref lr, .int (nI lev), .int v] (rW cI cJ cS lr sa po u1 u2 l1 l2 l3 l4 us vs lu lw lf lo lc ln fs bs sc x y fd) (fun wz => ∃ lu2 lw2 lf2 lo2 lc2 ln2 fs2 bs2, wz = rW cI cJ cS lr sa po u1 u2 l1 l2 l3 l4 us vs lu2 lw2 lf2 lo2 lc2 ln2 fs2 bs2 sc x y fd ∧ rI us vs ds sc lu2 lw2 lf2 lo2 lc2 ln2 fs2 bs2) (if v = 0 then ((c_fin ds us vs sc).2.getD lev (0, 0, 0)).1 else if v = 1 then ((c_fin ds us vs sc).2.getD lev (0, 0, 0)).2.1 else 0) := by
  refine ws_i (plainFor_of_name (by decide)) (Nat.le_of_ble_eq_true rfl) ?_
  intro p e s m below meth c A ls Q X hret hl hP hD hS
  obtain ⟨H, hH⟩ : ∃ H, H = s.heap := ⟨_, rfl⟩
  obtain ⟨locs, hlo⟩ : ∃ locs : List Loc, locs = [] := ⟨_, rfl⟩
  have hP : va_P D cls (rW cI cJ cS lr sa po u1 u2 l1 l2 l3 l4 us vs lu lw lf lo lc ln fs bs sc x y fd) H := by rw [hH]; exact hP
  have hS : va_S A s.heap H locs := by rw [hH, hlo]; exact hS
  suffices hgo : W p l e rm_LoopRanker_coefficient s m ([.ref lr, .int (nI lev), .int v] : List Value).toArray below meth c H locs 0 0 Q (F0 m 0 ls ([])) by rw [hH, hlo] at hgo; exact hgo
  clear hH hlo
  have hl : lv_has ls 3 [(0, .ref lr), (1, .int (nI lev)), (2, .int v)] := hl
  have hok := hI.1
  have hmap := hI.2.2.1
  have hsc := hI.2.1
  refine lv_aload_n X.1.1 X.1.2.1 d_LoopRanker_coefficient_0 rfl (lv_at hl 0 rfl) ?_
  refine fg_LoopRanker_19 X hP 0 rfl rfl d_LoopRanker_coefficient_1 ?_
  refine lv_aload_n X.1.1 X.1.2.1 d_LoopRanker_coefficient_4 rfl (lv_at hl 0 rfl) ?_
  refine fg_LoopRanker_11 X hP 0 rfl rfl d_LoopRanker_coefficient_5 ?_
  refine lv_aload_n X.1.1 X.1.2.1 d_LoopRanker_coefficient_8 rfl (lv_at hl 0 rfl) ?_
  refine fg_LoopRanker_23 X hP 0 rfl rfl d_LoopRanker_coefficient_9 ?_
  refine wc_Nv [.ref sa, .int (nI sc)] 2 1 X nz_nest (c_Proof_renew sa po u1 u2 l1 l2 l3 l4 us vs lu lw lf lo lc ln fs bs sc ds hI.2.2.1 hI.1 hI.2.1 hI.2.2.2) (cw_LoopRanker_107 X.1.2.2.2.2 X.2.2.1 (by decide)) ([(lr, .inr (3, [.ref sa, .ref po, .int (nI sc), .long x, .long y, .int fd]))]) ([]) (by rw [List.append_nil]; rfl) hP hD hS rfl rfl rfl rfl hl.1 (Nat.le_of_ble_eq_true rfl) (by decide) d_LoopRanker_coefficient_12 (fun H locs wn hwn hP hD hS => ?_)
  obtain ⟨lu2, lw2, lf2, lo2, lc2, ln2, bs2, rfl, hok2, hmap2, hPR⟩ := hwn
  rw [List.append_nil] at hP hD
  have hP : va_P D cls (rW cI cJ cS lr sa po u1 u2 l1 l2 l3 l4 us vs lu2 lw2 lf2 lo2 lc2 ln2 1 bs2 sc x y fd) H := hP
  have hD : va_D A (rW cI cJ cS lr sa po u1 u2 l1 l2 l3 l4 us vs lu2 lw2 lf2 lo2 lc2 ln2 1 bs2 sc x y fd) := hD
  obtain ⟨elc, eln, elo, ehas⟩ := c_PR_fin hPR
  have hlen := c_fin_len ds us vs sc
  have hlfl := c_lf_le (c_fin ds us vs sc).1 sc 0 0
  refine lv_aload_n X.1.1 X.1.2.1 d_LoopRanker_coefficient_15 rfl (lv_at hl 0 rfl) ?_
  refine fg_LoopRanker_19 X hP 0 rfl rfl d_LoopRanker_coefficient_16 ?_
  refine lv_iload_n X.1.1 X.1.2.1 d_LoopRanker_coefficient_19 rfl (lv_at hl 1 rfl) ?_
  refine wc_Ni [.int (nI lev)] 2 1 X nz_nest (c_Proof_hasLevel sa po u1 u2 l1 l2 l3 l4 us vs lu2 lw2 lf2 lo2 lc2 ln2 1 bs2 (nI lev) ) (cw_LoopRanker_121 X.1.2.2.2.2 X.2.2.1 (by decide)) ([(lr, .inr (3, [.ref sa, .ref po, .int (nI sc), .long x, .long y, .int fd]))]) ([]) (by rw [List.append_nil]; rfl) hP hD hS rfl rfl rfl rfl hl.1 (Nat.le_of_ble_eq_true rfl) (by decide) d_LoopRanker_coefficient_20 (fun H locs wn hwn hP hD hS => ?_)
  subst hwn
  rw [List.append_nil] at hP hD
  have hP : va_P D cls (rW cI cJ cS lr sa po u1 u2 l1 l2 l3 l4 us vs lu2 lw2 lf2 lo2 lc2 ln2 1 bs2 sc x y fd) H := hP
  have hD : va_D A (rW cI cJ cS lr sa po u1 u2 l1 l2 l3 l4 us vs lu2 lw2 lf2 lo2 lc2 ln2 1 bs2 sc x y fd) := hD
  refine wi0_eq (tgt := 33) X.1.1 X.1.2.1 d_LoopRanker_coefficient_23 (by decide) (fun h23 => absurd h23 (show ¬ m_th lc2 (nI lev) = 0 from by rw [m_th_1 (by omega) (by omega)]; decide)) (fun h23 => ?_)
  refine lv_iload_n X.1.1 X.1.2.1 d_LoopRanker_coefficient_26 rfl (lv_at hl 2 rfl) ?_
  refine wc_Si [.int v] X nz_nest (c_LoopRanker_isVariable v) (cw_LoopRanker_69 X.1.2.2.2.2 X.2.2.1 (by decide)) (rW cI cJ cS lr sa po u1 u2 l1 l2 l3 l4 us vs lu2 lw2 lf2 lo2 lc2 ln2 1 bs2 sc x y fd) ([]) (by rw [List.append_nil, List.append_nil]) hP hD hS rfl rfl hl.1 (Nat.le_of_ble_eq_true rfl) (by decide) d_LoopRanker_coefficient_27 (fun H locs wn hwn hP hD hS => ?_)
  subst hwn
  rw [List.nil_append, List.append_nil] at hP hD
  have hP : va_P D cls (rW cI cJ cS lr sa po u1 u2 l1 l2 l3 l4 us vs lu2 lw2 lf2 lo2 lc2 ln2 1 bs2 sc x y fd) H := hP
  have hD : va_D A (rW cI cJ cS lr sa po u1 u2 l1 l2 l3 l4 us vs lu2 lw2 lf2 lo2 lc2 ln2 1 bs2 sc x y fd) := hD
  refine wi0_ne (tgt := 35) X.1.1 X.1.2.1 d_LoopRanker_coefficient_30 (by decide) (fun h30 => ?_) (fun h30 => ?_)
  · refine lv_iload_n X.1.1 X.1.2.1 d_LoopRanker_coefficient_35 rfl (lv_at hl 2 rfl) ?_
    refine wi0_ne (tgt := 51) X.1.1 X.1.2.1 d_LoopRanker_coefficient_36 (by decide) (fun h36 => ?_) (fun h36 => ?_)
    · refine lv_aload_n X.1.1 X.1.2.1 d_LoopRanker_coefficient_51 rfl (lv_at hl 0 rfl) ?_
      refine fg_LoopRanker_19 X hP 0 rfl rfl d_LoopRanker_coefficient_52 ?_
      refine fg_LoopRanker_127 X hP 2 rfl rfl d_LoopRanker_coefficient_55 ?_
      refine lv_iload_n X.1.1 X.1.2.1 d_LoopRanker_coefficient_58 rfl (lv_at hl 1 rfl) ?_
      refine wa_ild X.1.1 X.1.2.1 X.2.1 hP 6 0 rfl rfl lev rfl (by omega) (by decide) d_LoopRanker_coefficient_59 ?_
      exact hret 60 H locs ls _ _ hP hD hS d_LoopRanker_coefficient_60 (by rw [(ehas lev hlt).2.1, if_neg h36, if_pos (r_v_1 h30 h36)]) (⟨lu2, lw2, lf2, lo2, lc2, ln2, 1, bs2, rfl, hok2, hI.2.1, hmap2, fun _ => ⟨rfl, hPR⟩⟩)
    · refine lv_aload_n X.1.1 X.1.2.1 d_LoopRanker_coefficient_39 rfl (lv_at hl 0 rfl) ?_
      refine fg_LoopRanker_19 X hP 0 rfl rfl d_LoopRanker_coefficient_40 ?_
      refine fg_LoopRanker_124 X hP 2 rfl rfl d_LoopRanker_coefficient_43 ?_
      refine lv_iload_n X.1.1 X.1.2.1 d_LoopRanker_coefficient_46 rfl (lv_at hl 1 rfl) ?_
      refine wa_ild X.1.1 X.1.2.1 X.2.1 hP 5 0 rfl rfl lev rfl (by omega) (by decide) d_LoopRanker_coefficient_47 ?_
      refine lv_goto (tgt := 60) X.1.1 X.1.2.1 d_LoopRanker_coefficient_48 (by decide) ?_
      exact hret 60 H locs ls _ _ hP hD hS d_LoopRanker_coefficient_60 (by rw [(ehas lev hlt).1, if_pos h36]) (⟨lu2, lw2, lf2, lo2, lc2, ln2, 1, bs2, rfl, hok2, hI.2.1, hmap2, fun _ => ⟨rfl, hPR⟩⟩)
  · refine lv_iconst (v := (0 : Int32)) X.1.1 X.1.2.1 d_LoopRanker_coefficient_33 (by decide) ?_
    exact hret 34 H locs ls _ _ hP hD hS d_LoopRanker_coefficient_34 (by rw [if_neg (r_v_0 h30).1, if_neg (r_v_0 h30).2]) (⟨lu2, lw2, lf2, lo2, lc2, ln2, 1, bs2, rfl, hok2, hI.2.1, hmap2, fun _ => ⟨rfl, hPR⟩⟩)
set_option maxHeartbeats 4000000 in
set_option maxRecDepth 100000 in
theorem c_LoopRanker_floor (lr sa po u1 u2 l1 l2 l3 l4 : Nat) (us vs lu lw : Nat → Int32) (lf : Nat → Int64) (lo : Nat → Int32) (lc ln : Nat) (fs : Int32) (bs : List bT) (sc : Nat) (x y : Int64) (fd : Int32) (lev : Nat) (ds : List bDt) (hI : rI us vs ds sc lu lw lf lo lc ln fs bs) (hlt : lev < (c_fin ds us vs sc).2.length) : wk_kl l y_LoopRanker_floor (Cond.code y_LoopRanker_floor b_LoopRanker_floor 2 (some .long) :: BW) rm_LoopRanker_floor D cls (kT cI cJ cS) nz [.ref lr, .int (nI lev)] (rW cI cJ cS lr sa po u1 u2 l1 l2 l3 l4 us vs lu lw lf lo lc ln fs bs sc x y fd) (fun wz => ∃ lu2 lw2 lf2 lo2 lc2 ln2 fs2 bs2, wz = rW cI cJ cS lr sa po u1 u2 l1 l2 l3 l4 us vs lu2 lw2 lf2 lo2 lc2 ln2 fs2 bs2 sc x y fd ∧ rI us vs ds sc lu2 lw2 lf2 lo2 lc2 ln2 fs2 bs2) (((c_fin ds us vs sc).2.getD lev (0, 0, 0)).2.2) := by
  refine ws_l (plainFor_of_name (by decide)) (Nat.le_of_ble_eq_true rfl) ?_
  intro p e s m below meth c A ls Q X hret hl hP hD hS
  obtain ⟨H, hH⟩ : ∃ H, H = s.heap := ⟨_, rfl⟩
  obtain ⟨locs, hlo⟩ : ∃ locs : List Loc, locs = [] := ⟨_, rfl⟩
  have hP : va_P D cls (rW cI cJ cS lr sa po u1 u2 l1 l2 l3 l4 us vs lu lw lf lo lc ln fs bs sc x y fd) H := by rw [hH]; exact hP
  have hS : va_S A s.heap H locs := by rw [hH, hlo]; exact hS
  suffices hgo : W p l e rm_LoopRanker_floor s m ([.ref lr, .int (nI lev)] : List Value).toArray below meth c H locs 0 0 Q (F0 m 0 ls ([])) by rw [hH, hlo] at hgo; exact hgo
  clear hH hlo
  have hl : lv_has ls 2 [(0, .ref lr), (1, .int (nI lev))] := hl
  have hok := hI.1
  have hmap := hI.2.2.1
  have hsc := hI.2.1
  refine lv_aload_n X.1.1 X.1.2.1 d_LoopRanker_floor_0 rfl (lv_at hl 0 rfl) ?_
  refine fg_LoopRanker_19 X hP 0 rfl rfl d_LoopRanker_floor_1 ?_
  refine lv_aload_n X.1.1 X.1.2.1 d_LoopRanker_floor_4 rfl (lv_at hl 0 rfl) ?_
  refine fg_LoopRanker_11 X hP 0 rfl rfl d_LoopRanker_floor_5 ?_
  refine lv_aload_n X.1.1 X.1.2.1 d_LoopRanker_floor_8 rfl (lv_at hl 0 rfl) ?_
  refine fg_LoopRanker_23 X hP 0 rfl rfl d_LoopRanker_floor_9 ?_
  refine wc_Nv [.ref sa, .int (nI sc)] 2 1 X nz_nest (c_Proof_renew sa po u1 u2 l1 l2 l3 l4 us vs lu lw lf lo lc ln fs bs sc ds hI.2.2.1 hI.1 hI.2.1 hI.2.2.2) (cw_LoopRanker_107 X.1.2.2.2.2 X.2.2.1 (by decide)) ([(lr, .inr (3, [.ref sa, .ref po, .int (nI sc), .long x, .long y, .int fd]))]) ([]) (by rw [List.append_nil]; rfl) hP hD hS rfl rfl rfl rfl hl.1 (Nat.le_of_ble_eq_true rfl) (by decide) d_LoopRanker_floor_12 (fun H locs wn hwn hP hD hS => ?_)
  obtain ⟨lu2, lw2, lf2, lo2, lc2, ln2, bs2, rfl, hok2, hmap2, hPR⟩ := hwn
  rw [List.append_nil] at hP hD
  have hP : va_P D cls (rW cI cJ cS lr sa po u1 u2 l1 l2 l3 l4 us vs lu2 lw2 lf2 lo2 lc2 ln2 1 bs2 sc x y fd) H := hP
  have hD : va_D A (rW cI cJ cS lr sa po u1 u2 l1 l2 l3 l4 us vs lu2 lw2 lf2 lo2 lc2 ln2 1 bs2 sc x y fd) := hD
  obtain ⟨elc, eln, elo, ehas⟩ := c_PR_fin hPR
  have hlen := c_fin_len ds us vs sc
  have hlfl := c_lf_le (c_fin ds us vs sc).1 sc 0 0
  refine lv_aload_n X.1.1 X.1.2.1 d_LoopRanker_floor_15 rfl (lv_at hl 0 rfl) ?_
  refine fg_LoopRanker_19 X hP 0 rfl rfl d_LoopRanker_floor_16 ?_
  refine lv_iload_n X.1.1 X.1.2.1 d_LoopRanker_floor_19 rfl (lv_at hl 1 rfl) ?_
  refine wc_Ni [.int (nI lev)] 2 1 X nz_nest (c_Proof_hasLevel sa po u1 u2 l1 l2 l3 l4 us vs lu2 lw2 lf2 lo2 lc2 ln2 1 bs2 (nI lev) ) (cw_LoopRanker_121 X.1.2.2.2.2 X.2.2.1 (by decide)) ([(lr, .inr (3, [.ref sa, .ref po, .int (nI sc), .long x, .long y, .int fd]))]) ([]) (by rw [List.append_nil]; rfl) hP hD hS rfl rfl rfl rfl hl.1 (Nat.le_of_ble_eq_true rfl) (by decide) d_LoopRanker_floor_20 (fun H locs wn hwn hP hD hS => ?_)
  subst hwn
  rw [List.append_nil] at hP hD
  have hP : va_P D cls (rW cI cJ cS lr sa po u1 u2 l1 l2 l3 l4 us vs lu2 lw2 lf2 lo2 lc2 ln2 1 bs2 sc x y fd) H := hP
  have hD : va_D A (rW cI cJ cS lr sa po u1 u2 l1 l2 l3 l4 us vs lu2 lw2 lf2 lo2 lc2 ln2 1 bs2 sc x y fd) := hD
  refine wi0_eq (tgt := 38) X.1.1 X.1.2.1 d_LoopRanker_floor_23 (by decide) (fun h23 => absurd h23 (show ¬ m_th lc2 (nI lev) = 0 from by rw [m_th_1 (by omega) (by omega)]; decide)) (fun h23 => ?_)
  refine lv_aload_n X.1.1 X.1.2.1 d_LoopRanker_floor_26 rfl (lv_at hl 0 rfl) ?_
  refine fg_LoopRanker_19 X hP 0 rfl rfl d_LoopRanker_floor_27 ?_
  refine fg_LoopRanker_130 X hP 2 rfl rfl d_LoopRanker_floor_30 ?_
  refine lv_iload_n X.1.1 X.1.2.1 d_LoopRanker_floor_33 rfl (lv_at hl 1 rfl) ?_
  refine wa_lld X.1.1 X.1.2.1 X.2.1 hP 7 1 rfl rfl lev rfl (by omega) (by decide) d_LoopRanker_floor_34 ?_
  refine lv_goto (tgt := 41) X.1.1 X.1.2.1 d_LoopRanker_floor_35 (by decide) ?_
  exact hret 41 H locs ls _ _ hP hD hS d_LoopRanker_floor_41 ((ehas lev hlt).2.2) (⟨lu2, lw2, lf2, lo2, lc2, ln2, 1, bs2, rfl, hok2, hI.2.1, hmap2, fun _ => ⟨rfl, hPR⟩⟩)
set_option maxHeartbeats 4000000 in
set_option maxRecDepth 100000 in
theorem c_LoopRanker_rank (lr sa po u1 u2 l1 l2 l3 l4 : Nat) (us vs lu lw : Nat → Int32) (lf : Nat → Int64) (lo : Nat → Int32) (lc ln : Nat) (fs : Int32) (bs : List bT) (sc : Nat) (x y : Int64) (fd : Int32) (lev : Nat) (ds : List bDt) (hI : rI us vs ds sc lu lw lf lo lc ln fs bs) (hlt : lev < (c_fin ds us vs sc).2.length) : wk_kl l y_LoopRanker_rank (Cond.code y_LoopRanker_rank b_LoopRanker_rank 2 (some .long) :: BW) rm_LoopRanker_rank D cls (kT cI cJ cS) nz [.ref lr, .int (nI lev)] (rW cI cJ cS lr sa po u1 u2 l1 l2 l3 l4 us vs lu lw lf lo lc ln fs bs sc x y fd) (fun wz => ∃ lu2 lw2 lf2 lo2 lc2 ln2 fs2 bs2, wz = rW cI cJ cS lr sa po u1 u2 l1 l2 l3 l4 us vs lu2 lw2 lf2 lo2 lc2 ln2 fs2 bs2 sc x y fd ∧ rI us vs ds sc lu2 lw2 lf2 lo2 lc2 ln2 fs2 bs2) (((c_fin ds us vs sc).2.getD lev (0, 0, 0)).1.toInt64 * x + ((c_fin ds us vs sc).2.getD lev (0, 0, 0)).2.1.toInt64 * y) := by
  refine ws_l (plainFor_of_name (by decide)) (Nat.le_of_ble_eq_true rfl) ?_
  intro p e s m below meth c A ls Q X hret hl hP hD hS
  obtain ⟨H, hH⟩ : ∃ H, H = s.heap := ⟨_, rfl⟩
  obtain ⟨locs, hlo⟩ : ∃ locs : List Loc, locs = [] := ⟨_, rfl⟩
  have hP : va_P D cls (rW cI cJ cS lr sa po u1 u2 l1 l2 l3 l4 us vs lu lw lf lo lc ln fs bs sc x y fd) H := by rw [hH]; exact hP
  have hS : va_S A s.heap H locs := by rw [hH, hlo]; exact hS
  suffices hgo : W p l e rm_LoopRanker_rank s m ([.ref lr, .int (nI lev)] : List Value).toArray below meth c H locs 0 0 Q (F0 m 0 ls ([])) by rw [hH, hlo] at hgo; exact hgo
  clear hH hlo
  have hl : lv_has ls 2 [(0, .ref lr), (1, .int (nI lev))] := hl
  have hok := hI.1
  have hmap := hI.2.2.1
  have hsc := hI.2.1
  refine lv_aload_n X.1.1 X.1.2.1 d_LoopRanker_rank_0 rfl (lv_at hl 0 rfl) ?_
  refine fg_LoopRanker_19 X hP 0 rfl rfl d_LoopRanker_rank_1 ?_
  refine lv_aload_n X.1.1 X.1.2.1 d_LoopRanker_rank_4 rfl (lv_at hl 0 rfl) ?_
  refine fg_LoopRanker_11 X hP 0 rfl rfl d_LoopRanker_rank_5 ?_
  refine lv_aload_n X.1.1 X.1.2.1 d_LoopRanker_rank_8 rfl (lv_at hl 0 rfl) ?_
  refine fg_LoopRanker_23 X hP 0 rfl rfl d_LoopRanker_rank_9 ?_
  refine wc_Nv [.ref sa, .int (nI sc)] 2 1 X nz_nest (c_Proof_renew sa po u1 u2 l1 l2 l3 l4 us vs lu lw lf lo lc ln fs bs sc ds hI.2.2.1 hI.1 hI.2.1 hI.2.2.2) (cw_LoopRanker_107 X.1.2.2.2.2 X.2.2.1 (by decide)) ([(lr, .inr (3, [.ref sa, .ref po, .int (nI sc), .long x, .long y, .int fd]))]) ([]) (by rw [List.append_nil]; rfl) hP hD hS rfl rfl rfl rfl hl.1 (Nat.le_of_ble_eq_true rfl) (by decide) d_LoopRanker_rank_12 (fun H locs wn hwn hP hD hS => ?_)
  obtain ⟨lu2, lw2, lf2, lo2, lc2, ln2, bs2, rfl, hok2, hmap2, hPR⟩ := hwn
  rw [List.append_nil] at hP hD
  have hP : va_P D cls (rW cI cJ cS lr sa po u1 u2 l1 l2 l3 l4 us vs lu2 lw2 lf2 lo2 lc2 ln2 1 bs2 sc x y fd) H := hP
  have hD : va_D A (rW cI cJ cS lr sa po u1 u2 l1 l2 l3 l4 us vs lu2 lw2 lf2 lo2 lc2 ln2 1 bs2 sc x y fd) := hD
  obtain ⟨elc, eln, elo, ehas⟩ := c_PR_fin hPR
  have hlen := c_fin_len ds us vs sc
  have hlfl := c_lf_le (c_fin ds us vs sc).1 sc 0 0
  refine lv_aload_n X.1.1 X.1.2.1 d_LoopRanker_rank_15 rfl (lv_at hl 0 rfl) ?_
  refine fg_LoopRanker_19 X hP 0 rfl rfl d_LoopRanker_rank_16 ?_
  refine lv_iload_n X.1.1 X.1.2.1 d_LoopRanker_rank_19 rfl (lv_at hl 1 rfl) ?_
  refine wc_Ni [.int (nI lev)] 2 1 X nz_nest (c_Proof_hasLevel sa po u1 u2 l1 l2 l3 l4 us vs lu2 lw2 lf2 lo2 lc2 ln2 1 bs2 (nI lev) ) (cw_LoopRanker_121 X.1.2.2.2.2 X.2.2.1 (by decide)) ([(lr, .inr (3, [.ref sa, .ref po, .int (nI sc), .long x, .long y, .int fd]))]) ([]) (by rw [List.append_nil]; rfl) hP hD hS rfl rfl rfl rfl hl.1 (Nat.le_of_ble_eq_true rfl) (by decide) d_LoopRanker_rank_20 (fun H locs wn hwn hP hD hS => ?_)
  subst hwn
  rw [List.append_nil] at hP hD
  have hP : va_P D cls (rW cI cJ cS lr sa po u1 u2 l1 l2 l3 l4 us vs lu2 lw2 lf2 lo2 lc2 ln2 1 bs2 sc x y fd) H := hP
  have hD : va_D A (rW cI cJ cS lr sa po u1 u2 l1 l2 l3 l4 us vs lu2 lw2 lf2 lo2 lc2 ln2 1 bs2 sc x y fd) := hD
  refine wi0_eq (tgt := 45) X.1.1 X.1.2.1 d_LoopRanker_rank_23 (by decide) (fun h23 => absurd h23 (show ¬ m_th lc2 (nI lev) = 0 from by rw [m_th_1 (by omega) (by omega)]; decide)) (fun h23 => ?_)
  refine lv_aload_n X.1.1 X.1.2.1 d_LoopRanker_rank_26 rfl (lv_at hl 0 rfl) ?_
  refine fg_LoopRanker_19 X hP 0 rfl rfl d_LoopRanker_rank_27 ?_
  refine lv_iload_n X.1.1 X.1.2.1 d_LoopRanker_rank_30 rfl (lv_at hl 1 rfl) ?_
  refine lv_aload_n X.1.1 X.1.2.1 d_LoopRanker_rank_31 rfl (lv_at hl 0 rfl) ?_
  refine fg_LoopRanker_27 X hP 0 rfl rfl d_LoopRanker_rank_32 ?_
  refine lv_aload_n X.1.1 X.1.2.1 d_LoopRanker_rank_35 rfl (lv_at hl 0 rfl) ?_
  refine fg_LoopRanker_31 X hP 0 rfl rfl d_LoopRanker_rank_36 ?_
  refine wc_Nl [.int (nI lev), .long x, .long y] 2 1 X nz_nest (c_Proof_functionValue sa po u1 u2 l1 l2 l3 l4 us vs lu2 lw2 lf2 lo2 lc2 ln2 1 bs2 lev x y (by omega)) (cw_LoopRanker_145 X.1.2.2.2.2 X.2.2.1 (by decide)) ([(lr, .inr (3, [.ref sa, .ref po, .int (nI sc), .long x, .long y, .int fd]))]) ([]) (by rw [List.append_nil]; rfl) hP hD hS rfl rfl rfl rfl hl.1 (Nat.le_of_ble_eq_true rfl) (by decide) d_LoopRanker_rank_39 (fun H locs wn hwn hP hD hS => ?_)
  subst hwn
  rw [List.append_nil] at hP hD
  have hP : va_P D cls (rW cI cJ cS lr sa po u1 u2 l1 l2 l3 l4 us vs lu2 lw2 lf2 lo2 lc2 ln2 1 bs2 sc x y fd) H := hP
  have hD : va_D A (rW cI cJ cS lr sa po u1 u2 l1 l2 l3 l4 us vs lu2 lw2 lf2 lo2 lc2 ln2 1 bs2 sc x y fd) := hD
  refine lv_goto (tgt := 48) X.1.1 X.1.2.1 d_LoopRanker_rank_42 (by decide) ?_
  exact hret 48 H locs ls _ _ hP hD hS d_LoopRanker_rank_48 (by rw [(ehas lev hlt).1, (ehas lev hlt).2.1]) (⟨lu2, lw2, lf2, lo2, lc2, ln2, 1, bs2, rfl, hok2, hI.2.1, hmap2, fun _ => ⟨rfl, hPR⟩⟩)
set_option maxHeartbeats 4000000 in
set_option maxRecDepth 100000 in
theorem c_LoopRanker_budget (lr sa po u1 u2 l1 l2 l3 l4 : Nat) (us vs lu lw : Nat → Int32) (lf : Nat → Int64) (lo : Nat → Int32) (lc ln : Nat) (fs : Int32) (bs : List bT) (sc : Nat) (x y : Int64) (fd : Int32) (ds : List bDt) (hI : rI us vs ds sc lu lw lf lo lc ln fs bs) : wk_kl l y_LoopRanker_budget (Cond.code y_LoopRanker_budget b_LoopRanker_budget 1 (some .long) :: BW) rm_LoopRanker_budget D cls (kT cI cJ cS) nz [.ref lr] (rW cI cJ cS lr sa po u1 u2 l1 l2 l3 l4 us vs lu lw lf lo lc ln fs bs sc x y fd) (fun wz => ∃ lu2 lw2 lf2 lo2 lc2 ln2 fs2 bs2, wz = rW cI cJ cS lr sa po u1 u2 l1 l2 l3 l4 us vs lu2 lw2 lf2 lo2 lc2 ln2 fs2 bs2 sc x y fd ∧ rI us vs ds sc lu2 lw2 lf2 lo2 lc2 ln2 fs2 bs2) (r_bud (c_fin ds us vs sc).2 (c_lf (c_fin ds us vs sc).1 sc 0 0) x y) := by
  refine ws_l (plainFor_of_name (by decide)) (Nat.le_of_ble_eq_true rfl) ?_
  intro p e s m below meth c A ls Q X hret hl hP hD hS
  obtain ⟨H, hH⟩ : ∃ H, H = s.heap := ⟨_, rfl⟩
  obtain ⟨locs, hlo⟩ : ∃ locs : List Loc, locs = [] := ⟨_, rfl⟩
  have hP : va_P D cls (rW cI cJ cS lr sa po u1 u2 l1 l2 l3 l4 us vs lu lw lf lo lc ln fs bs sc x y fd) H := by rw [hH]; exact hP
  have hS : va_S A s.heap H locs := by rw [hH, hlo]; exact hS
  suffices hgo : W p l e rm_LoopRanker_budget s m ([.ref lr] : List Value).toArray below meth c H locs 0 0 Q (F0 m 0 ls ([])) by rw [hH, hlo] at hgo; exact hgo
  clear hH hlo
  have hl : lv_has ls 1 [(0, .ref lr)] := hl
  have hok := hI.1
  have hmap := hI.2.2.1
  have hsc := hI.2.1
  refine lv_aload_n X.1.1 X.1.2.1 d_LoopRanker_budget_0 rfl (lv_at hl 0 rfl) ?_
  refine fg_LoopRanker_19 X hP 0 rfl rfl d_LoopRanker_budget_1 ?_
  refine lv_aload_n X.1.1 X.1.2.1 d_LoopRanker_budget_4 rfl (lv_at hl 0 rfl) ?_
  refine fg_LoopRanker_11 X hP 0 rfl rfl d_LoopRanker_budget_5 ?_
  refine lv_aload_n X.1.1 X.1.2.1 d_LoopRanker_budget_8 rfl (lv_at hl 0 rfl) ?_
  refine fg_LoopRanker_23 X hP 0 rfl rfl d_LoopRanker_budget_9 ?_
  refine wc_Nv [.ref sa, .int (nI sc)] 2 1 X nz_nest (c_Proof_renew sa po u1 u2 l1 l2 l3 l4 us vs lu lw lf lo lc ln fs bs sc ds hI.2.2.1 hI.1 hI.2.1 hI.2.2.2) (cw_LoopRanker_107 X.1.2.2.2.2 X.2.2.1 (by decide)) ([(lr, .inr (3, [.ref sa, .ref po, .int (nI sc), .long x, .long y, .int fd]))]) ([]) (by rw [List.append_nil]; rfl) hP hD hS rfl rfl rfl rfl hl.1 (Nat.le_of_ble_eq_true rfl) (by decide) d_LoopRanker_budget_12 (fun H locs wn hwn hP hD hS => ?_)
  obtain ⟨lu2, lw2, lf2, lo2, lc2, ln2, bs2, rfl, hok2, hmap2, hPR⟩ := hwn
  rw [List.append_nil] at hP hD
  have hP : va_P D cls (rW cI cJ cS lr sa po u1 u2 l1 l2 l3 l4 us vs lu2 lw2 lf2 lo2 lc2 ln2 1 bs2 sc x y fd) H := hP
  have hD : va_D A (rW cI cJ cS lr sa po u1 u2 l1 l2 l3 l4 us vs lu2 lw2 lf2 lo2 lc2 ln2 1 bs2 sc x y fd) := hD
  obtain ⟨elc, eln, elo, ehas⟩ := c_PR_fin hPR
  have hlen := c_fin_len ds us vs sc
  have hlfl := c_lf_le (c_fin ds us vs sc).1 sc 0 0
  refine lv_aload_n X.1.1 X.1.2.1 d_LoopRanker_budget_15 rfl (lv_at hl 0 rfl) ?_
  refine fg_LoopRanker_19 X hP 0 rfl rfl d_LoopRanker_budget_16 ?_
  refine fg_LoopRanker_114 X hP 2 rfl rfl d_LoopRanker_budget_19 ?_
  refine wn_if_ne (a := ln2) (tgt := 36) X.1.1 X.1.2.1 d_LoopRanker_budget_22 (by decide) (by omega) (fun h22 => ?_) (fun h22 => ?_)
  · refine lv_ldc2 (v := -1) X.1.1 X.1.2.1 X.1.2.2.2.1 (X.1.2.2.2.2 _ kc_LoopRanker_148) d_LoopRanker_budget_36 ?_
    exact hret 39 H locs ls _ _ hP hD hS d_LoopRanker_budget_39 (by unfold r_bud; rw [if_neg (show ¬ c_lf (c_fin ds us vs sc).1 sc 0 0 = 0 from by rw [← eln]; exact h22)]) (⟨lu2, lw2, lf2, lo2, lc2, ln2, 1, bs2, rfl, hok2, hI.2.1, hmap2, fun _ => ⟨rfl, hPR⟩⟩)
  · refine lv_aload_n X.1.1 X.1.2.1 d_LoopRanker_budget_25 rfl (lv_at hl 0 rfl) ?_
    refine fg_LoopRanker_19 X hP 0 rfl rfl d_LoopRanker_budget_26 ?_
    refine fg_LoopRanker_111 X hP 2 rfl rfl d_LoopRanker_budget_29 ?_
    refine lv_iconst (v := (1 : Int32)) X.1.1 X.1.2.1 d_LoopRanker_budget_32 (by decide) ?_
    refine wn_eq (a := lc2) (b := 1) (tgt := 40) X.1.1 X.1.2.1 d_LoopRanker_budget_33 (by decide) (by omega) (by omega) (fun h33 => ?_) (fun h33 => ?_)
    · refine lv_lconst (v := 0) X.1.1 X.1.2.1 d_LoopRanker_budget_40 (by decide) ?_
      refine lv_aload_n X.1.1 X.1.2.1 d_LoopRanker_budget_41 rfl (lv_at hl 0 rfl) ?_
      refine fg_LoopRanker_19 X hP 0 rfl rfl d_LoopRanker_budget_42 ?_
      refine lv_iconst (v := (0 : Int32)) X.1.1 X.1.2.1 d_LoopRanker_budget_45 (by decide) ?_
      refine lv_aload_n X.1.1 X.1.2.1 d_LoopRanker_budget_46 rfl (lv_at hl 0 rfl) ?_
      refine fg_LoopRanker_27 X hP 0 rfl rfl d_LoopRanker_budget_47 ?_
      refine lv_aload_n X.1.1 X.1.2.1 d_LoopRanker_budget_50 rfl (lv_at hl 0 rfl) ?_
      refine fg_LoopRanker_31 X hP 0 rfl rfl d_LoopRanker_budget_51 ?_
      refine wc_Nl [.int (0 : Int32), .long x, .long y] 2 1 X nz_nest (c_Proof_functionValue sa po u1 u2 l1 l2 l3 l4 us vs lu2 lw2 lf2 lo2 lc2 ln2 1 bs2 0 x y (by omega)) (cw_LoopRanker_145 X.1.2.2.2.2 X.2.2.1 (by decide)) ([(lr, .inr (3, [.ref sa, .ref po, .int (nI sc), .long x, .long y, .int fd]))]) ([]) (by rw [List.append_nil]; rfl) hP hD hS rfl rfl rfl rfl hl.1 (Nat.le_of_ble_eq_true rfl) (by decide) d_LoopRanker_budget_54 (fun H locs wn hwn hP hD hS => ?_)
      subst hwn
      rw [List.append_nil] at hP hD
      have hP : va_P D cls (rW cI cJ cS lr sa po u1 u2 l1 l2 l3 l4 us vs lu2 lw2 lf2 lo2 lc2 ln2 1 bs2 sc x y fd) H := hP
      have hD : va_D A (rW cI cJ cS lr sa po u1 u2 l1 l2 l3 l4 us vs lu2 lw2 lf2 lo2 lc2 ln2 1 bs2 sc x y fd) := hD
      refine lv_aload_n X.1.1 X.1.2.1 d_LoopRanker_budget_57 rfl (lv_at hl 0 rfl) ?_
      refine fg_LoopRanker_19 X hP 0 rfl rfl d_LoopRanker_budget_58 ?_
      refine fg_LoopRanker_130 X hP 2 rfl rfl d_LoopRanker_budget_61 ?_
      refine lv_iconst (v := (0 : Int32)) X.1.1 X.1.2.1 d_LoopRanker_budget_64 (by decide) ?_
      refine wa_lld X.1.1 X.1.2.1 X.2.1 hP 7 1 rfl rfl 0 rfl (by omega) (by decide) d_LoopRanker_budget_65 ?_
      refine lv_lsub X.1.1 X.1.2.1 d_LoopRanker_budget_66 ?_
      refine lv_lconst (v := 1) X.1.1 X.1.2.1 d_LoopRanker_budget_67 (by decide) ?_
      refine lv_ladd X.1.1 X.1.2.1 d_LoopRanker_budget_68 ?_
      refine wm_max_LoopRanker_150 X hl.1 (by decide) (Nat.le_of_ble_eq_true rfl) (by decide) d_LoopRanker_budget_69 ?_
      exact hret 72 H locs ls _ _ hP hD hS d_LoopRanker_budget_72 (by have hz := ehas 0 (by omega); unfold r_bud; rw [if_pos (show c_lf (c_fin ds us vs sc).1 sc 0 0 = 0 from by rw [← eln]; exact h22), if_pos (show (c_fin ds us vs sc).2.length = 1 from by rw [← elc]; exact h33), ← hz.1, ← hz.2.1, ← hz.2.2]; exact r_max _) (⟨lu2, lw2, lf2, lo2, lc2, ln2, 1, bs2, rfl, hok2, hI.2.1, hmap2, fun _ => ⟨rfl, hPR⟩⟩)
    · refine lv_ldc2 (v := -1) X.1.1 X.1.2.1 X.1.2.2.2.1 (X.1.2.2.2.2 _ kc_LoopRanker_148) d_LoopRanker_budget_36 ?_
      exact hret 39 H locs ls _ _ hP hD hS d_LoopRanker_budget_39 (by unfold r_bud; rw [if_pos (show c_lf (c_fin ds us vs sc).1 sc 0 0 = 0 from by rw [← eln]; exact h22), if_neg (show ¬ (c_fin ds us vs sc).2.length = 1 from by rw [← elc]; exact h33)]) (⟨lu2, lw2, lf2, lo2, lc2, ln2, 1, bs2, rfl, hok2, hI.2.1, hmap2, fun _ => ⟨rfl, hPR⟩⟩)
end CT
