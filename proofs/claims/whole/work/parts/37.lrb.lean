section CT
variable {l : Launch} {D : va_G} {cI cJ cS : ClassId}
set_option maxHeartbeats 4000000 in
set_option maxRecDepth 100000 in
theorem c_LoopRanker_update_bad (lr sa po u1 u2 l1 l2 l3 l4 : Nat) (us vs lu lw : Nat → Int32) (lf : Nat → Int64) (lo : Nat → Int32) (lc ln : Nat) (fs : Int32) (bs : List bT) (sc : Nat) (x y : Int64) (fd : Int32) (t v ua ub uk : Int32) (ds : List bDt) (hI : rI us vs ds sc lu lw lf lo lc ln fs bs) (hbad : m_th sc t = 0) : wk_ki l y_LoopRanker_update (Cond.code y_LoopRanker_update b_LoopRanker_update 6 (some .boolean) :: BW) rm_LoopRanker_update D cls (kT cI cJ cS) nz [.ref lr, .int t, .int v, .int ua, .int ub, .int uk] (rW cI cJ cS lr sa po u1 u2 l1 l2 l3 l4 us vs lu lw lf lo lc ln fs bs sc x y fd) (fun wz => ∃ lu2 lw2 lf2 lo2 lc2 ln2 fs2 bs2, wz = rW cI cJ cS lr sa po u1 u2 l1 l2 l3 l4 us vs lu2 lw2 lf2 lo2 lc2 ln2 fs2 bs2 sc x y fd ∧ rI us vs ds sc lu2 lw2 lf2 lo2 lc2 ln2 fs2 bs2) 0 := by
  refine ws_z (plainFor_of_name (by decide)) (Nat.le_of_ble_eq_true rfl) ?_
  intro p e s m below meth c A ls Q X hret hl hP hD hS
  obtain ⟨H, hH⟩ : ∃ H, H = s.heap := ⟨_, rfl⟩
  obtain ⟨locs, hlo⟩ : ∃ locs : List Loc, locs = [] := ⟨_, rfl⟩
  have hP : va_P D cls (rW cI cJ cS lr sa po u1 u2 l1 l2 l3 l4 us vs lu lw lf lo lc ln fs bs sc x y fd) H := by rw [hH]; exact hP
  have hS : va_S A s.heap H locs := by rw [hH, hlo]; exact hS
  suffices hgo : W p l e rm_LoopRanker_update s m ([.ref lr, .int t, .int v, .int ua, .int ub, .int uk] : List Value).toArray below meth c H locs 0 0 Q (F0 m 0 ls ([])) by rw [hH, hlo] at hgo; exact hgo
  clear hH hlo
  have hl : lv_has ls 6 [(0, .ref lr), (1, .int t), (2, .int v), (3, .int ua), (4, .int ub), (5, .int uk)] := hl
  have hok := hI.1
  have hmap := hI.2.2.1
  have hsc := hI.2.1
  refine lv_aload_n X.1.1 X.1.2.1 d_LoopRanker_update_0 rfl (lv_at hl 0 rfl) ?_
  refine lv_iload_n X.1.1 X.1.2.1 d_LoopRanker_update_1 rfl (lv_at hl 1 rfl) ?_
  refine wc_Vi [.int t] 3 0 X nz_nest (c_LoopRanker_isStep lr sa po u1 u2 l1 l2 l3 l4 us vs lu lw lf lo lc ln fs bs sc x y fd t) (cw_LoopRanker_44 X.1.2.2.2.2 X.2.2.1 (by decide)) ([]) ([]) ((List.append_nil _).symm) hP hD hS rfl rfl rfl rfl hl.1 (Nat.le_of_ble_eq_true rfl) (by decide) d_LoopRanker_update_2 (fun H locs wn hwn hP hD hS => ?_)
  subst hwn
  rw [List.nil_append, List.append_nil] at hP hD
  have hP : va_P D cls (rW cI cJ cS lr sa po u1 u2 l1 l2 l3 l4 us vs lu lw lf lo lc ln fs bs sc x y fd) H := hP
  have hD : va_D A (rW cI cJ cS lr sa po u1 u2 l1 l2 l3 l4 us vs lu lw lf lo lc ln fs bs sc x y fd) := hD
  refine wi0_eq (tgt := 50) X.1.1 X.1.2.1 d_LoopRanker_update_5 (by decide) (fun h5 => ?_) (fun h5 => absurd hbad h5)
  refine lv_iconst (v := (0 : Int32)) X.1.1 X.1.2.1 d_LoopRanker_update_50 (by decide) ?_
  exact hret 51 H locs ls _ _ hP hD hS d_LoopRanker_update_51 (Or.inl rfl) (rfl) (⟨lu, lw, lf, lo, _, _, _, bs, rfl, hok, hI.2.1, hmap, hI.2.2.2⟩)
set_option maxHeartbeats 4000000 in
set_option maxRecDepth 100000 in
theorem c_LoopRanker_update_no (lr sa po u1 u2 l1 l2 l3 l4 : Nat) (us vs lu lw : Nat → Int32) (lf : Nat → Int64) (lo : Nat → Int32) (lc ln : Nat) (fs : Int32) (bs : List bT) (sc : Nat) (x y : Int64) (fd : Int32) (t : Nat) (v ua ub uk : Int32) (ds : List bDt) (hI : rI us vs ds sc lu lw lf lo lc ln fs bs) (ht : t < sc) (hno : r_v v = 0 ∨ r_w ua.toInt64 3 = 0 ∨ r_w ub.toInt64 3 = 0 ∨ r_w uk.toInt64 20 = 0) : wk_ki l y_LoopRanker_update (Cond.code y_LoopRanker_update b_LoopRanker_update 6 (some .boolean) :: BW) rm_LoopRanker_update D cls (kT cI cJ cS) nz [.ref lr, .int (nI t), .int v, .int ua, .int ub, .int uk] (rW cI cJ cS lr sa po u1 u2 l1 l2 l3 l4 us vs lu lw lf lo lc ln fs bs sc x y fd) (fun wz => ∃ lu2 lw2 lf2 lo2 lc2 ln2 fs2 bs2, wz = rW cI cJ cS lr sa po u1 u2 l1 l2 l3 l4 us vs lu2 lw2 lf2 lo2 lc2 ln2 fs2 bs2 sc x y fd ∧ rI us vs ds sc lu2 lw2 lf2 lo2 lc2 ln2 fs2 bs2) 0 := by
  refine ws_z (plainFor_of_name (by decide)) (Nat.le_of_ble_eq_true rfl) ?_
  intro p e s m below meth c A ls Q X hret hl hP hD hS
  obtain ⟨H, hH⟩ : ∃ H, H = s.heap := ⟨_, rfl⟩
  obtain ⟨locs, hlo⟩ : ∃ locs : List Loc, locs = [] := ⟨_, rfl⟩
  have hP : va_P D cls (rW cI cJ cS lr sa po u1 u2 l1 l2 l3 l4 us vs lu lw lf lo lc ln fs bs sc x y fd) H := by rw [hH]; exact hP
  have hS : va_S A s.heap H locs := by rw [hH, hlo]; exact hS
  suffices hgo : W p l e rm_LoopRanker_update s m ([.ref lr, .int (nI t), .int v, .int ua, .int ub, .int uk] : List Value).toArray below meth c H locs 0 0 Q (F0 m 0 ls ([])) by rw [hH, hlo] at hgo; exact hgo
  clear hH hlo
  have hl : lv_has ls 6 [(0, .ref lr), (1, .int (nI t)), (2, .int v), (3, .int ua), (4, .int ub), (5, .int uk)] := hl
  have hok := hI.1
  have hmap := hI.2.2.1
  have hsc := hI.2.1
  refine lv_aload_n X.1.1 X.1.2.1 d_LoopRanker_update_0 rfl (lv_at hl 0 rfl) ?_
  refine lv_iload_n X.1.1 X.1.2.1 d_LoopRanker_update_1 rfl (lv_at hl 1 rfl) ?_
  refine wc_Vi [.int (nI t)] 3 0 X nz_nest (c_LoopRanker_isStep lr sa po u1 u2 l1 l2 l3 l4 us vs lu lw lf lo lc ln fs bs sc x y fd (nI t)) (cw_LoopRanker_44 X.1.2.2.2.2 X.2.2.1 (by decide)) ([]) ([]) ((List.append_nil _).symm) hP hD hS rfl rfl rfl rfl hl.1 (Nat.le_of_ble_eq_true rfl) (by decide) d_LoopRanker_update_2 (fun H locs wn hwn hP hD hS => ?_)
  subst hwn
  rw [List.nil_append, List.append_nil] at hP hD
  have hP : va_P D cls (rW cI cJ cS lr sa po u1 u2 l1 l2 l3 l4 us vs lu lw lf lo lc ln fs bs sc x y fd) H := hP
  have hD : va_D A (rW cI cJ cS lr sa po u1 u2 l1 l2 l3 l4 us vs lu lw lf lo lc ln fs bs sc x y fd) := hD
  refine wi0_eq (tgt := 50) X.1.1 X.1.2.1 d_LoopRanker_update_5 (by decide) (fun h5 => absurd h5 (by rw [m_th_1 (by omega) (by omega)]; decide)) (fun h5 => ?_)
  refine lv_iload_n X.1.1 X.1.2.1 d_LoopRanker_update_8 rfl (lv_at hl 2 rfl) ?_
  refine wc_Si [.int v] X nz_nest (c_LoopRanker_isVariable v) (cw_LoopRanker_69 X.1.2.2.2.2 X.2.2.1 (by decide)) (rW cI cJ cS lr sa po u1 u2 l1 l2 l3 l4 us vs lu lw lf lo lc ln fs bs sc x y fd) ([]) (by rw [List.append_nil, List.append_nil]) hP hD hS rfl rfl hl.1 (Nat.le_of_ble_eq_true rfl) (by decide) d_LoopRanker_update_9 (fun H locs wn hwn hP hD hS => ?_)
  subst hwn
  rw [List.nil_append, List.append_nil] at hP hD
  have hP : va_P D cls (rW cI cJ cS lr sa po u1 u2 l1 l2 l3 l4 us vs lu lw lf lo lc ln fs bs sc x y fd) H := hP
  have hD : va_D A (rW cI cJ cS lr sa po u1 u2 l1 l2 l3 l4 us vs lu lw lf lo lc ln fs bs sc x y fd) := hD
  refine wi0_eq (tgt := 50) X.1.1 X.1.2.1 d_LoopRanker_update_12 (by decide) (fun h12 => ?_) (fun h12 => ?_)
  · refine lv_iconst (v := (0 : Int32)) X.1.1 X.1.2.1 d_LoopRanker_update_50 (by decide) ?_
    exact hret 51 H locs ls _ _ hP hD hS d_LoopRanker_update_51 (Or.inl rfl) (rfl) (⟨lu, lw, lf, lo, _, _, _, bs, rfl, hok, hI.2.1, hmap, hI.2.2.2⟩)
  · refine lv_iload_n X.1.1 X.1.2.1 d_LoopRanker_update_15 rfl (lv_at hl 3 rfl) ?_
    refine lv_i2l X.1.1 X.1.2.1 d_LoopRanker_update_16 rfl ?_
    refine lv_ldc2 (v := 3) X.1.1 X.1.2.1 X.1.2.2.2.1 (X.1.2.2.2.2 _ kc_LoopRanker_72) d_LoopRanker_update_17 ?_
    refine wc_Si [.long ua.toInt64, .long (3 : Int64)] X nz_nest (c_LoopRanker_isWithin ua.toInt64 (3 : Int64)) (cw_LoopRanker_50 X.1.2.2.2.2 X.2.2.1 (by decide)) (rW cI cJ cS lr sa po u1 u2 l1 l2 l3 l4 us vs lu lw lf lo lc ln fs bs sc x y fd) ([]) (by rw [List.append_nil, List.append_nil]) hP hD hS rfl rfl hl.1 (Nat.le_of_ble_eq_true rfl) (by decide) d_LoopRanker_update_20 (fun H locs wn hwn hP hD hS => ?_)
    subst hwn
    rw [List.nil_append, List.append_nil] at hP hD
    have hP : va_P D cls (rW cI cJ cS lr sa po u1 u2 l1 l2 l3 l4 us vs lu lw lf lo lc ln fs bs sc x y fd) H := hP
    have hD : va_D A (rW cI cJ cS lr sa po u1 u2 l1 l2 l3 l4 us vs lu lw lf lo lc ln fs bs sc x y fd) := hD
    refine wi0_eq (tgt := 50) X.1.1 X.1.2.1 d_LoopRanker_update_23 (by decide) (fun h23 => ?_) (fun h23 => ?_)
    · refine lv_iconst (v := (0 : Int32)) X.1.1 X.1.2.1 d_LoopRanker_update_50 (by decide) ?_
      exact hret 51 H locs ls _ _ hP hD hS d_LoopRanker_update_51 (Or.inl rfl) (rfl) (⟨lu, lw, lf, lo, _, _, _, bs, rfl, hok, hI.2.1, hmap, hI.2.2.2⟩)
    · refine lv_iload X.1.1 X.1.2.1 d_LoopRanker_update_26 (lv_at hl 4 rfl) ?_
      refine lv_i2l X.1.1 X.1.2.1 d_LoopRanker_update_28 rfl ?_
      refine lv_ldc2 (v := 3) X.1.1 X.1.2.1 X.1.2.2.2.1 (X.1.2.2.2.2 _ kc_LoopRanker_72) d_LoopRanker_update_29 ?_
      refine wc_Si [.long ub.toInt64, .long (3 : Int64)] X nz_nest (c_LoopRanker_isWithin ub.toInt64 (3 : Int64)) (cw_LoopRanker_50 X.1.2.2.2.2 X.2.2.1 (by decide)) (rW cI cJ cS lr sa po u1 u2 l1 l2 l3 l4 us vs lu lw lf lo lc ln fs bs sc x y fd) ([]) (by rw [List.append_nil, List.append_nil]) hP hD hS rfl rfl hl.1 (Nat.le_of_ble_eq_true rfl) (by decide) d_LoopRanker_update_32 (fun H locs wn hwn hP hD hS => ?_)
      subst hwn
      rw [List.nil_append, List.append_nil] at hP hD
      have hP : va_P D cls (rW cI cJ cS lr sa po u1 u2 l1 l2 l3 l4 us vs lu lw lf lo lc ln fs bs sc x y fd) H := hP
      have hD : va_D A (rW cI cJ cS lr sa po u1 u2 l1 l2 l3 l4 us vs lu lw lf lo lc ln fs bs sc x y fd) := hD
      refine wi0_eq (tgt := 50) X.1.1 X.1.2.1 d_LoopRanker_update_35 (by decide) (fun h35 => ?_) (fun h35 => ?_)
      · refine lv_iconst (v := (0 : Int32)) X.1.1 X.1.2.1 d_LoopRanker_update_50 (by decide) ?_
        exact hret 51 H locs ls _ _ hP hD hS d_LoopRanker_update_51 (Or.inl rfl) (rfl) (⟨lu, lw, lf, lo, _, _, _, bs, rfl, hok, hI.2.1, hmap, hI.2.2.2⟩)
      · refine lv_iload X.1.1 X.1.2.1 d_LoopRanker_update_38 (lv_at hl 5 rfl) ?_
        refine lv_i2l X.1.1 X.1.2.1 d_LoopRanker_update_40 rfl ?_
        refine lv_ldc2 (v := 20) X.1.1 X.1.2.1 X.1.2.2.2.1 (X.1.2.2.2.2 _ kc_LoopRanker_74) d_LoopRanker_update_41 ?_
        refine wc_Si [.long uk.toInt64, .long (20 : Int64)] X nz_nest (c_LoopRanker_isWithin uk.toInt64 (20 : Int64)) (cw_LoopRanker_50 X.1.2.2.2.2 X.2.2.1 (by decide)) (rW cI cJ cS lr sa po u1 u2 l1 l2 l3 l4 us vs lu lw lf lo lc ln fs bs sc x y fd) ([]) (by rw [List.append_nil, List.append_nil]) hP hD hS rfl rfl hl.1 (Nat.le_of_ble_eq_true rfl) (by decide) d_LoopRanker_update_44 (fun H locs wn hwn hP hD hS => ?_)
        subst hwn
        rw [List.nil_append, List.append_nil] at hP hD
        have hP : va_P D cls (rW cI cJ cS lr sa po u1 u2 l1 l2 l3 l4 us vs lu lw lf lo lc ln fs bs sc x y fd) H := hP
        have hD : va_D A (rW cI cJ cS lr sa po u1 u2 l1 l2 l3 l4 us vs lu lw lf lo lc ln fs bs sc x y fd) := hD
        refine wi0_ne (tgt := 52) X.1.1 X.1.2.1 d_LoopRanker_update_47 (by decide) (fun h47 => guard_no hno h12 h23 h35 h47) (fun h47 => ?_)
        refine lv_iconst (v := (0 : Int32)) X.1.1 X.1.2.1 d_LoopRanker_update_50 (by decide) ?_
        exact hret 51 H locs ls _ _ hP hD hS d_LoopRanker_update_51 (Or.inl rfl) (rfl) (⟨lu, lw, lf, lo, _, _, _, bs, rfl, hok, hI.2.1, hmap, hI.2.2.2⟩)
set_option maxHeartbeats 4000000 in
set_option maxRecDepth 100000 in
theorem c_LoopRanker_update (lr sa po u1 u2 l1 l2 l3 l4 : Nat) (us vs lu lw : Nat → Int32) (lf : Nat → Int64) (lo : Nat → Int32) (lc ln : Nat) (fs : Int32) (bs : List bT) (sc : Nat) (x y : Int64) (fd : Int32) (t : Nat) (v ua ub uk : Int32) (ds : List bDt) (hI : rI us vs ds sc lu lw lf lo lc ln fs bs) (ht : t < sc) (hyes : ¬ (r_v v = 0 ∨ r_w ua.toInt64 3 = 0 ∨ r_w ub.toInt64 3 = 0 ∨ r_w uk.toInt64 20 = 0)) : wk_ki l y_LoopRanker_update (Cond.code y_LoopRanker_update b_LoopRanker_update 6 (some .boolean) :: BW) rm_LoopRanker_update D cls (kT cI cJ cS) nz [.ref lr, .int (nI t), .int v, .int ua, .int ub, .int uk] (rW cI cJ cS lr sa po u1 u2 l1 l2 l3 l4 us vs lu lw lf lo lc ln fs bs sc x y fd) (fun wz => ∃ lu2 lw2 lf2 lo2 lc2 ln2 fs2 bs2, wz = rW cI cJ cS lr sa po u1 u2 l1 l2 l3 l4 us vs lu2 lw2 lf2 lo2 lc2 ln2 fs2 bs2 sc x y fd ∧ rI us vs (ds.set t (dRule (dAt ds t) v ua ub uk)) sc lu2 lw2 lf2 lo2 lc2 ln2 fs2 bs2) 1 := by
  refine ws_z (plainFor_of_name (by decide)) (Nat.le_of_ble_eq_true rfl) ?_
  intro p e s m below meth c A ls Q X hret hl hP hD hS
  obtain ⟨H, hH⟩ : ∃ H, H = s.heap := ⟨_, rfl⟩
  obtain ⟨locs, hlo⟩ : ∃ locs : List Loc, locs = [] := ⟨_, rfl⟩
  have hP : va_P D cls (rW cI cJ cS lr sa po u1 u2 l1 l2 l3 l4 us vs lu lw lf lo lc ln fs bs sc x y fd) H := by rw [hH]; exact hP
  have hS : va_S A s.heap H locs := by rw [hH, hlo]; exact hS
  suffices hgo : W p l e rm_LoopRanker_update s m ([.ref lr, .int (nI t), .int v, .int ua, .int ub, .int uk] : List Value).toArray below meth c H locs 0 0 Q (F0 m 0 ls ([])) by rw [hH, hlo] at hgo; exact hgo
  clear hH hlo
  have hl : lv_has ls 6 [(0, .ref lr), (1, .int (nI t)), (2, .int v), (3, .int ua), (4, .int ub), (5, .int uk)] := hl
  have hok := hI.1
  have hmap := hI.2.2.1
  have hsc := hI.2.1
  refine lv_aload_n X.1.1 X.1.2.1 d_LoopRanker_update_0 rfl (lv_at hl 0 rfl) ?_
  refine lv_iload_n X.1.1 X.1.2.1 d_LoopRanker_update_1 rfl (lv_at hl 1 rfl) ?_
  refine wc_Vi [.int (nI t)] 3 0 X nz_nest (c_LoopRanker_isStep lr sa po u1 u2 l1 l2 l3 l4 us vs lu lw lf lo lc ln fs bs sc x y fd (nI t)) (cw_LoopRanker_44 X.1.2.2.2.2 X.2.2.1 (by decide)) ([]) ([]) ((List.append_nil _).symm) hP hD hS rfl rfl rfl rfl hl.1 (Nat.le_of_ble_eq_true rfl) (by decide) d_LoopRanker_update_2 (fun H locs wn hwn hP hD hS => ?_)
  subst hwn
  rw [List.nil_append, List.append_nil] at hP hD
  have hP : va_P D cls (rW cI cJ cS lr sa po u1 u2 l1 l2 l3 l4 us vs lu lw lf lo lc ln fs bs sc x y fd) H := hP
  have hD : va_D A (rW cI cJ cS lr sa po u1 u2 l1 l2 l3 l4 us vs lu lw lf lo lc ln fs bs sc x y fd) := hD
  refine wi0_eq (tgt := 50) X.1.1 X.1.2.1 d_LoopRanker_update_5 (by decide) (fun h5 => absurd h5 (by rw [m_th_1 (by omega) (by omega)]; decide)) (fun h5 => ?_)
  refine lv_iload_n X.1.1 X.1.2.1 d_LoopRanker_update_8 rfl (lv_at hl 2 rfl) ?_
  refine wc_Si [.int v] X nz_nest (c_LoopRanker_isVariable v) (cw_LoopRanker_69 X.1.2.2.2.2 X.2.2.1 (by decide)) (rW cI cJ cS lr sa po u1 u2 l1 l2 l3 l4 us vs lu lw lf lo lc ln fs bs sc x y fd) ([]) (by rw [List.append_nil, List.append_nil]) hP hD hS rfl rfl hl.1 (Nat.le_of_ble_eq_true rfl) (by decide) d_LoopRanker_update_9 (fun H locs wn hwn hP hD hS => ?_)
  subst hwn
  rw [List.nil_append, List.append_nil] at hP hD
  have hP : va_P D cls (rW cI cJ cS lr sa po u1 u2 l1 l2 l3 l4 us vs lu lw lf lo lc ln fs bs sc x y fd) H := hP
  have hD : va_D A (rW cI cJ cS lr sa po u1 u2 l1 l2 l3 l4 us vs lu lw lf lo lc ln fs bs sc x y fd) := hD
  refine wi0_eq (tgt := 50) X.1.1 X.1.2.1 d_LoopRanker_update_12 (by decide) (fun h12 => absurd (by simp [h12]) hyes) (fun h12 => ?_)
  refine lv_iload_n X.1.1 X.1.2.1 d_LoopRanker_update_15 rfl (lv_at hl 3 rfl) ?_
  refine lv_i2l X.1.1 X.1.2.1 d_LoopRanker_update_16 rfl ?_
  refine lv_ldc2 (v := 3) X.1.1 X.1.2.1 X.1.2.2.2.1 (X.1.2.2.2.2 _ kc_LoopRanker_72) d_LoopRanker_update_17 ?_
  refine wc_Si [.long ua.toInt64, .long (3 : Int64)] X nz_nest (c_LoopRanker_isWithin ua.toInt64 (3 : Int64)) (cw_LoopRanker_50 X.1.2.2.2.2 X.2.2.1 (by decide)) (rW cI cJ cS lr sa po u1 u2 l1 l2 l3 l4 us vs lu lw lf lo lc ln fs bs sc x y fd) ([]) (by rw [List.append_nil, List.append_nil]) hP hD hS rfl rfl hl.1 (Nat.le_of_ble_eq_true rfl) (by decide) d_LoopRanker_update_20 (fun H locs wn hwn hP hD hS => ?_)
  subst hwn
  rw [List.nil_append, List.append_nil] at hP hD
  have hP : va_P D cls (rW cI cJ cS lr sa po u1 u2 l1 l2 l3 l4 us vs lu lw lf lo lc ln fs bs sc x y fd) H := hP
  have hD : va_D A (rW cI cJ cS lr sa po u1 u2 l1 l2 l3 l4 us vs lu lw lf lo lc ln fs bs sc x y fd) := hD
  refine wi0_eq (tgt := 50) X.1.1 X.1.2.1 d_LoopRanker_update_23 (by decide) (fun h23 => absurd (by simp [h23]) hyes) (fun h23 => ?_)
  refine lv_iload X.1.1 X.1.2.1 d_LoopRanker_update_26 (lv_at hl 4 rfl) ?_
  refine lv_i2l X.1.1 X.1.2.1 d_LoopRanker_update_28 rfl ?_
  refine lv_ldc2 (v := 3) X.1.1 X.1.2.1 X.1.2.2.2.1 (X.1.2.2.2.2 _ kc_LoopRanker_72) d_LoopRanker_update_29 ?_
  refine wc_Si [.long ub.toInt64, .long (3 : Int64)] X nz_nest (c_LoopRanker_isWithin ub.toInt64 (3 : Int64)) (cw_LoopRanker_50 X.1.2.2.2.2 X.2.2.1 (by decide)) (rW cI cJ cS lr sa po u1 u2 l1 l2 l3 l4 us vs lu lw lf lo lc ln fs bs sc x y fd) ([]) (by rw [List.append_nil, List.append_nil]) hP hD hS rfl rfl hl.1 (Nat.le_of_ble_eq_true rfl) (by decide) d_LoopRanker_update_32 (fun H locs wn hwn hP hD hS => ?_)
  subst hwn
  rw [List.nil_append, List.append_nil] at hP hD
  have hP : va_P D cls (rW cI cJ cS lr sa po u1 u2 l1 l2 l3 l4 us vs lu lw lf lo lc ln fs bs sc x y fd) H := hP
  have hD : va_D A (rW cI cJ cS lr sa po u1 u2 l1 l2 l3 l4 us vs lu lw lf lo lc ln fs bs sc x y fd) := hD
  refine wi0_eq (tgt := 50) X.1.1 X.1.2.1 d_LoopRanker_update_35 (by decide) (fun h35 => absurd (by simp [h35]) hyes) (fun h35 => ?_)
  refine lv_iload X.1.1 X.1.2.1 d_LoopRanker_update_38 (lv_at hl 5 rfl) ?_
  refine lv_i2l X.1.1 X.1.2.1 d_LoopRanker_update_40 rfl ?_
  refine lv_ldc2 (v := 20) X.1.1 X.1.2.1 X.1.2.2.2.1 (X.1.2.2.2.2 _ kc_LoopRanker_74) d_LoopRanker_update_41 ?_
  refine wc_Si [.long uk.toInt64, .long (20 : Int64)] X nz_nest (c_LoopRanker_isWithin uk.toInt64 (20 : Int64)) (cw_LoopRanker_50 X.1.2.2.2.2 X.2.2.1 (by decide)) (rW cI cJ cS lr sa po u1 u2 l1 l2 l3 l4 us vs lu lw lf lo lc ln fs bs sc x y fd) ([]) (by rw [List.append_nil, List.append_nil]) hP hD hS rfl rfl hl.1 (Nat.le_of_ble_eq_true rfl) (by decide) d_LoopRanker_update_44 (fun H locs wn hwn hP hD hS => ?_)
  subst hwn
  rw [List.nil_append, List.append_nil] at hP hD
  have hP : va_P D cls (rW cI cJ cS lr sa po u1 u2 l1 l2 l3 l4 us vs lu lw lf lo lc ln fs bs sc x y fd) H := hP
  have hD : va_D A (rW cI cJ cS lr sa po u1 u2 l1 l2 l3 l4 us vs lu lw lf lo lc ln fs bs sc x y fd) := hD
  refine wi0_ne (tgt := 52) X.1.1 X.1.2.1 d_LoopRanker_update_47 (by decide) (fun h47 => ?_) (fun h47 => absurd (by simp [h47]) hyes)
  refine lv_aload_n X.1.1 X.1.2.1 d_LoopRanker_update_52 rfl (lv_at hl 0 rfl) ?_
  refine fg_LoopRanker_11 X hP 0 rfl rfl d_LoopRanker_update_53 ?_
  refine lv_iload_n X.1.1 X.1.2.1 d_LoopRanker_update_56 rfl (lv_at hl 1 rfl) ?_
  obtain ⟨b1, hb1⟩ := bs_get (bs := bs) (k := t) hok.1 (by omega)
  refine wa_ald X.1.1 X.1.2.1 X.2.1 hP 1 2 rfl rfl t rfl (by omega) (by decide) (bF_at hb1) d_LoopRanker_update_57 ?_
  refine lv_iload_n X.1.1 X.1.2.1 d_LoopRanker_update_58 rfl (lv_at hl 2 rfl) ?_
  refine lv_iload_n X.1.1 X.1.2.1 d_LoopRanker_update_59 rfl (lv_at hl 3 rfl) ?_
  refine lv_iload X.1.1 X.1.2.1 d_LoopRanker_update_60 (lv_at hl 4 rfl) ?_
  refine lv_iload X.1.1 X.1.2.1 d_LoopRanker_update_62 (lv_at hl 5 rfl) ?_
  refine wb_Nv [.int v, .int ua, .int ub, .int uk] 1 0 X nz_nest (c_Step_setRule (b1.1 0) (b1.1 1) (b1.1 2) (b1.1 3) (b1.1 4) (b1.1 5) (b1.1 6) b1.2.1.1 b1.2.1.2.1 b1.2.1.2.2 b1.2.2.1.1 b1.2.2.1.2 b1.2.2.2.1.1 b1.2.2.2.1.2 b1.2.2.2.2.1 b1.2.2.2.2.2.1 b1.2.2.2.2.2.2 v ua ub uk) (cw_LoopRanker_76 X.1.2.2.2.2 X.2.2.1 (by decide)) _ hb1 [] [] rfl hP hD hS rfl rfl rfl rfl hl.1 (Nat.le_of_ble_eq_true rfl) (by decide) d_LoopRanker_update_64 (fun H locs wn hwn hall hS => ?_)
  subst hwn
  obtain ⟨hP, hD⟩ := hall ((b1.1, b1.2.1, b1.2.2.1, b1.2.2.2.1, (s_set b1.2.2.2.2.1 v ua ub uk, b1.2.2.2.2.2.1, 0))) rfl
  rw [← bF_set (b' := (b1.1, b1.2.1, b1.2.2.1, b1.2.2.2.1, (s_set b1.2.2.2.2.1 v ua ub uk, b1.2.2.2.2.2.1, 0))) hb1 rfl] at hP hD
  have hok := bsOK_set (b := (b1.1, b1.2.1, b1.2.2.1, b1.2.2.2.1, (s_set b1.2.2.2.2.1 v ua ub uk, b1.2.2.2.2.2.1, 0))) hok t (⟨(hok.2 _ _ hb1).1, (hok.2 _ _ hb1).2.1, fun z => absurd rfl z, fun z => absurd rfl z⟩)
  have hmap : (bs.set t ((b1.1, b1.2.1, b1.2.2.1, b1.2.2.2.1, (s_set b1.2.2.2.2.1 v ua ub uk, b1.2.2.2.2.2.1, 0)))).map bD = ds.set t (dRule (dAt ds t) v ua ub uk) := by rw [bs_map_set hmap, dAt_of hmap hb1]; rfl
  have hb2x : (bs.set t ((b1.1, b1.2.1, b1.2.2.1, b1.2.2.2.1, (s_set b1.2.2.2.2.1 v ua ub uk, b1.2.2.2.2.2.1, 0))))[t]? = some ((b1.1, b1.2.1, b1.2.2.1, b1.2.2.2.1, (s_set b1.2.2.2.2.1 v ua ub uk, b1.2.2.2.2.2.1, 0))) := bs_set_at hb1
  generalize hgen : bs.set t ((b1.1, b1.2.1, b1.2.2.1, b1.2.2.2.1, (s_set b1.2.2.2.2.1 v ua ub uk, b1.2.2.2.2.2.1, 0))) = bs2x at hP hD hok hmap hb2x
  have hP : va_P D cls (rW cI cJ cS lr sa po u1 u2 l1 l2 l3 l4 us vs lu lw lf lo lc ln fs bs2x sc x y fd) H := hP
  have hD : va_D A (rW cI cJ cS lr sa po u1 u2 l1 l2 l3 l4 us vs lu lw lf lo lc ln fs bs2x sc x y fd) := hD
  refine lv_aload_n X.1.1 X.1.2.1 d_LoopRanker_update_67 rfl (lv_at hl 0 rfl) ?_
  refine fg_LoopRanker_19 X hP 0 rfl rfl d_LoopRanker_update_68 ?_
  refine lv_iconst (v := (0 : Int32)) X.1.1 X.1.2.1 d_LoopRanker_update_71 (by decide) ?_
  refine fp_LoopRanker_40 X hP hD hS 2 rfl rfl rfl rfl d_LoopRanker_update_72 (fun H locs hP hD hS => ?_)
  have hP : va_P D cls (rW cI cJ cS lr sa po u1 u2 l1 l2 l3 l4 us vs lu lw lf lo lc ln (0 : Int32) bs2x sc x y fd) H := hP
  have hD : va_D A (rW cI cJ cS lr sa po u1 u2 l1 l2 l3 l4 us vs lu lw lf lo lc ln (0 : Int32) bs2x sc x y fd) := hD
  refine lv_iconst (v := (1 : Int32)) X.1.1 X.1.2.1 d_LoopRanker_update_75 (by decide) ?_
  exact hret 76 H locs ls _ _ hP hD hS d_LoopRanker_update_76 (Or.inr rfl) (rfl) (⟨lu, lw, lf, lo, lc, ln, 0, bs2x, rfl, hok, by omega, hmap, fun z => absurd rfl z⟩)
set_option maxHeartbeats 4000000 in
set_option maxRecDepth 100000 in
theorem c_LoopRanker_greatest_bad (lr sa po u1 u2 l1 l2 l3 l4 : Nat) (us vs lu lw : Nat → Int32) (lf : Nat → Int64) (lo : Nat → Int32) (lc ln : Nat) (fs : Int32) (bs : List bT) (sc : Nat) (x y : Int64) (fd : Int32) (t u v : Int32) (ds : List bDt) (hI : rI us vs ds sc lu lw lf lo lc ln fs bs) (hbad : m_th sc t = 0) : wk_kl l y_LoopRanker_greatest (Cond.code y_LoopRanker_greatest b_LoopRanker_greatest 5 (some .long) :: BW) rm_LoopRanker_greatest D cls (kT cI cJ cS) nz [.ref lr, .int t, .int u, .int v] (rW cI cJ cS lr sa po u1 u2 l1 l2 l3 l4 us vs lu lw lf lo lc ln fs bs sc x y fd) (fun wz => ∃ lu2 lw2 lf2 lo2 lc2 ln2 fs2 bs2, wz = rW cI cJ cS lr sa po u1 u2 l1 l2 l3 l4 us vs lu2 lw2 lf2 lo2 lc2 ln2 fs2 bs2 sc x y fd ∧ rI us vs ds sc lu2 lw2 lf2 lo2 lc2 ln2 fs2 bs2) 4611686018427387904 := by
  refine ws_l (plainFor_of_name (by decide)) (Nat.le_of_ble_eq_true rfl) ?_
  intro p e s m below meth c A ls Q X hret hl hP hD hS
  obtain ⟨H, hH⟩ : ∃ H, H = s.heap := ⟨_, rfl⟩
  obtain ⟨locs, hlo⟩ : ∃ locs : List Loc, locs = [] := ⟨_, rfl⟩
  have hP : va_P D cls (rW cI cJ cS lr sa po u1 u2 l1 l2 l3 l4 us vs lu lw lf lo lc ln fs bs sc x y fd) H := by rw [hH]; exact hP
  have hS : va_S A s.heap H locs := by rw [hH, hlo]; exact hS
  suffices hgo : W p l e rm_LoopRanker_greatest s m ([.ref lr, .int t, .int u, .int v] : List Value).toArray below meth c H locs 0 0 Q (F0 m 0 ls ([])) by rw [hH, hlo] at hgo; exact hgo
  clear hH hlo
  have hl : lv_has ls 5 [(0, .ref lr), (1, .int t), (2, .int u), (3, .int v)] := hl
  have hok := hI.1
  have hmap := hI.2.2.1
  have hsc := hI.2.1
  refine lv_aload_n X.1.1 X.1.2.1 d_LoopRanker_greatest_0 rfl (lv_at hl 0 rfl) ?_
  refine lv_iload_n X.1.1 X.1.2.1 d_LoopRanker_greatest_1 rfl (lv_at hl 1 rfl) ?_
  refine wc_Vi [.int t] 3 0 X nz_nest (c_LoopRanker_isStep lr sa po u1 u2 l1 l2 l3 l4 us vs lu lw lf lo lc ln fs bs sc x y fd t) (cw_LoopRanker_44 X.1.2.2.2.2 X.2.2.1 (by decide)) ([]) ([]) ((List.append_nil _).symm) hP hD hS rfl rfl rfl rfl hl.1 (Nat.le_of_ble_eq_true rfl) (by decide) d_LoopRanker_greatest_2 (fun H locs wn hwn hP hD hS => ?_)
  subst hwn
  rw [List.nil_append, List.append_nil] at hP hD
  have hP : va_P D cls (rW cI cJ cS lr sa po u1 u2 l1 l2 l3 l4 us vs lu lw lf lo lc ln fs bs sc x y fd) H := hP
  have hD : va_D A (rW cI cJ cS lr sa po u1 u2 l1 l2 l3 l4 us vs lu lw lf lo lc ln fs bs sc x y fd) := hD
  refine wi0_eq (tgt := 30) X.1.1 X.1.2.1 d_LoopRanker_greatest_5 (by decide) (fun h5 => ?_) (fun h5 => absurd hbad h5)
  refine lv_ldc2 (v := 4611686018427387904) X.1.1 X.1.2.1 X.1.2.2.2.1 (X.1.2.2.2.2 _ kc_LoopRanker_82) d_LoopRanker_greatest_30 ?_
  exact hret 33 H locs ls _ _ hP hD hS d_LoopRanker_greatest_33 (rfl) (⟨lu, lw, lf, lo, _, _, _, bs, rfl, hok, hI.2.1, hmap, hI.2.2.2⟩)
set_option maxHeartbeats 4000000 in
set_option maxRecDepth 100000 in
theorem c_LoopRanker_greatest (lr sa po u1 u2 l1 l2 l3 l4 : Nat) (us vs lu lw : Nat → Int32) (lf : Nat → Int64) (lo : Nat → Int32) (lc ln : Nat) (fs : Int32) (bs : List bT) (sc : Nat) (x y : Int64) (fd : Int32) (t : Nat) (u v : Int32) (ds : List bDt) (hI : rI us vs ds sc lu lw lf lo lc ln fs bs) (ht : t < sc) : wk_kl l y_LoopRanker_greatest (Cond.code y_LoopRanker_greatest b_LoopRanker_greatest 5 (some .long) :: BW) rm_LoopRanker_greatest D cls (kT cI cJ cS) nz [.ref lr, .int (nI t), .int u, .int v] (rW cI cJ cS lr sa po u1 u2 l1 l2 l3 l4 us vs lu lw lf lo lc ln fs bs sc x y fd) (fun wz => ∃ lu2 lw2 lf2 lo2 lc2 ln2 fs2 bs2, wz = rW cI cJ cS lr sa po u1 u2 l1 l2 l3 l4 us vs lu2 lw2 lf2 lo2 lc2 ln2 fs2 bs2 sc x y fd ∧ rI us vs ds sc lu2 lw2 lf2 lo2 lc2 ln2 fs2 bs2) (r_gr (dAt ds t) u v) := by
  refine ws_l (plainFor_of_name (by decide)) (Nat.le_of_ble_eq_true rfl) ?_
  intro p e s m below meth c A ls Q X hret hl hP hD hS
  obtain ⟨H, hH⟩ : ∃ H, H = s.heap := ⟨_, rfl⟩
  obtain ⟨locs, hlo⟩ : ∃ locs : List Loc, locs = [] := ⟨_, rfl⟩
  have hP : va_P D cls (rW cI cJ cS lr sa po u1 u2 l1 l2 l3 l4 us vs lu lw lf lo lc ln fs bs sc x y fd) H := by rw [hH]; exact hP
  have hS : va_S A s.heap H locs := by rw [hH, hlo]; exact hS
  suffices hgo : W p l e rm_LoopRanker_greatest s m ([.ref lr, .int (nI t), .int u, .int v] : List Value).toArray below meth c H locs 0 0 Q (F0 m 0 ls ([])) by rw [hH, hlo] at hgo; exact hgo
  clear hH hlo
  have hl : lv_has ls 5 [(0, .ref lr), (1, .int (nI t)), (2, .int u), (3, .int v)] := hl
  have hok := hI.1
  have hmap := hI.2.2.1
  have hsc := hI.2.1
  refine lv_aload_n X.1.1 X.1.2.1 d_LoopRanker_greatest_0 rfl (lv_at hl 0 rfl) ?_
  refine lv_iload_n X.1.1 X.1.2.1 d_LoopRanker_greatest_1 rfl (lv_at hl 1 rfl) ?_
  refine wc_Vi [.int (nI t)] 3 0 X nz_nest (c_LoopRanker_isStep lr sa po u1 u2 l1 l2 l3 l4 us vs lu lw lf lo lc ln fs bs sc x y fd (nI t)) (cw_LoopRanker_44 X.1.2.2.2.2 X.2.2.1 (by decide)) ([]) ([]) ((List.append_nil _).symm) hP hD hS rfl rfl rfl rfl hl.1 (Nat.le_of_ble_eq_true rfl) (by decide) d_LoopRanker_greatest_2 (fun H locs wn hwn hP hD hS => ?_)
  subst hwn
  rw [List.nil_append, List.append_nil] at hP hD
  have hP : va_P D cls (rW cI cJ cS lr sa po u1 u2 l1 l2 l3 l4 us vs lu lw lf lo lc ln fs bs sc x y fd) H := hP
  have hD : va_D A (rW cI cJ cS lr sa po u1 u2 l1 l2 l3 l4 us vs lu lw lf lo lc ln fs bs sc x y fd) := hD
  refine wi0_eq (tgt := 30) X.1.1 X.1.2.1 d_LoopRanker_greatest_5 (by decide) (fun h5 => absurd h5 (by rw [m_th_1 (by omega) (by omega)]; decide)) (fun h5 => ?_)
  refine lv_iload_n X.1.1 X.1.2.1 d_LoopRanker_greatest_8 rfl (lv_at hl 2 rfl) ?_
  refine lv_i2l X.1.1 X.1.2.1 d_LoopRanker_greatest_9 rfl ?_
  refine lv_ldc2 (v := 60) X.1.1 X.1.2.1 X.1.2.2.2.1 (X.1.2.2.2.2 _ kc_LoopRanker_80) d_LoopRanker_greatest_10 ?_
  refine wc_Si [.long u.toInt64, .long (60 : Int64)] X nz_nest (c_LoopRanker_isWithin u.toInt64 (60 : Int64)) (cw_LoopRanker_50 X.1.2.2.2.2 X.2.2.1 (by decide)) (rW cI cJ cS lr sa po u1 u2 l1 l2 l3 l4 us vs lu lw lf lo lc ln fs bs sc x y fd) ([]) (by rw [List.append_nil, List.append_nil]) hP hD hS rfl rfl hl.1 (Nat.le_of_ble_eq_true rfl) (by decide) d_LoopRanker_greatest_13 (fun H locs wn hwn hP hD hS => ?_)
  subst hwn
  rw [List.nil_append, List.append_nil] at hP hD
  have hP : va_P D cls (rW cI cJ cS lr sa po u1 u2 l1 l2 l3 l4 us vs lu lw lf lo lc ln fs bs sc x y fd) H := hP
  have hD : va_D A (rW cI cJ cS lr sa po u1 u2 l1 l2 l3 l4 us vs lu lw lf lo lc ln fs bs sc x y fd) := hD
  refine wi0_eq (tgt := 30) X.1.1 X.1.2.1 d_LoopRanker_greatest_16 (by decide) (fun h16 => ?_) (fun h16 => ?_)
  · refine lv_ldc2 (v := 4611686018427387904) X.1.1 X.1.2.1 X.1.2.2.2.1 (X.1.2.2.2.2 _ kc_LoopRanker_82) d_LoopRanker_greatest_30 ?_
    exact hret 33 H locs ls _ _ hP hD hS d_LoopRanker_greatest_33 (by first | (simp only [r_gr, if_pos h16]; done) | simp [r_gr, h16]) (⟨lu, lw, lf, lo, _, _, _, bs, rfl, hok, hI.2.1, hmap, hI.2.2.2⟩)
  · refine lv_iload_n X.1.1 X.1.2.1 d_LoopRanker_greatest_19 rfl (lv_at hl 3 rfl) ?_
    refine lv_i2l X.1.1 X.1.2.1 d_LoopRanker_greatest_20 rfl ?_
    refine lv_ldc2 (v := 60) X.1.1 X.1.2.1 X.1.2.2.2.1 (X.1.2.2.2.2 _ kc_LoopRanker_80) d_LoopRanker_greatest_21 ?_
    refine wc_Si [.long v.toInt64, .long (60 : Int64)] X nz_nest (c_LoopRanker_isWithin v.toInt64 (60 : Int64)) (cw_LoopRanker_50 X.1.2.2.2.2 X.2.2.1 (by decide)) (rW cI cJ cS lr sa po u1 u2 l1 l2 l3 l4 us vs lu lw lf lo lc ln fs bs sc x y fd) ([]) (by rw [List.append_nil, List.append_nil]) hP hD hS rfl rfl hl.1 (Nat.le_of_ble_eq_true rfl) (by decide) d_LoopRanker_greatest_24 (fun H locs wn hwn hP hD hS => ?_)
    subst hwn
    rw [List.nil_append, List.append_nil] at hP hD
    have hP : va_P D cls (rW cI cJ cS lr sa po u1 u2 l1 l2 l3 l4 us vs lu lw lf lo lc ln fs bs sc x y fd) H := hP
    have hD : va_D A (rW cI cJ cS lr sa po u1 u2 l1 l2 l3 l4 us vs lu lw lf lo lc ln fs bs sc x y fd) := hD
    refine wi0_ne (tgt := 34) X.1.1 X.1.2.1 d_LoopRanker_greatest_27 (by decide) (fun h27 => ?_) (fun h27 => ?_)
    · refine lv_aload_n X.1.1 X.1.2.1 d_LoopRanker_greatest_34 rfl (lv_at hl 0 rfl) ?_
      refine fg_LoopRanker_11 X hP 0 rfl rfl d_LoopRanker_greatest_35 ?_
      refine lv_iload_n X.1.1 X.1.2.1 d_LoopRanker_greatest_38 rfl (lv_at hl 1 rfl) ?_
      obtain ⟨b1, hb1⟩ := bs_get (bs := bs) (k := t) hok.1 (by omega)
      refine wa_ald X.1.1 X.1.2.1 X.2.1 hP 1 2 rfl rfl t rfl (by omega) (by decide) (bF_at hb1) d_LoopRanker_greatest_39 ?_
      refine fg_LoopRanker_56 X (wb_cut hP hb1) 0 rfl rfl d_LoopRanker_greatest_40 ?_
      refine lv_astore X.1.1 X.1.2.1 d_LoopRanker_greatest_43 hl (by decide) rfl (fun ls hl => ?_)
      have hl : lv_has ls 5 [(4, .ref (b1.1 1)), (0, .ref lr), (1, .int (nI t)), (2, .int u), (3, .int v)] := hl
      refine lv_aload X.1.1 X.1.2.1 d_LoopRanker_greatest_45 (lv_at hl 0 rfl) ?_
      refine fg_LoopRanker_84 X (wb_cut hP hb1) 1 rfl rfl d_LoopRanker_greatest_47 ?_
      refine wi0_eq (tgt := 57) X.1.1 X.1.2.1 d_LoopRanker_greatest_50 (by decide) (fun h50 => ?_) (fun h50 => ?_)
      · refine lv_aload X.1.1 X.1.2.1 d_LoopRanker_greatest_57 (lv_at hl 0 rfl) ?_
        refine lv_iload_n X.1.1 X.1.2.1 d_LoopRanker_greatest_59 rfl (lv_at hl 3 rfl) ?_
        refine lv_iload_n X.1.1 X.1.2.1 d_LoopRanker_greatest_60 rfl (lv_at hl 4 rfl) ?_
        refine wb_Nv [.int u, .int v] 0 0 X nz_nest (c_Guard_maximise (b1.1 1) (b1.1 2) (b1.1 3) (b1.1 4) b1.2.1.1 b1.2.1.2.1 b1.2.1.2.2 b1.2.2.1.1 b1.2.2.1.2 b1.2.2.2.1.1 b1.2.2.2.1.2 u v (hok.2 _ _ hb1).1) (cw_LoopRanker_89 X.1.2.2.2.2 X.2.2.1 (by decide)) _ hb1 [(b1.1 0, .inr (1, [.ref (b1.1 1), .ref (b1.1 5), .ref (b1.1 6), .int b1.2.2.2.2.2.2]))] [(b1.1 5, .inl (cI, 6, .inl b1.2.2.2.2.1)), (b1.1 6, .inl (cI, 80, .inl b1.2.2.2.2.2.1))] rfl hP hD hS rfl rfl rfl rfl hl.1 (Nat.le_of_ble_eq_true rfl) (by decide) d_LoopRanker_greatest_61 (fun H locs wn hwn hall hS => ?_)
        subst hwn
        obtain ⟨hP, hD⟩ := hall (bS b1 (g_max b1.2.1.1 b1.2.1.2.1 b1.2.1.2.2 b1.2.2.1.1 u v).1 (g_max b1.2.1.1 b1.2.1.2.1 b1.2.1.2.2 b1.2.2.1.1 u v).2) rfl
        rw [← bF_set (b' := bS b1 (g_max b1.2.1.1 b1.2.1.2.1 b1.2.1.2.2 b1.2.2.1.1 u v).1 (g_max b1.2.1.1 b1.2.1.2.1 b1.2.1.2.2 b1.2.2.1.1 u v).2) hb1 rfl] at hP hD
        have hok := bsOK_set (b := bS b1 (g_max b1.2.1.1 b1.2.1.2.1 b1.2.1.2.2 b1.2.2.1.1 u v).1 (g_max b1.2.1.1 b1.2.1.2.1 b1.2.1.2.2 b1.2.2.1.1 u v).2) hok t (bOK_S (hok.2 _ _ hb1) _ _)
        have hmap := (bD_set (b' := bS b1 (g_max b1.2.1.1 b1.2.1.2.1 b1.2.1.2.2 b1.2.2.1.1 u v).1 (g_max b1.2.1.1 b1.2.1.2.1 b1.2.1.2.2 b1.2.2.1.1 u v).2) hb1 rfl).trans hmap
        have hb2x : (bs.set t (bS b1 (g_max b1.2.1.1 b1.2.1.2.1 b1.2.1.2.2 b1.2.2.1.1 u v).1 (g_max b1.2.1.1 b1.2.1.2.1 b1.2.1.2.2 b1.2.2.1.1 u v).2))[t]? = some (bS b1 (g_max b1.2.1.1 b1.2.1.2.1 b1.2.1.2.2 b1.2.2.1.1 u v).1 (g_max b1.2.1.1 b1.2.1.2.1 b1.2.1.2.2 b1.2.2.1.1 u v).2) := bs_set_at hb1
        generalize hgen : bs.set t (bS b1 (g_max b1.2.1.1 b1.2.1.2.1 b1.2.1.2.2 b1.2.2.1.1 u v).1 (g_max b1.2.1.1 b1.2.1.2.1 b1.2.1.2.2 b1.2.2.1.1 u v).2) = bs2 at hP hD hok hmap hb2x
        have hP : va_P D cls (rW cI cJ cS lr sa po u1 u2 l1 l2 l3 l4 us vs lu lw lf lo lc ln fs bs2 sc x y fd) H := hP
        have hD : va_D A (rW cI cJ cS lr sa po u1 u2 l1 l2 l3 l4 us vs lu lw lf lo lc ln fs bs2 sc x y fd) := hD
        refine lv_aload X.1.1 X.1.2.1 d_LoopRanker_greatest_64 (lv_at hl 0 rfl) ?_
        refine wb_Nl [] 0 0 X nz_nest (c_Guard_maximumRoundedDown ((bS b1 (g_max b1.2.1.1 b1.2.1.2.1 b1.2.1.2.2 b1.2.2.1.1 u v).1 (g_max b1.2.1.1 b1.2.1.2.1 b1.2.1.2.2 b1.2.2.1.1 u v).2).1 1) ((bS b1 (g_max b1.2.1.1 b1.2.1.2.1 b1.2.1.2.2 b1.2.2.1.1 u v).1 (g_max b1.2.1.1 b1.2.1.2.1 b1.2.1.2.2 b1.2.2.1.1 u v).2).1 2) ((bS b1 (g_max b1.2.1.1 b1.2.1.2.1 b1.2.1.2.2 b1.2.2.1.1 u v).1 (g_max b1.2.1.1 b1.2.1.2.1 b1.2.1.2.2 b1.2.2.1.1 u v).2).1 3) ((bS b1 (g_max b1.2.1.1 b1.2.1.2.1 b1.2.1.2.2 b1.2.2.1.1 u v).1 (g_max b1.2.1.1 b1.2.1.2.1 b1.2.1.2.2 b1.2.2.1.1 u v).2).1 4) (bS b1 (g_max b1.2.1.1 b1.2.1.2.1 b1.2.1.2.2 b1.2.2.1.1 u v).1 (g_max b1.2.1.1 b1.2.1.2.1 b1.2.1.2.2 b1.2.2.1.1 u v).2).2.1.1 (bS b1 (g_max b1.2.1.1 b1.2.1.2.1 b1.2.1.2.2 b1.2.2.1.1 u v).1 (g_max b1.2.1.1 b1.2.1.2.1 b1.2.1.2.2 b1.2.2.1.1 u v).2).2.1.2.1 (bS b1 (g_max b1.2.1.1 b1.2.1.2.1 b1.2.1.2.2 b1.2.2.1.1 u v).1 (g_max b1.2.1.1 b1.2.1.2.1 b1.2.1.2.2 b1.2.2.1.1 u v).2).2.1.2.2 (bS b1 (g_max b1.2.1.1 b1.2.1.2.1 b1.2.1.2.2 b1.2.2.1.1 u v).1 (g_max b1.2.1.1 b1.2.1.2.1 b1.2.1.2.2 b1.2.2.1.1 u v).2).2.2.1.1 (bS b1 (g_max b1.2.1.1 b1.2.1.2.1 b1.2.1.2.2 b1.2.2.1.1 u v).1 (g_max b1.2.1.1 b1.2.1.2.1 b1.2.1.2.2 b1.2.2.1.1 u v).2).2.2.1.2 (bS b1 (g_max b1.2.1.1 b1.2.1.2.1 b1.2.1.2.2 b1.2.2.1.1 u v).1 (g_max b1.2.1.1 b1.2.1.2.1 b1.2.1.2.2 b1.2.2.1.1 u v).2).2.2.2.1.1 (bS b1 (g_max b1.2.1.1 b1.2.1.2.1 b1.2.1.2.2 b1.2.2.1.1 u v).1 (g_max b1.2.1.1 b1.2.1.2.1 b1.2.1.2.2 b1.2.2.1.1 u v).2).2.2.2.1.2 ) (cw_LoopRanker_93 X.1.2.2.2.2 X.2.2.1 (by decide)) _ hb2x [((bS b1 (g_max b1.2.1.1 b1.2.1.2.1 b1.2.1.2.2 b1.2.2.1.1 u v).1 (g_max b1.2.1.1 b1.2.1.2.1 b1.2.1.2.2 b1.2.2.1.1 u v).2).1 0, .inr (1, [.ref ((bS b1 (g_max b1.2.1.1 b1.2.1.2.1 b1.2.1.2.2 b1.2.2.1.1 u v).1 (g_max b1.2.1.1 b1.2.1.2.1 b1.2.1.2.2 b1.2.2.1.1 u v).2).1 1), .ref ((bS b1 (g_max b1.2.1.1 b1.2.1.2.1 b1.2.1.2.2 b1.2.2.1.1 u v).1 (g_max b1.2.1.1 b1.2.1.2.1 b1.2.1.2.2 b1.2.2.1.1 u v).2).1 5), .ref ((bS b1 (g_max b1.2.1.1 b1.2.1.2.1 b1.2.1.2.2 b1.2.2.1.1 u v).1 (g_max b1.2.1.1 b1.2.1.2.1 b1.2.1.2.2 b1.2.2.1.1 u v).2).1 6), .int (bS b1 (g_max b1.2.1.1 b1.2.1.2.1 b1.2.1.2.2 b1.2.2.1.1 u v).1 (g_max b1.2.1.1 b1.2.1.2.1 b1.2.1.2.2 b1.2.2.1.1 u v).2).2.2.2.2.2.2]))] [((bS b1 (g_max b1.2.1.1 b1.2.1.2.1 b1.2.1.2.2 b1.2.2.1.1 u v).1 (g_max b1.2.1.1 b1.2.1.2.1 b1.2.1.2.2 b1.2.2.1.1 u v).2).1 5, .inl (cI, 6, .inl (bS b1 (g_max b1.2.1.1 b1.2.1.2.1 b1.2.1.2.2 b1.2.2.1.1 u v).1 (g_max b1.2.1.1 b1.2.1.2.1 b1.2.1.2.2 b1.2.2.1.1 u v).2).2.2.2.2.1)), ((bS b1 (g_max b1.2.1.1 b1.2.1.2.1 b1.2.1.2.2 b1.2.2.1.1 u v).1 (g_max b1.2.1.1 b1.2.1.2.1 b1.2.1.2.2 b1.2.2.1.1 u v).2).1 6, .inl (cI, 80, .inl (bS b1 (g_max b1.2.1.1 b1.2.1.2.1 b1.2.1.2.2 b1.2.2.1.1 u v).1 (g_max b1.2.1.1 b1.2.1.2.1 b1.2.1.2.2 b1.2.2.1.1 u v).2).2.2.2.2.2.1))] rfl hP hD hS rfl rfl rfl rfl hl.1 (Nat.le_of_ble_eq_true rfl) (by decide) d_LoopRanker_greatest_66 (fun H locs wn hwn hall hS => ?_)
        subst hwn
        obtain ⟨hP, hD⟩ := hall (bS b1 (g_max b1.2.1.1 b1.2.1.2.1 b1.2.1.2.2 b1.2.2.1.1 u v).1 (g_max b1.2.1.1 b1.2.1.2.1 b1.2.1.2.2 b1.2.2.1.1 u v).2) rfl
        have hsame := bs_set_same hb2x
        rw [hsame] at hP hD
        have hP : va_P D cls (rW cI cJ cS lr sa po u1 u2 l1 l2 l3 l4 us vs lu lw lf lo lc ln fs bs2 sc x y fd) H := hP
        have hD : va_D A (rW cI cJ cS lr sa po u1 u2 l1 l2 l3 l4 us vs lu lw lf lo lc ln fs bs2 sc x y fd) := hD
        exact hret 69 H locs ls _ _ hP hD hS d_LoopRanker_greatest_69 (by rw [dAt_of hmap hb2x]; unfold r_gr; rw [if_neg h16, if_neg h27, if_pos (show (bD (bS b1 (g_max b1.2.1.1 b1.2.1.2.1 b1.2.1.2.2 b1.2.2.1.1 u v).1 (g_max b1.2.1.1 b1.2.1.2.1 b1.2.1.2.2 b1.2.2.1.1 u v).2)).2.1.2 = 0 from h50)]; rfl) (⟨lu, lw, lf, lo, _, _, _, bs2, rfl, hok, hI.2.1, hmap, hI.2.2.2⟩)
      · refine lv_ldc2 (v := -4611686018427387904) X.1.1 X.1.2.1 X.1.2.2.2.1 (X.1.2.2.2.2 _ kc_LoopRanker_87) d_LoopRanker_greatest_53 ?_
        exact hret 56 H locs ls _ _ hP hD hS d_LoopRanker_greatest_56 (by rw [dAt_of hmap hb1]; unfold r_gr; rw [if_neg h16, if_neg h27, if_neg (show ¬ (bD b1).2.1.2 = 0 from h50)]) (⟨lu, lw, lf, lo, _, _, _, bs, rfl, hok, hI.2.1, hmap, hI.2.2.2⟩)
    · refine lv_ldc2 (v := 4611686018427387904) X.1.1 X.1.2.1 X.1.2.2.2.1 (X.1.2.2.2.2 _ kc_LoopRanker_82) d_LoopRanker_greatest_30 ?_
      exact hret 33 H locs ls _ _ hP hD hS d_LoopRanker_greatest_33 (by first | (simp only [r_gr, if_neg h16, if_pos h27]; done) | simp [r_gr, h16, h27]) (⟨lu, lw, lf, lo, _, _, _, bs, rfl, hok, hI.2.1, hmap, hI.2.2.2⟩)
set_option maxHeartbeats 4000000 in
set_option maxRecDepth 100000 in
theorem c_LoopRanker_holds_bad (lr sa po u1 u2 l1 l2 l3 l4 : Nat) (us vs lu lw : Nat → Int32) (lf : Nat → Int64) (lo : Nat → Int32) (lc ln : Nat) (fs : Int32) (bs : List bT) (sc : Nat) (x y : Int64) (fd : Int32) (t u v what : Int32) (ds : List bDt) (hI : rI us vs ds sc lu lw lf lo lc ln fs bs) (hbad : m_th sc t = 0) : wk_ki l y_LoopRanker_holds (Cond.code y_LoopRanker_holds b_LoopRanker_holds 5 (some .boolean) :: BW) rm_LoopRanker_holds D cls (kT cI cJ cS) nz [.ref lr, .int t, .int u, .int v, .int what] (rW cI cJ cS lr sa po u1 u2 l1 l2 l3 l4 us vs lu lw lf lo lc ln fs bs sc x y fd) (fun wz => ∃ lu2 lw2 lf2 lo2 lc2 ln2 fs2 bs2, wz = rW cI cJ cS lr sa po u1 u2 l1 l2 l3 l4 us vs lu2 lw2 lf2 lo2 lc2 ln2 fs2 bs2 sc x y fd ∧ rI us vs ds sc lu2 lw2 lf2 lo2 lc2 ln2 fs2 bs2) 0 := by
  refine ws_z (plainFor_of_name (by decide)) (Nat.le_of_ble_eq_true rfl) ?_
  intro p e s m below meth c A ls Q X hret hl hP hD hS
  obtain ⟨H, hH⟩ : ∃ H, H = s.heap := ⟨_, rfl⟩
  obtain ⟨locs, hlo⟩ : ∃ locs : List Loc, locs = [] := ⟨_, rfl⟩
  have hP : va_P D cls (rW cI cJ cS lr sa po u1 u2 l1 l2 l3 l4 us vs lu lw lf lo lc ln fs bs sc x y fd) H := by rw [hH]; exact hP
  have hS : va_S A s.heap H locs := by rw [hH, hlo]; exact hS
  suffices hgo : W p l e rm_LoopRanker_holds s m ([.ref lr, .int t, .int u, .int v, .int what] : List Value).toArray below meth c H locs 0 0 Q (F0 m 0 ls ([])) by rw [hH, hlo] at hgo; exact hgo
  clear hH hlo
  have hl : lv_has ls 5 [(0, .ref lr), (1, .int t), (2, .int u), (3, .int v), (4, .int what)] := hl
  have hok := hI.1
  have hmap := hI.2.2.1
  have hsc := hI.2.1
  refine lv_aload_n X.1.1 X.1.2.1 d_LoopRanker_holds_0 rfl (lv_at hl 0 rfl) ?_
  refine lv_iload_n X.1.1 X.1.2.1 d_LoopRanker_holds_1 rfl (lv_at hl 1 rfl) ?_
  refine wc_Vi [.int t] 3 0 X nz_nest (c_LoopRanker_isStep lr sa po u1 u2 l1 l2 l3 l4 us vs lu lw lf lo lc ln fs bs sc x y fd t) (cw_LoopRanker_44 X.1.2.2.2.2 X.2.2.1 (by decide)) ([]) ([]) ((List.append_nil _).symm) hP hD hS rfl rfl rfl rfl hl.1 (Nat.le_of_ble_eq_true rfl) (by decide) d_LoopRanker_holds_2 (fun H locs wn hwn hP hD hS => ?_)
  subst hwn
  rw [List.nil_append, List.append_nil] at hP hD
  have hP : va_P D cls (rW cI cJ cS lr sa po u1 u2 l1 l2 l3 l4 us vs lu lw lf lo lc ln fs bs sc x y fd) H := hP
  have hD : va_D A (rW cI cJ cS lr sa po u1 u2 l1 l2 l3 l4 us vs lu lw lf lo lc ln fs bs sc x y fd) := hD
  refine wi0_eq (tgt := 38) X.1.1 X.1.2.1 d_LoopRanker_holds_5 (by decide) (fun h5 => ?_) (fun h5 => absurd hbad h5)
  refine lv_iconst (v := (0 : Int32)) X.1.1 X.1.2.1 d_LoopRanker_holds_38 (by decide) ?_
  exact hret 39 H locs ls _ _ hP hD hS d_LoopRanker_holds_39 (Or.inl rfl) (rfl) (⟨lu, lw, lf, lo, _, _, _, bs, rfl, hok, hI.2.1, hmap, hI.2.2.2⟩)
set_option maxHeartbeats 4000000 in
set_option maxRecDepth 100000 in
theorem c_LoopRanker_holds (lr sa po u1 u2 l1 l2 l3 l4 : Nat) (us vs lu lw : Nat → Int32) (lf : Nat → Int64) (lo : Nat → Int32) (lc ln : Nat) (fs : Int32) (bs : List bT) (sc : Nat) (x y : Int64) (fd : Int32) (t : Nat) (u v what : Int32) (ds : List bDt) (hI : rI us vs ds sc lu lw lf lo lc ln fs bs) (ht : t < sc) : wk_ki l y_LoopRanker_holds (Cond.code y_LoopRanker_holds b_LoopRanker_holds 5 (some .boolean) :: BW) rm_LoopRanker_holds D cls (kT cI cJ cS) nz [.ref lr, .int (nI t), .int u, .int v, .int what] (rW cI cJ cS lr sa po u1 u2 l1 l2 l3 l4 us vs lu lw lf lo lc ln fs bs sc x y fd) (fun wz => ∃ lu2 lw2 lf2 lo2 lc2 ln2 fs2 bs2, wz = rW cI cJ cS lr sa po u1 u2 l1 l2 l3 l4 us vs lu2 lw2 lf2 lo2 lc2 ln2 fs2 bs2 sc x y fd ∧ rI us vs ds sc lu2 lw2 lf2 lo2 lc2 ln2 fs2 bs2) (r_ho (dAt ds t) u v what) := by
  refine ws_z (plainFor_of_name (by decide)) (Nat.le_of_ble_eq_true rfl) ?_
  intro p e s m below meth c A ls Q X hret hl hP hD hS
  obtain ⟨H, hH⟩ : ∃ H, H = s.heap := ⟨_, rfl⟩
  obtain ⟨locs, hlo⟩ : ∃ locs : List Loc, locs = [] := ⟨_, rfl⟩
  have hP : va_P D cls (rW cI cJ cS lr sa po u1 u2 l1 l2 l3 l4 us vs lu lw lf lo lc ln fs bs sc x y fd) H := by rw [hH]; exact hP
  have hS : va_S A s.heap H locs := by rw [hH, hlo]; exact hS
  suffices hgo : W p l e rm_LoopRanker_holds s m ([.ref lr, .int (nI t), .int u, .int v, .int what] : List Value).toArray below meth c H locs 0 0 Q (F0 m 0 ls ([])) by rw [hH, hlo] at hgo; exact hgo
  clear hH hlo
  have hl : lv_has ls 5 [(0, .ref lr), (1, .int (nI t)), (2, .int u), (3, .int v), (4, .int what)] := hl
  have hok := hI.1
  have hmap := hI.2.2.1
  have hsc := hI.2.1
  refine lv_aload_n X.1.1 X.1.2.1 d_LoopRanker_holds_0 rfl (lv_at hl 0 rfl) ?_
  refine lv_iload_n X.1.1 X.1.2.1 d_LoopRanker_holds_1 rfl (lv_at hl 1 rfl) ?_
  refine wc_Vi [.int (nI t)] 3 0 X nz_nest (c_LoopRanker_isStep lr sa po u1 u2 l1 l2 l3 l4 us vs lu lw lf lo lc ln fs bs sc x y fd (nI t)) (cw_LoopRanker_44 X.1.2.2.2.2 X.2.2.1 (by decide)) ([]) ([]) ((List.append_nil _).symm) hP hD hS rfl rfl rfl rfl hl.1 (Nat.le_of_ble_eq_true rfl) (by decide) d_LoopRanker_holds_2 (fun H locs wn hwn hP hD hS => ?_)
  subst hwn
  rw [List.nil_append, List.append_nil] at hP hD
  have hP : va_P D cls (rW cI cJ cS lr sa po u1 u2 l1 l2 l3 l4 us vs lu lw lf lo lc ln fs bs sc x y fd) H := hP
  have hD : va_D A (rW cI cJ cS lr sa po u1 u2 l1 l2 l3 l4 us vs lu lw lf lo lc ln fs bs sc x y fd) := hD
  refine wi0_eq (tgt := 38) X.1.1 X.1.2.1 d_LoopRanker_holds_5 (by decide) (fun h5 => absurd h5 (by rw [m_th_1 (by omega) (by omega)]; decide)) (fun h5 => ?_)
  refine lv_iload_n X.1.1 X.1.2.1 d_LoopRanker_holds_8 rfl (lv_at hl 2 rfl) ?_
  refine lv_i2l X.1.1 X.1.2.1 d_LoopRanker_holds_9 rfl ?_
  refine lv_ldc2 (v := 4) X.1.1 X.1.2.1 X.1.2.2.2.1 (X.1.2.2.2.2 _ kc_LoopRanker_97) d_LoopRanker_holds_10 ?_
  refine wc_Si [.long u.toInt64, .long (4 : Int64)] X nz_nest (c_LoopRanker_isWithin u.toInt64 (4 : Int64)) (cw_LoopRanker_50 X.1.2.2.2.2 X.2.2.1 (by decide)) (rW cI cJ cS lr sa po u1 u2 l1 l2 l3 l4 us vs lu lw lf lo lc ln fs bs sc x y fd) ([]) (by rw [List.append_nil, List.append_nil]) hP hD hS rfl rfl hl.1 (Nat.le_of_ble_eq_true rfl) (by decide) d_LoopRanker_holds_13 (fun H locs wn hwn hP hD hS => ?_)
  subst hwn
  rw [List.nil_append, List.append_nil] at hP hD
  have hP : va_P D cls (rW cI cJ cS lr sa po u1 u2 l1 l2 l3 l4 us vs lu lw lf lo lc ln fs bs sc x y fd) H := hP
  have hD : va_D A (rW cI cJ cS lr sa po u1 u2 l1 l2 l3 l4 us vs lu lw lf lo lc ln fs bs sc x y fd) := hD
  refine wi0_eq (tgt := 38) X.1.1 X.1.2.1 d_LoopRanker_holds_16 (by decide) (fun h16 => ?_) (fun h16 => ?_)
  · refine lv_iconst (v := (0 : Int32)) X.1.1 X.1.2.1 d_LoopRanker_holds_38 (by decide) ?_
    exact hret 39 H locs ls _ _ hP hD hS d_LoopRanker_holds_39 (Or.inl rfl) (by first | (simp only [r_ho, r_h3, if_pos h16]; done) | simp [r_ho, r_h3, h16]) (⟨lu, lw, lf, lo, _, _, _, bs, rfl, hok, hI.2.1, hmap, hI.2.2.2⟩)
  · refine lv_iload_n X.1.1 X.1.2.1 d_LoopRanker_holds_19 rfl (lv_at hl 3 rfl) ?_
    refine lv_i2l X.1.1 X.1.2.1 d_LoopRanker_holds_20 rfl ?_
    refine lv_ldc2 (v := 4) X.1.1 X.1.2.1 X.1.2.2.2.1 (X.1.2.2.2.2 _ kc_LoopRanker_97) d_LoopRanker_holds_21 ?_
    refine wc_Si [.long v.toInt64, .long (4 : Int64)] X nz_nest (c_LoopRanker_isWithin v.toInt64 (4 : Int64)) (cw_LoopRanker_50 X.1.2.2.2.2 X.2.2.1 (by decide)) (rW cI cJ cS lr sa po u1 u2 l1 l2 l3 l4 us vs lu lw lf lo lc ln fs bs sc x y fd) ([]) (by rw [List.append_nil, List.append_nil]) hP hD hS rfl rfl hl.1 (Nat.le_of_ble_eq_true rfl) (by decide) d_LoopRanker_holds_24 (fun H locs wn hwn hP hD hS => ?_)
    subst hwn
    rw [List.nil_append, List.append_nil] at hP hD
    have hP : va_P D cls (rW cI cJ cS lr sa po u1 u2 l1 l2 l3 l4 us vs lu lw lf lo lc ln fs bs sc x y fd) H := hP
    have hD : va_D A (rW cI cJ cS lr sa po u1 u2 l1 l2 l3 l4 us vs lu lw lf lo lc ln fs bs sc x y fd) := hD
    refine wi0_eq (tgt := 38) X.1.1 X.1.2.1 d_LoopRanker_holds_27 (by decide) (fun h27 => ?_) (fun h27 => ?_)
    · refine lv_iconst (v := (0 : Int32)) X.1.1 X.1.2.1 d_LoopRanker_holds_38 (by decide) ?_
      exact hret 39 H locs ls _ _ hP hD hS d_LoopRanker_holds_39 (Or.inl rfl) (by first | (simp only [r_ho, r_h3, if_neg h16, if_pos h27]; done) | simp [r_ho, r_h3, h16, h27]) (⟨lu, lw, lf, lo, _, _, _, bs, rfl, hok, hI.2.1, hmap, hI.2.2.2⟩)
    · refine lv_iload_n X.1.1 X.1.2.1 d_LoopRanker_holds_30 rfl (lv_at hl 2 rfl) ?_
      refine wi0_ne (tgt := 40) X.1.1 X.1.2.1 d_LoopRanker_holds_31 (by decide) (fun h31 => ?_) (fun h31 => ?_)
      · refine lv_iload X.1.1 X.1.2.1 d_LoopRanker_holds_40 (lv_at hl 4 rfl) ?_
        by_cases hw0 : what = 0
        · refine wt_i hw0 ?_
          refine lv_tableIn (off := 26) (tgt := 68) X.1.1 X.1.2.1 d_LoopRanker_holds_42 (by decide) (by decide) rfl (by decide) ?_
          refine lv_aload_n X.1.1 X.1.2.1 d_LoopRanker_holds_68 rfl (lv_at hl 0 rfl) ?_
          refine fg_LoopRanker_11 X hP 0 rfl rfl d_LoopRanker_holds_69 ?_
          refine lv_iload_n X.1.1 X.1.2.1 d_LoopRanker_holds_72 rfl (lv_at hl 1 rfl) ?_
          obtain ⟨b1, hb1⟩ := bs_get (bs := bs) (k := t) hok.1 (by omega)
          refine wa_ald X.1.1 X.1.2.1 X.2.1 hP 1 2 rfl rfl t rfl (by omega) (by decide) (bF_at hb1) d_LoopRanker_holds_73 ?_
          refine lv_iload_n X.1.1 X.1.2.1 d_LoopRanker_holds_74 rfl (lv_at hl 2 rfl) ?_
          refine lv_iload_n X.1.1 X.1.2.1 d_LoopRanker_holds_75 rfl (lv_at hl 3 rfl) ?_
          refine lv_iconst (v := (0 : Int32)) X.1.1 X.1.2.1 d_LoopRanker_holds_76 (by decide) ?_
          refine wb_Ni [.int u, .int v, .int (0 : Int32)] 1 0 X nz_nest (c_Step_changesByAtMost (b1.1 0) (b1.1 1) (b1.1 2) (b1.1 3) (b1.1 4) (b1.1 5) (b1.1 6) b1.2.1.1 b1.2.1.2.1 b1.2.1.2.2 b1.2.2.1.1 b1.2.2.1.2 b1.2.2.2.1.1 b1.2.2.2.1.2 b1.2.2.2.2.1 b1.2.2.2.2.2.1 b1.2.2.2.2.2.2 u v (0 : Int32) (hok.2 _ _ hb1).1) (cw_LoopRanker_99 X.1.2.2.2.2 X.2.2.1 (by decide)) _ hb1 [] [] rfl hP hD hS rfl rfl rfl rfl hl.1 (Nat.le_of_ble_eq_true rfl) (by decide) d_LoopRanker_holds_77 (fun H locs wn hwn hall hS => ?_)
          obtain ⟨t1, c1, rfl⟩ := hwn
          obtain ⟨hP, hD⟩ := hall (bS b1 t1 c1) rfl
          rw [← bF_set (b' := bS b1 t1 c1) hb1 rfl] at hP hD
          have hok := bsOK_set (b := bS b1 t1 c1) hok t (bOK_S (hok.2 _ _ hb1) _ _)
          have hmap := (bD_set (b' := bS b1 t1 c1) hb1 rfl).trans hmap
          have hb2x : (bs.set t (bS b1 t1 c1))[t]? = some (bS b1 t1 c1) := bs_set_at hb1
          generalize hgen : bs.set t (bS b1 t1 c1) = bs2 at hP hD hok hmap hb2x
          have hP : va_P D cls (rW cI cJ cS lr sa po u1 u2 l1 l2 l3 l4 us vs lu lw lf lo lc ln fs bs2 sc x y fd) H := hP
          have hD : va_D A (rW cI cJ cS lr sa po u1 u2 l1 l2 l3 l4 us vs lu lw lf lo lc ln fs bs2 sc x y fd) := hD
          exact hret 80 H locs ls _ _ hP hD hS d_LoopRanker_holds_80 (s_chg_01 _ _ _ _ _ _ _ _ _) (by rw [dAt_of hmap hb2x]; simp only [r_ho, r_h3, if_neg h16, if_neg h27, if_neg h31, if_pos hw0]; first | done | rfl) (⟨lu, lw, lf, lo, _, _, _, bs2, rfl, hok, hI.2.1, hmap, hI.2.2.2⟩)
        · by_cases hw1 : what = 1
          · refine wt_i hw1 ?_
            refine lv_tableIn (off := 39) (tgt := 81) X.1.1 X.1.2.1 d_LoopRanker_holds_42 (by decide) (by decide) rfl (by decide) ?_
            refine lv_aload_n X.1.1 X.1.2.1 d_LoopRanker_holds_81 rfl (lv_at hl 0 rfl) ?_
            refine fg_LoopRanker_11 X hP 0 rfl rfl d_LoopRanker_holds_82 ?_
            refine lv_iload_n X.1.1 X.1.2.1 d_LoopRanker_holds_85 rfl (lv_at hl 1 rfl) ?_
            obtain ⟨b3, hb3⟩ := bs_get (bs := bs) (k := t) hok.1 (by omega)
            refine wa_ald X.1.1 X.1.2.1 X.2.1 hP 1 2 rfl rfl t rfl (by omega) (by decide) (bF_at hb3) d_LoopRanker_holds_86 ?_
            refine lv_iload_n X.1.1 X.1.2.1 d_LoopRanker_holds_87 rfl (lv_at hl 2 rfl) ?_
            refine lv_iload_n X.1.1 X.1.2.1 d_LoopRanker_holds_88 rfl (lv_at hl 3 rfl) ?_
            refine lv_iconst (v := (-1 : Int32)) X.1.1 X.1.2.1 d_LoopRanker_holds_89 (by decide) ?_
            refine wb_Ni [.int u, .int v, .int (-1 : Int32)] 1 0 X nz_nest (c_Step_changesByAtMost (b3.1 0) (b3.1 1) (b3.1 2) (b3.1 3) (b3.1 4) (b3.1 5) (b3.1 6) b3.2.1.1 b3.2.1.2.1 b3.2.1.2.2 b3.2.2.1.1 b3.2.2.1.2 b3.2.2.2.1.1 b3.2.2.2.1.2 b3.2.2.2.2.1 b3.2.2.2.2.2.1 b3.2.2.2.2.2.2 u v (-1 : Int32) (hok.2 _ _ hb3).1) (cw_LoopRanker_99 X.1.2.2.2.2 X.2.2.1 (by decide)) _ hb3 [] [] rfl hP hD hS rfl rfl rfl rfl hl.1 (Nat.le_of_ble_eq_true rfl) (by decide) d_LoopRanker_holds_90 (fun H locs wn hwn hall hS => ?_)
            obtain ⟨t2, c2, rfl⟩ := hwn
            obtain ⟨hP, hD⟩ := hall (bS b3 t2 c2) rfl
            rw [← bF_set (b' := bS b3 t2 c2) hb3 rfl] at hP hD
            have hok := bsOK_set (b := bS b3 t2 c2) hok t (bOK_S (hok.2 _ _ hb3) _ _)
            have hmap := (bD_set (b' := bS b3 t2 c2) hb3 rfl).trans hmap
            have hb4x : (bs.set t (bS b3 t2 c2))[t]? = some (bS b3 t2 c2) := bs_set_at hb3
            generalize hgen : bs.set t (bS b3 t2 c2) = bs4 at hP hD hok hmap hb4x
            have hP : va_P D cls (rW cI cJ cS lr sa po u1 u2 l1 l2 l3 l4 us vs lu lw lf lo lc ln fs bs4 sc x y fd) H := hP
            have hD : va_D A (rW cI cJ cS lr sa po u1 u2 l1 l2 l3 l4 us vs lu lw lf lo lc ln fs bs4 sc x y fd) := hD
            exact hret 93 H locs ls _ _ hP hD hS d_LoopRanker_holds_93 (s_chg_01 _ _ _ _ _ _ _ _ _) (by rw [dAt_of hmap hb4x]; simp only [r_ho, r_h3, if_neg h16, if_neg h27, if_neg h31, if_neg hw0, if_pos hw1]; first | done | rfl) (⟨lu, lw, lf, lo, _, _, _, bs4, rfl, hok, hI.2.1, hmap, hI.2.2.2⟩)
          · by_cases hw2 : what = 2
            · refine wt_i hw2 ?_
              refine lv_tableIn (off := 52) (tgt := 94) X.1.1 X.1.2.1 d_LoopRanker_holds_42 (by decide) (by decide) rfl (by decide) ?_
              refine lv_aload_n X.1.1 X.1.2.1 d_LoopRanker_holds_94 rfl (lv_at hl 0 rfl) ?_
              refine fg_LoopRanker_11 X hP 0 rfl rfl d_LoopRanker_holds_95 ?_
              refine lv_iload_n X.1.1 X.1.2.1 d_LoopRanker_holds_98 rfl (lv_at hl 1 rfl) ?_
              obtain ⟨b5, hb5⟩ := bs_get (bs := bs) (k := t) hok.1 (by omega)
              refine wa_ald X.1.1 X.1.2.1 X.2.1 hP 1 2 rfl rfl t rfl (by omega) (by decide) (bF_at hb5) d_LoopRanker_holds_99 ?_
              refine lv_iload_n X.1.1 X.1.2.1 d_LoopRanker_holds_100 rfl (lv_at hl 2 rfl) ?_
              refine lv_iload_n X.1.1 X.1.2.1 d_LoopRanker_holds_101 rfl (lv_at hl 3 rfl) ?_
              refine wb_Ni [.int u, .int v] 1 0 X nz_nest (c_Step_isBounded (b5.1 0) (b5.1 1) (b5.1 2) (b5.1 3) (b5.1 4) (b5.1 5) (b5.1 6) b5.2.1.1 b5.2.1.2.1 b5.2.1.2.2 b5.2.2.1.1 b5.2.2.1.2 b5.2.2.2.1.1 b5.2.2.2.1.2 b5.2.2.2.2.1 b5.2.2.2.2.2.1 b5.2.2.2.2.2.2 u v (hok.2 _ _ hb5).1) (cw_LoopRanker_103 X.1.2.2.2.2 X.2.2.1 (by decide)) _ hb5 [] [] rfl hP hD hS rfl rfl rfl rfl hl.1 (Nat.le_of_ble_eq_true rfl) (by decide) d_LoopRanker_holds_102 (fun H locs wn hwn hall hS => ?_)
              obtain ⟨t3, c3, rfl⟩ := hwn
              obtain ⟨hP, hD⟩ := hall (bS b5 t3 c3) rfl
              rw [← bF_set (b' := bS b5 t3 c3) hb5 rfl] at hP hD
              have hok := bsOK_set (b := bS b5 t3 c3) hok t (bOK_S (hok.2 _ _ hb5) _ _)
              have hmap := (bD_set (b' := bS b5 t3 c3) hb5 rfl).trans hmap
              have hb6x : (bs.set t (bS b5 t3 c3))[t]? = some (bS b5 t3 c3) := bs_set_at hb5
              generalize hgen : bs.set t (bS b5 t3 c3) = bs6 at hP hD hok hmap hb6x
              have hP : va_P D cls (rW cI cJ cS lr sa po u1 u2 l1 l2 l3 l4 us vs lu lw lf lo lc ln fs bs6 sc x y fd) H := hP
              have hD : va_D A (rW cI cJ cS lr sa po u1 u2 l1 l2 l3 l4 us vs lu lw lf lo lc ln fs bs6 sc x y fd) := hD
              exact hret 105 H locs ls _ _ hP hD hS d_LoopRanker_holds_105 (s_bnd_01 _ _ _ _ _ _ _) (by rw [dAt_of hmap hb6x]; simp only [r_ho, r_h3, if_neg h16, if_neg h27, if_neg h31, if_neg hw0, if_neg hw1, if_pos hw2]; first | done | rfl) (⟨lu, lw, lf, lo, _, _, _, bs6, rfl, hok, hI.2.1, hmap, hI.2.2.2⟩)
            · refine lv_tableOut (tgt := 106) X.1.1 X.1.2.1 d_LoopRanker_holds_42 (ts_3 hw0 hw1 hw2) (by decide) ?_
              refine lv_iconst (v := (0 : Int32)) X.1.1 X.1.2.1 d_LoopRanker_holds_106 (by decide) ?_
              exact hret 107 H locs ls _ _ hP hD hS d_LoopRanker_holds_107 (Or.inl rfl) (by first | (simp only [r_ho, r_h3, if_neg h16, if_neg h27, if_neg h31, if_neg hw0, if_neg hw1, if_neg hw2]; done) | simp [r_ho, r_h3, h16, h27, h31, hw0, hw1, hw2]) (⟨lu, lw, lf, lo, _, _, _, bs, rfl, hok, hI.2.1, hmap, hI.2.2.2⟩)
      · refine lv_iload_n X.1.1 X.1.2.1 d_LoopRanker_holds_34 rfl (lv_at hl 3 rfl) ?_
        refine wi0_ne (tgt := 40) X.1.1 X.1.2.1 d_LoopRanker_holds_35 (by decide) (fun h35 => ?_) (fun h35 => ?_)
        · refine lv_iload X.1.1 X.1.2.1 d_LoopRanker_holds_40 (lv_at hl 4 rfl) ?_
          by_cases hw0 : what = 0
          · refine wt_i hw0 ?_
            refine lv_tableIn (off := 26) (tgt := 68) X.1.1 X.1.2.1 d_LoopRanker_holds_42 (by decide) (by decide) rfl (by decide) ?_
            refine lv_aload_n X.1.1 X.1.2.1 d_LoopRanker_holds_68 rfl (lv_at hl 0 rfl) ?_
            refine fg_LoopRanker_11 X hP 0 rfl rfl d_LoopRanker_holds_69 ?_
            refine lv_iload_n X.1.1 X.1.2.1 d_LoopRanker_holds_72 rfl (lv_at hl 1 rfl) ?_
            obtain ⟨b7, hb7⟩ := bs_get (bs := bs) (k := t) hok.1 (by omega)
            refine wa_ald X.1.1 X.1.2.1 X.2.1 hP 1 2 rfl rfl t rfl (by omega) (by decide) (bF_at hb7) d_LoopRanker_holds_73 ?_
            refine lv_iload_n X.1.1 X.1.2.1 d_LoopRanker_holds_74 rfl (lv_at hl 2 rfl) ?_
            refine lv_iload_n X.1.1 X.1.2.1 d_LoopRanker_holds_75 rfl (lv_at hl 3 rfl) ?_
            refine lv_iconst (v := (0 : Int32)) X.1.1 X.1.2.1 d_LoopRanker_holds_76 (by decide) ?_
            refine wb_Ni [.int u, .int v, .int (0 : Int32)] 1 0 X nz_nest (c_Step_changesByAtMost (b7.1 0) (b7.1 1) (b7.1 2) (b7.1 3) (b7.1 4) (b7.1 5) (b7.1 6) b7.2.1.1 b7.2.1.2.1 b7.2.1.2.2 b7.2.2.1.1 b7.2.2.1.2 b7.2.2.2.1.1 b7.2.2.2.1.2 b7.2.2.2.2.1 b7.2.2.2.2.2.1 b7.2.2.2.2.2.2 u v (0 : Int32) (hok.2 _ _ hb7).1) (cw_LoopRanker_99 X.1.2.2.2.2 X.2.2.1 (by decide)) _ hb7 [] [] rfl hP hD hS rfl rfl rfl rfl hl.1 (Nat.le_of_ble_eq_true rfl) (by decide) d_LoopRanker_holds_77 (fun H locs wn hwn hall hS => ?_)
            obtain ⟨t4, c4, rfl⟩ := hwn
            obtain ⟨hP, hD⟩ := hall (bS b7 t4 c4) rfl
            rw [← bF_set (b' := bS b7 t4 c4) hb7 rfl] at hP hD
            have hok := bsOK_set (b := bS b7 t4 c4) hok t (bOK_S (hok.2 _ _ hb7) _ _)
            have hmap := (bD_set (b' := bS b7 t4 c4) hb7 rfl).trans hmap
            have hb8x : (bs.set t (bS b7 t4 c4))[t]? = some (bS b7 t4 c4) := bs_set_at hb7
            generalize hgen : bs.set t (bS b7 t4 c4) = bs8 at hP hD hok hmap hb8x
            have hP : va_P D cls (rW cI cJ cS lr sa po u1 u2 l1 l2 l3 l4 us vs lu lw lf lo lc ln fs bs8 sc x y fd) H := hP
            have hD : va_D A (rW cI cJ cS lr sa po u1 u2 l1 l2 l3 l4 us vs lu lw lf lo lc ln fs bs8 sc x y fd) := hD
            exact hret 80 H locs ls _ _ hP hD hS d_LoopRanker_holds_80 (s_chg_01 _ _ _ _ _ _ _ _ _) (by rw [dAt_of hmap hb8x]; simp only [r_ho, r_h3, if_neg h16, if_neg h27, if_pos h31, if_neg h35, if_pos hw0]; first | done | rfl) (⟨lu, lw, lf, lo, _, _, _, bs8, rfl, hok, hI.2.1, hmap, hI.2.2.2⟩)
          · by_cases hw1 : what = 1
            · refine wt_i hw1 ?_
              refine lv_tableIn (off := 39) (tgt := 81) X.1.1 X.1.2.1 d_LoopRanker_holds_42 (by decide) (by decide) rfl (by decide) ?_
              refine lv_aload_n X.1.1 X.1.2.1 d_LoopRanker_holds_81 rfl (lv_at hl 0 rfl) ?_
              refine fg_LoopRanker_11 X hP 0 rfl rfl d_LoopRanker_holds_82 ?_
              refine lv_iload_n X.1.1 X.1.2.1 d_LoopRanker_holds_85 rfl (lv_at hl 1 rfl) ?_
              obtain ⟨b9, hb9⟩ := bs_get (bs := bs) (k := t) hok.1 (by omega)
              refine wa_ald X.1.1 X.1.2.1 X.2.1 hP 1 2 rfl rfl t rfl (by omega) (by decide) (bF_at hb9) d_LoopRanker_holds_86 ?_
              refine lv_iload_n X.1.1 X.1.2.1 d_LoopRanker_holds_87 rfl (lv_at hl 2 rfl) ?_
              refine lv_iload_n X.1.1 X.1.2.1 d_LoopRanker_holds_88 rfl (lv_at hl 3 rfl) ?_
              refine lv_iconst (v := (-1 : Int32)) X.1.1 X.1.2.1 d_LoopRanker_holds_89 (by decide) ?_
              refine wb_Ni [.int u, .int v, .int (-1 : Int32)] 1 0 X nz_nest (c_Step_changesByAtMost (b9.1 0) (b9.1 1) (b9.1 2) (b9.1 3) (b9.1 4) (b9.1 5) (b9.1 6) b9.2.1.1 b9.2.1.2.1 b9.2.1.2.2 b9.2.2.1.1 b9.2.2.1.2 b9.2.2.2.1.1 b9.2.2.2.1.2 b9.2.2.2.2.1 b9.2.2.2.2.2.1 b9.2.2.2.2.2.2 u v (-1 : Int32) (hok.2 _ _ hb9).1) (cw_LoopRanker_99 X.1.2.2.2.2 X.2.2.1 (by decide)) _ hb9 [] [] rfl hP hD hS rfl rfl rfl rfl hl.1 (Nat.le_of_ble_eq_true rfl) (by decide) d_LoopRanker_holds_90 (fun H locs wn hwn hall hS => ?_)
              obtain ⟨t5, c5, rfl⟩ := hwn
              obtain ⟨hP, hD⟩ := hall (bS b9 t5 c5) rfl
              rw [← bF_set (b' := bS b9 t5 c5) hb9 rfl] at hP hD
              have hok := bsOK_set (b := bS b9 t5 c5) hok t (bOK_S (hok.2 _ _ hb9) _ _)
              have hmap := (bD_set (b' := bS b9 t5 c5) hb9 rfl).trans hmap
              have hb10x : (bs.set t (bS b9 t5 c5))[t]? = some (bS b9 t5 c5) := bs_set_at hb9
              generalize hgen : bs.set t (bS b9 t5 c5) = bs10 at hP hD hok hmap hb10x
              have hP : va_P D cls (rW cI cJ cS lr sa po u1 u2 l1 l2 l3 l4 us vs lu lw lf lo lc ln fs bs10 sc x y fd) H := hP
              have hD : va_D A (rW cI cJ cS lr sa po u1 u2 l1 l2 l3 l4 us vs lu lw lf lo lc ln fs bs10 sc x y fd) := hD
              exact hret 93 H locs ls _ _ hP hD hS d_LoopRanker_holds_93 (s_chg_01 _ _ _ _ _ _ _ _ _) (by rw [dAt_of hmap hb10x]; simp only [r_ho, r_h3, if_neg h16, if_neg h27, if_pos h31, if_neg h35, if_neg hw0, if_pos hw1]; first | done | rfl) (⟨lu, lw, lf, lo, _, _, _, bs10, rfl, hok, hI.2.1, hmap, hI.2.2.2⟩)
            · by_cases hw2 : what = 2
              · refine wt_i hw2 ?_
                refine lv_tableIn (off := 52) (tgt := 94) X.1.1 X.1.2.1 d_LoopRanker_holds_42 (by decide) (by decide) rfl (by decide) ?_
                refine lv_aload_n X.1.1 X.1.2.1 d_LoopRanker_holds_94 rfl (lv_at hl 0 rfl) ?_
                refine fg_LoopRanker_11 X hP 0 rfl rfl d_LoopRanker_holds_95 ?_
                refine lv_iload_n X.1.1 X.1.2.1 d_LoopRanker_holds_98 rfl (lv_at hl 1 rfl) ?_
                obtain ⟨b11, hb11⟩ := bs_get (bs := bs) (k := t) hok.1 (by omega)
                refine wa_ald X.1.1 X.1.2.1 X.2.1 hP 1 2 rfl rfl t rfl (by omega) (by decide) (bF_at hb11) d_LoopRanker_holds_99 ?_
                refine lv_iload_n X.1.1 X.1.2.1 d_LoopRanker_holds_100 rfl (lv_at hl 2 rfl) ?_
                refine lv_iload_n X.1.1 X.1.2.1 d_LoopRanker_holds_101 rfl (lv_at hl 3 rfl) ?_
                refine wb_Ni [.int u, .int v] 1 0 X nz_nest (c_Step_isBounded (b11.1 0) (b11.1 1) (b11.1 2) (b11.1 3) (b11.1 4) (b11.1 5) (b11.1 6) b11.2.1.1 b11.2.1.2.1 b11.2.1.2.2 b11.2.2.1.1 b11.2.2.1.2 b11.2.2.2.1.1 b11.2.2.2.1.2 b11.2.2.2.2.1 b11.2.2.2.2.2.1 b11.2.2.2.2.2.2 u v (hok.2 _ _ hb11).1) (cw_LoopRanker_103 X.1.2.2.2.2 X.2.2.1 (by decide)) _ hb11 [] [] rfl hP hD hS rfl rfl rfl rfl hl.1 (Nat.le_of_ble_eq_true rfl) (by decide) d_LoopRanker_holds_102 (fun H locs wn hwn hall hS => ?_)
                obtain ⟨t6, c6, rfl⟩ := hwn
                obtain ⟨hP, hD⟩ := hall (bS b11 t6 c6) rfl
                rw [← bF_set (b' := bS b11 t6 c6) hb11 rfl] at hP hD
                have hok := bsOK_set (b := bS b11 t6 c6) hok t (bOK_S (hok.2 _ _ hb11) _ _)
                have hmap := (bD_set (b' := bS b11 t6 c6) hb11 rfl).trans hmap
                have hb12x : (bs.set t (bS b11 t6 c6))[t]? = some (bS b11 t6 c6) := bs_set_at hb11
                generalize hgen : bs.set t (bS b11 t6 c6) = bs12 at hP hD hok hmap hb12x
                have hP : va_P D cls (rW cI cJ cS lr sa po u1 u2 l1 l2 l3 l4 us vs lu lw lf lo lc ln fs bs12 sc x y fd) H := hP
                have hD : va_D A (rW cI cJ cS lr sa po u1 u2 l1 l2 l3 l4 us vs lu lw lf lo lc ln fs bs12 sc x y fd) := hD
                exact hret 105 H locs ls _ _ hP hD hS d_LoopRanker_holds_105 (s_bnd_01 _ _ _ _ _ _ _) (by rw [dAt_of hmap hb12x]; simp only [r_ho, r_h3, if_neg h16, if_neg h27, if_pos h31, if_neg h35, if_neg hw0, if_neg hw1, if_pos hw2]; first | done | rfl) (⟨lu, lw, lf, lo, _, _, _, bs12, rfl, hok, hI.2.1, hmap, hI.2.2.2⟩)
              · refine lv_tableOut (tgt := 106) X.1.1 X.1.2.1 d_LoopRanker_holds_42 (ts_3 hw0 hw1 hw2) (by decide) ?_
                refine lv_iconst (v := (0 : Int32)) X.1.1 X.1.2.1 d_LoopRanker_holds_106 (by decide) ?_
                exact hret 107 H locs ls _ _ hP hD hS d_LoopRanker_holds_107 (Or.inl rfl) (by first | (simp only [r_ho, r_h3, if_neg h16, if_neg h27, if_pos h31, if_neg h35, if_neg hw0, if_neg hw1, if_neg hw2]; done) | simp [r_ho, r_h3, h16, h27, h31, h35, hw0, hw1, hw2]) (⟨lu, lw, lf, lo, _, _, _, bs, rfl, hok, hI.2.1, hmap, hI.2.2.2⟩)
        · refine lv_iconst (v := (0 : Int32)) X.1.1 X.1.2.1 d_LoopRanker_holds_38 (by decide) ?_
          exact hret 39 H locs ls _ _ hP hD hS d_LoopRanker_holds_39 (Or.inl rfl) (by first | (simp only [r_ho, r_h3, if_neg h16, if_neg h27, if_pos h31, if_pos h35]; done) | simp [r_ho, r_h3, h16, h27, h31, h35]) (⟨lu, lw, lf, lo, _, _, _, bs, rfl, hok, hI.2.1, hmap, hI.2.2.2⟩)
set_option maxHeartbeats 4000000 in
set_option maxRecDepth 100000 in
theorem c_LoopRanker_fire_bad (lr sa po u1 u2 l1 l2 l3 l4 : Nat) (us vs lu lw : Nat → Int32) (lf : Nat → Int64) (lo : Nat → Int32) (lc ln : Nat) (fs : Int32) (bs : List bT) (sc : Nat) (x y : Int64) (fd : Int32) (t : Int32) (ds : List bDt) (hI : rI us vs ds sc lu lw lf lo lc ln fs bs) (hbad : m_th sc t = 0) : wk_ki l y_LoopRanker_fire (Cond.code y_LoopRanker_fire b_LoopRanker_fire 6 (some .boolean) :: BW) rm_LoopRanker_fire D cls (kT cI cJ cS) nz [.ref lr, .int t] (rW cI cJ cS lr sa po u1 u2 l1 l2 l3 l4 us vs lu lw lf lo lc ln fs bs sc x y fd) (fun wz => ∃ lu2 lw2 lf2 lo2 lc2 ln2 fs2 bs2, wz = rW cI cJ cS lr sa po u1 u2 l1 l2 l3 l4 us vs lu2 lw2 lf2 lo2 lc2 ln2 fs2 bs2 sc x y fd ∧ rI us vs ds sc lu2 lw2 lf2 lo2 lc2 ln2 fs2 bs2) 0 := by
  refine ws_z (plainFor_of_name (by decide)) (Nat.le_of_ble_eq_true rfl) ?_
  intro p e s m below meth c A ls Q X hret hl hP hD hS
  obtain ⟨H, hH⟩ : ∃ H, H = s.heap := ⟨_, rfl⟩
  obtain ⟨locs, hlo⟩ : ∃ locs : List Loc, locs = [] := ⟨_, rfl⟩
  have hP : va_P D cls (rW cI cJ cS lr sa po u1 u2 l1 l2 l3 l4 us vs lu lw lf lo lc ln fs bs sc x y fd) H := by rw [hH]; exact hP
  have hS : va_S A s.heap H locs := by rw [hH, hlo]; exact hS
  suffices hgo : W p l e rm_LoopRanker_fire s m ([.ref lr, .int t] : List Value).toArray below meth c H locs 0 0 Q (F0 m 0 ls ([])) by rw [hH, hlo] at hgo; exact hgo
  clear hH hlo
  have hl : lv_has ls 6 [(0, .ref lr), (1, .int t)] := hl
  have hok := hI.1
  have hmap := hI.2.2.1
  have hsc := hI.2.1
  refine lv_aload_n X.1.1 X.1.2.1 d_LoopRanker_fire_0 rfl (lv_at hl 0 rfl) ?_
  refine lv_iload_n X.1.1 X.1.2.1 d_LoopRanker_fire_1 rfl (lv_at hl 1 rfl) ?_
  refine wc_Vi [.int t] 3 0 X nz_nest (c_LoopRanker_isStep lr sa po u1 u2 l1 l2 l3 l4 us vs lu lw lf lo lc ln fs bs sc x y fd t) (cw_LoopRanker_44 X.1.2.2.2.2 X.2.2.1 (by decide)) ([]) ([]) ((List.append_nil _).symm) hP hD hS rfl rfl rfl rfl hl.1 (Nat.le_of_ble_eq_true rfl) (by decide) d_LoopRanker_fire_2 (fun H locs wn hwn hP hD hS => ?_)
  subst hwn
  rw [List.nil_append, List.append_nil] at hP hD
  have hP : va_P D cls (rW cI cJ cS lr sa po u1 u2 l1 l2 l3 l4 us vs lu lw lf lo lc ln fs bs sc x y fd) H := hP
  have hD : va_D A (rW cI cJ cS lr sa po u1 u2 l1 l2 l3 l4 us vs lu lw lf lo lc ln fs bs sc x y fd) := hD
  refine wi0_eq (tgt := 31) X.1.1 X.1.2.1 d_LoopRanker_fire_5 (by decide) (fun h5 => ?_) (fun h5 => absurd hbad h5)
  refine lv_iconst (v := (0 : Int32)) X.1.1 X.1.2.1 d_LoopRanker_fire_31 (by decide) ?_
  exact hret 32 H locs ls _ _ hP hD hS d_LoopRanker_fire_32 (Or.inl rfl) (rfl) (⟨lu, lw, lf, lo, _, _, _, bs, rfl, hok, hI.2.1, hmap, hI.2.2.2⟩)
set_option maxHeartbeats 4000000 in
set_option maxRecDepth 100000 in
theorem c_LoopRanker_fire (lr sa po u1 u2 l1 l2 l3 l4 : Nat) (us vs lu lw : Nat → Int32) (lf : Nat → Int64) (lo : Nat → Int32) (lc ln : Nat) (fs : Int32) (bs : List bT) (sc : Nat) (x y : Int64) (fd : Int32) (t : Nat) (ds : List bDt) (hI : rI us vs ds sc lu lw lf lo lc ln fs bs) (ht : t < sc) : wk_ki l y_LoopRanker_fire (Cond.code y_LoopRanker_fire b_LoopRanker_fire 6 (some .boolean) :: BW) rm_LoopRanker_fire D cls (kT cI cJ cS) nz [.ref lr, .int (nI t)] (rW cI cJ cS lr sa po u1 u2 l1 l2 l3 l4 us vs lu lw lf lo lc ln fs bs sc x y fd) (fun wz => ∃ lu2 lw2 lf2 lo2 lc2 ln2 fs2 bs2, wz = (if r_fr (dAt ds t) x y = 0 then rW cI cJ cS lr sa po u1 u2 l1 l2 l3 l4 us vs lu2 lw2 lf2 lo2 lc2 ln2 fs2 bs2 sc x y fd else rW cI cJ cS lr sa po u1 u2 l1 l2 l3 l4 us vs lu2 lw2 lf2 lo2 lc2 ln2 fs2 bs2 sc (r_nx (dAt ds t) x y) (r_ny (dAt ds t) x y) (fd + 1)) ∧ rI us vs ds sc lu2 lw2 lf2 lo2 lc2 ln2 fs2 bs2) (r_fr (dAt ds t) x y) := by
  refine ws_z (plainFor_of_name (by decide)) (Nat.le_of_ble_eq_true rfl) ?_
  intro p e s m below meth c A ls Q X hret hl hP hD hS
  obtain ⟨H, hH⟩ : ∃ H, H = s.heap := ⟨_, rfl⟩
  obtain ⟨locs, hlo⟩ : ∃ locs : List Loc, locs = [] := ⟨_, rfl⟩
  have hP : va_P D cls (rW cI cJ cS lr sa po u1 u2 l1 l2 l3 l4 us vs lu lw lf lo lc ln fs bs sc x y fd) H := by rw [hH]; exact hP
  have hS : va_S A s.heap H locs := by rw [hH, hlo]; exact hS
  suffices hgo : W p l e rm_LoopRanker_fire s m ([.ref lr, .int (nI t)] : List Value).toArray below meth c H locs 0 0 Q (F0 m 0 ls ([])) by rw [hH, hlo] at hgo; exact hgo
  clear hH hlo
  have hl : lv_has ls 6 [(0, .ref lr), (1, .int (nI t))] := hl
  have hok := hI.1
  have hmap := hI.2.2.1
  have hsc := hI.2.1
  refine lv_aload_n X.1.1 X.1.2.1 d_LoopRanker_fire_0 rfl (lv_at hl 0 rfl) ?_
  refine lv_iload_n X.1.1 X.1.2.1 d_LoopRanker_fire_1 rfl (lv_at hl 1 rfl) ?_
  refine wc_Vi [.int (nI t)] 3 0 X nz_nest (c_LoopRanker_isStep lr sa po u1 u2 l1 l2 l3 l4 us vs lu lw lf lo lc ln fs bs sc x y fd (nI t)) (cw_LoopRanker_44 X.1.2.2.2.2 X.2.2.1 (by decide)) ([]) ([]) ((List.append_nil _).symm) hP hD hS rfl rfl rfl rfl hl.1 (Nat.le_of_ble_eq_true rfl) (by decide) d_LoopRanker_fire_2 (fun H locs wn hwn hP hD hS => ?_)
  subst hwn
  rw [List.nil_append, List.append_nil] at hP hD
  have hP : va_P D cls (rW cI cJ cS lr sa po u1 u2 l1 l2 l3 l4 us vs lu lw lf lo lc ln fs bs sc x y fd) H := hP
  have hD : va_D A (rW cI cJ cS lr sa po u1 u2 l1 l2 l3 l4 us vs lu lw lf lo lc ln fs bs sc x y fd) := hD
  refine wi0_eq (tgt := 31) X.1.1 X.1.2.1 d_LoopRanker_fire_5 (by decide) (fun h5 => absurd h5 (by rw [m_th_1 (by omega) (by omega)]; decide)) (fun h5 => ?_)
  refine lv_aload_n X.1.1 X.1.2.1 d_LoopRanker_fire_8 rfl (lv_at hl 0 rfl) ?_
  refine fg_LoopRanker_11 X hP 0 rfl rfl d_LoopRanker_fire_9 ?_
  refine lv_iload_n X.1.1 X.1.2.1 d_LoopRanker_fire_12 rfl (lv_at hl 1 rfl) ?_
  obtain ⟨b1, hb1⟩ := bs_get (bs := bs) (k := t) hok.1 (by omega)
  refine wa_ald X.1.1 X.1.2.1 X.2.1 hP 1 2 rfl rfl t rfl (by omega) (by decide) (bF_at hb1) d_LoopRanker_fire_13 ?_
  refine fg_LoopRanker_56 X (wb_cut hP hb1) 0 rfl rfl d_LoopRanker_fire_14 ?_
  refine lv_aload_n X.1.1 X.1.2.1 d_LoopRanker_fire_17 rfl (lv_at hl 0 rfl) ?_
  refine fg_LoopRanker_27 X hP 0 rfl rfl d_LoopRanker_fire_18 ?_
  refine lv_aload_n X.1.1 X.1.2.1 d_LoopRanker_fire_21 rfl (lv_at hl 0 rfl) ?_
  refine fg_LoopRanker_31 X hP 0 rfl rfl d_LoopRanker_fire_22 ?_
  refine wb_Ni [.long x, .long y] 0 0 X nz_nest (c_Guard_allows (b1.1 1) (b1.1 2) (b1.1 3) (b1.1 4) b1.2.1.1 b1.2.1.2.1 b1.2.1.2.2 b1.2.2.1.1 b1.2.2.1.2 b1.2.2.2.1.1 b1.2.2.2.1.2 x y (hok.2 _ _ hb1).1) (cw_LoopRanker_136 X.1.2.2.2.2 X.2.2.1 (by decide)) _ hb1 [(b1.1 0, .inr (1, [.ref (b1.1 1), .ref (b1.1 5), .ref (b1.1 6), .int b1.2.2.2.2.2.2]))] [(b1.1 5, .inl (cI, 6, .inl b1.2.2.2.2.1)), (b1.1 6, .inl (cI, 80, .inl b1.2.2.2.2.2.1))] rfl hP hD hS rfl rfl rfl rfl hl.1 (Nat.le_of_ble_eq_true rfl) (by decide) d_LoopRanker_fire_25 (fun H locs wn hwn hall hS => ?_)
  subst hwn
  obtain ⟨hP, hD⟩ := hall (b1) rfl
  have hsame := bs_set_same hb1
  rw [hsame] at hP hD
  have hP : va_P D cls (rW cI cJ cS lr sa po u1 u2 l1 l2 l3 l4 us vs lu lw lf lo lc ln fs bs sc x y fd) H := hP
  have hD : va_D A (rW cI cJ cS lr sa po u1 u2 l1 l2 l3 l4 us vs lu lw lf lo lc ln fs bs sc x y fd) := hD
  refine wi0_ne (tgt := 33) X.1.1 X.1.2.1 d_LoopRanker_fire_28 (by decide) (fun h28 => ?_) (fun h28 => ?_)
  · refine lv_aload_n X.1.1 X.1.2.1 d_LoopRanker_fire_33 rfl (lv_at hl 0 rfl) ?_
    refine fg_LoopRanker_11 X hP 0 rfl rfl d_LoopRanker_fire_34 ?_
    refine lv_iload_n X.1.1 X.1.2.1 d_LoopRanker_fire_37 rfl (lv_at hl 1 rfl) ?_
    refine wa_ald X.1.1 X.1.2.1 X.2.1 hP 1 2 rfl rfl t rfl (by omega) (by decide) (bF_at hb1) d_LoopRanker_fire_38 ?_
    refine lv_iconst (v := (0 : Int32)) X.1.1 X.1.2.1 d_LoopRanker_fire_39 (by decide) ?_
    refine lv_aload_n X.1.1 X.1.2.1 d_LoopRanker_fire_40 rfl (lv_at hl 0 rfl) ?_
    refine fg_LoopRanker_27 X hP 0 rfl rfl d_LoopRanker_fire_41 ?_
    refine lv_aload_n X.1.1 X.1.2.1 d_LoopRanker_fire_44 rfl (lv_at hl 0 rfl) ?_
    refine fg_LoopRanker_31 X hP 0 rfl rfl d_LoopRanker_fire_45 ?_
    refine wb_Nl [.int (0 : Int32), .long x, .long y] 1 0 X nz_nest (c_Step_next (b1.1 0) (b1.1 1) (b1.1 2) (b1.1 3) (b1.1 4) (b1.1 5) (b1.1 6) b1.2.1.1 b1.2.1.2.1 b1.2.1.2.2 b1.2.2.1.1 b1.2.2.1.2 b1.2.2.2.1.1 b1.2.2.2.1.2 b1.2.2.2.2.1 b1.2.2.2.2.2.1 b1.2.2.2.2.2.2 (0 : Int32) x y) (cw_LoopRanker_139 X.1.2.2.2.2 X.2.2.1 (by decide)) _ hb1 [] [] rfl hP hD hS rfl rfl rfl rfl hl.1 (Nat.le_of_ble_eq_true rfl) (by decide) d_LoopRanker_fire_48 (fun H locs wn hwn hall hS => ?_)
    subst hwn
    obtain ⟨hP, hD⟩ := hall (b1) rfl
    have hsame := bs_set_same hb1
    rw [hsame] at hP hD
    have hP : va_P D cls (rW cI cJ cS lr sa po u1 u2 l1 l2 l3 l4 us vs lu lw lf lo lc ln fs bs sc x y fd) H := hP
    have hD : va_D A (rW cI cJ cS lr sa po u1 u2 l1 l2 l3 l4 us vs lu lw lf lo lc ln fs bs sc x y fd) := hD
    refine lv_lstore_n X.1.1 X.1.2.1 d_LoopRanker_fire_51 rfl hl (by decide) rfl (fun ls hl => ?_)
    have hl : lv_has ls 6 [(2, .long (s_next b1.2.2.2.2.1 (0 : Int32) x y)), (0, .ref lr), (1, .int (nI t))] := hl
    refine lv_aload_n X.1.1 X.1.2.1 d_LoopRanker_fire_52 rfl (lv_at hl 1 rfl) ?_
    refine fg_LoopRanker_11 X hP 0 rfl rfl d_LoopRanker_fire_53 ?_
    refine lv_iload_n X.1.1 X.1.2.1 d_LoopRanker_fire_56 rfl (lv_at hl 2 rfl) ?_
    refine wa_ald X.1.1 X.1.2.1 X.2.1 hP 1 2 rfl rfl t rfl (by omega) (by decide) (bF_at hb1) d_LoopRanker_fire_57 ?_
    refine lv_iconst (v := (1 : Int32)) X.1.1 X.1.2.1 d_LoopRanker_fire_58 (by decide) ?_
    refine lv_aload_n X.1.1 X.1.2.1 d_LoopRanker_fire_59 rfl (lv_at hl 1 rfl) ?_
    refine fg_LoopRanker_27 X hP 0 rfl rfl d_LoopRanker_fire_60 ?_
    refine lv_aload_n X.1.1 X.1.2.1 d_LoopRanker_fire_63 rfl (lv_at hl 1 rfl) ?_
    refine fg_LoopRanker_31 X hP 0 rfl rfl d_LoopRanker_fire_64 ?_
    refine wb_Nl [.int (1 : Int32), .long x, .long y] 1 0 X nz_nest (c_Step_next (b1.1 0) (b1.1 1) (b1.1 2) (b1.1 3) (b1.1 4) (b1.1 5) (b1.1 6) b1.2.1.1 b1.2.1.2.1 b1.2.1.2.2 b1.2.2.1.1 b1.2.2.1.2 b1.2.2.2.1.1 b1.2.2.2.1.2 b1.2.2.2.2.1 b1.2.2.2.2.2.1 b1.2.2.2.2.2.2 (1 : Int32) x y) (cw_LoopRanker_139 X.1.2.2.2.2 X.2.2.1 (by decide)) _ hb1 [] [] rfl hP hD hS rfl rfl rfl rfl hl.1 (Nat.le_of_ble_eq_true rfl) (by decide) d_LoopRanker_fire_67 (fun H locs wn hwn hall hS => ?_)
    subst hwn
    obtain ⟨hP, hD⟩ := hall (b1) rfl
    have hsame := bs_set_same hb1
    rw [hsame] at hP hD
    have hP : va_P D cls (rW cI cJ cS lr sa po u1 u2 l1 l2 l3 l4 us vs lu lw lf lo lc ln fs bs sc x y fd) H := hP
    have hD : va_D A (rW cI cJ cS lr sa po u1 u2 l1 l2 l3 l4 us vs lu lw lf lo lc ln fs bs sc x y fd) := hD
    refine lv_lstore X.1.1 X.1.2.1 d_LoopRanker_fire_70 hl (by decide) rfl (fun ls hl => ?_)
    have hl : lv_has ls 6 [(4, .long (s_next b1.2.2.2.2.1 (1 : Int32) x y)), (2, .long (s_next b1.2.2.2.2.1 (0 : Int32) x y)), (0, .ref lr), (1, .int (nI t))] := hl
    refine lv_lload_n X.1.1 X.1.2.1 d_LoopRanker_fire_72 rfl (lv_at hl 1 rfl) ?_
    refine lv_ldc2 (v := 1000000000000) X.1.1 X.1.2.1 X.1.2.2.2.1 (X.1.2.2.2.2 _ kc_LoopRanker_143) d_LoopRanker_fire_73 ?_
    refine wc_Si [.long (s_next b1.2.2.2.2.1 (0 : Int32) x y), .long (1000000000000 : Int64)] X nz_nest (c_LoopRanker_isWithin (s_next b1.2.2.2.2.1 (0 : Int32) x y) (1000000000000 : Int64)) (cw_LoopRanker_50 X.1.2.2.2.2 X.2.2.1 (by decide)) (rW cI cJ cS lr sa po u1 u2 l1 l2 l3 l4 us vs lu lw lf lo lc ln fs bs sc x y fd) ([]) (by rw [List.append_nil, List.append_nil]) hP hD hS rfl rfl hl.1 (Nat.le_of_ble_eq_true rfl) (by decide) d_LoopRanker_fire_76 (fun H locs wn hwn hP hD hS => ?_)
    subst hwn
    rw [List.nil_append, List.append_nil] at hP hD
    have hP : va_P D cls (rW cI cJ cS lr sa po u1 u2 l1 l2 l3 l4 us vs lu lw lf lo lc ln fs bs sc x y fd) H := hP
    have hD : va_D A (rW cI cJ cS lr sa po u1 u2 l1 l2 l3 l4 us vs lu lw lf lo lc ln fs bs sc x y fd) := hD
    refine wi0_eq (tgt := 93) X.1.1 X.1.2.1 d_LoopRanker_fire_79 (by decide) (fun h79 => ?_) (fun h79 => ?_)
    · refine lv_iconst (v := (0 : Int32)) X.1.1 X.1.2.1 d_LoopRanker_fire_93 (by decide) ?_
      exact hret 94 H locs ls _ _ hP hD hS d_LoopRanker_fire_94 (Or.inl rfl) (by rw [dAt_of hmap hb1]; unfold r_fr; rw [if_neg (show ¬ g_al (bD b1).1.1 (bD b1).1.2.1 (bD b1).1.2.2 x y (bD b1).2.1.1 0 = 0 from h28), if_pos (show r_w (r_nx (bD b1) x y) 1000000000000 = 0 from h79)]) (⟨lu, lw, lf, lo, lc, ln, fs, bs, by rw [(show r_fr (dAt ds t) x y = 0 from by rw [dAt_of hmap hb1]; unfold r_fr; rw [if_neg (show ¬ g_al (bD b1).1.1 (bD b1).1.2.1 (bD b1).1.2.2 x y (bD b1).2.1.1 0 = 0 from h28), if_pos (show r_w (r_nx (bD b1) x y) 1000000000000 = 0 from h79)]), if_pos (by decide)], hok, hI.2.1, hmap, hI.2.2.2⟩)
    · refine lv_lload X.1.1 X.1.2.1 d_LoopRanker_fire_82 (lv_at hl 0 rfl) ?_
      refine lv_ldc2 (v := 1000000000000) X.1.1 X.1.2.1 X.1.2.2.2.1 (X.1.2.2.2.2 _ kc_LoopRanker_143) d_LoopRanker_fire_84 ?_
      refine wc_Si [.long (s_next b1.2.2.2.2.1 (1 : Int32) x y), .long (1000000000000 : Int64)] X nz_nest (c_LoopRanker_isWithin (s_next b1.2.2.2.2.1 (1 : Int32) x y) (1000000000000 : Int64)) (cw_LoopRanker_50 X.1.2.2.2.2 X.2.2.1 (by decide)) (rW cI cJ cS lr sa po u1 u2 l1 l2 l3 l4 us vs lu lw lf lo lc ln fs bs sc x y fd) ([]) (by rw [List.append_nil, List.append_nil]) hP hD hS rfl rfl hl.1 (Nat.le_of_ble_eq_true rfl) (by decide) d_LoopRanker_fire_87 (fun H locs wn hwn hP hD hS => ?_)
      subst hwn
      rw [List.nil_append, List.append_nil] at hP hD
      have hP : va_P D cls (rW cI cJ cS lr sa po u1 u2 l1 l2 l3 l4 us vs lu lw lf lo lc ln fs bs sc x y fd) H := hP
      have hD : va_D A (rW cI cJ cS lr sa po u1 u2 l1 l2 l3 l4 us vs lu lw lf lo lc ln fs bs sc x y fd) := hD
      refine wi0_ne (tgt := 95) X.1.1 X.1.2.1 d_LoopRanker_fire_90 (by decide) (fun h90 => ?_) (fun h90 => ?_)
      · refine lv_aload_n X.1.1 X.1.2.1 d_LoopRanker_fire_95 rfl (lv_at hl 2 rfl) ?_
        refine lv_lload_n X.1.1 X.1.2.1 d_LoopRanker_fire_96 rfl (lv_at hl 1 rfl) ?_
        refine fp_LoopRanker_27 X hP hD hS 0 rfl rfl rfl rfl d_LoopRanker_fire_97 (fun H locs hP hD hS => ?_)
        have hP : va_P D cls (rW cI cJ cS lr sa po u1 u2 l1 l2 l3 l4 us vs lu lw lf lo lc ln fs bs sc (s_next b1.2.2.2.2.1 (0 : Int32) x y) y fd) H := hP
        have hD : va_D A (rW cI cJ cS lr sa po u1 u2 l1 l2 l3 l4 us vs lu lw lf lo lc ln fs bs sc (s_next b1.2.2.2.2.1 (0 : Int32) x y) y fd) := hD
        refine lv_aload_n X.1.1 X.1.2.1 d_LoopRanker_fire_100 rfl (lv_at hl 2 rfl) ?_
        refine lv_lload X.1.1 X.1.2.1 d_LoopRanker_fire_101 (lv_at hl 0 rfl) ?_
        refine fp_LoopRanker_31 X hP hD hS 0 rfl rfl rfl rfl d_LoopRanker_fire_103 (fun H locs hP hD hS => ?_)
        have hP : va_P D cls (rW cI cJ cS lr sa po u1 u2 l1 l2 l3 l4 us vs lu lw lf lo lc ln fs bs sc (s_next b1.2.2.2.2.1 (0 : Int32) x y) (s_next b1.2.2.2.2.1 (1 : Int32) x y) fd) H := hP
        have hD : va_D A (rW cI cJ cS lr sa po u1 u2 l1 l2 l3 l4 us vs lu lw lf lo lc ln fs bs sc (s_next b1.2.2.2.2.1 (0 : Int32) x y) (s_next b1.2.2.2.2.1 (1 : Int32) x y) fd) := hD
        refine lv_aload_n X.1.1 X.1.2.1 d_LoopRanker_fire_106 rfl (lv_at hl 2 rfl) ?_
        refine lv_dup X.1.1 X.1.2.1 d_LoopRanker_fire_107 rfl ?_
        refine fg_LoopRanker_34 X hP 0 rfl rfl d_LoopRanker_fire_108 ?_
        refine lv_iconst (v := (1 : Int32)) X.1.1 X.1.2.1 d_LoopRanker_fire_111 (by decide) ?_
        refine lv_iadd X.1.1 X.1.2.1 d_LoopRanker_fire_112 ?_
        refine fp_LoopRanker_34 X hP hD hS 0 rfl rfl rfl rfl d_LoopRanker_fire_113 (fun H locs hP hD hS => ?_)
        have hP : va_P D cls (rW cI cJ cS lr sa po u1 u2 l1 l2 l3 l4 us vs lu lw lf lo lc ln fs bs sc (s_next b1.2.2.2.2.1 (0 : Int32) x y) (s_next b1.2.2.2.2.1 (1 : Int32) x y) (fd + (1 : Int32))) H := hP
        have hD : va_D A (rW cI cJ cS lr sa po u1 u2 l1 l2 l3 l4 us vs lu lw lf lo lc ln fs bs sc (s_next b1.2.2.2.2.1 (0 : Int32) x y) (s_next b1.2.2.2.2.1 (1 : Int32) x y) (fd + (1 : Int32))) := hD
        refine lv_iconst (v := (1 : Int32)) X.1.1 X.1.2.1 d_LoopRanker_fire_116 (by decide) ?_
        exact hret 117 H locs ls _ _ hP hD hS d_LoopRanker_fire_117 (Or.inr rfl) (by rw [dAt_of hmap hb1]; unfold r_fr; rw [if_neg (show ¬ g_al (bD b1).1.1 (bD b1).1.2.1 (bD b1).1.2.2 x y (bD b1).2.1.1 0 = 0 from h28), if_neg (show ¬ r_w (r_nx (bD b1) x y) 1000000000000 = 0 from h79), if_neg (show ¬ r_w (r_ny (bD b1) x y) 1000000000000 = 0 from h90)]) (⟨lu, lw, lf, lo, lc, ln, fs, bs, by rw [(show r_fr (dAt ds t) x y = 1 from by rw [dAt_of hmap hb1]; unfold r_fr; rw [if_neg (show ¬ g_al (bD b1).1.1 (bD b1).1.2.1 (bD b1).1.2.2 x y (bD b1).2.1.1 0 = 0 from h28), if_neg (show ¬ r_w (r_nx (bD b1) x y) 1000000000000 = 0 from h79), if_neg (show ¬ r_w (r_ny (bD b1) x y) 1000000000000 = 0 from h90)]), if_neg (by decide)]; rw [dAt_of hmap hb1]; rfl, hok, hI.2.1, hmap, hI.2.2.2⟩)
      · refine lv_iconst (v := (0 : Int32)) X.1.1 X.1.2.1 d_LoopRanker_fire_93 (by decide) ?_
        exact hret 94 H locs ls _ _ hP hD hS d_LoopRanker_fire_94 (Or.inl rfl) (by rw [dAt_of hmap hb1]; unfold r_fr; rw [if_neg (show ¬ g_al (bD b1).1.1 (bD b1).1.2.1 (bD b1).1.2.2 x y (bD b1).2.1.1 0 = 0 from h28), if_neg (show ¬ r_w (r_nx (bD b1) x y) 1000000000000 = 0 from h79), if_pos (show r_w (r_ny (bD b1) x y) 1000000000000 = 0 from h90)]) (⟨lu, lw, lf, lo, lc, ln, fs, bs, by rw [(show r_fr (dAt ds t) x y = 0 from by rw [dAt_of hmap hb1]; unfold r_fr; rw [if_neg (show ¬ g_al (bD b1).1.1 (bD b1).1.2.1 (bD b1).1.2.2 x y (bD b1).2.1.1 0 = 0 from h28), if_neg (show ¬ r_w (r_nx (bD b1) x y) 1000000000000 = 0 from h79), if_pos (show r_w (r_ny (bD b1) x y) 1000000000000 = 0 from h90)]), if_pos (by decide)], hok, hI.2.1, hmap, hI.2.2.2⟩)
  · refine lv_iconst (v := (0 : Int32)) X.1.1 X.1.2.1 d_LoopRanker_fire_31 (by decide) ?_
    exact hret 32 H locs ls _ _ hP hD hS d_LoopRanker_fire_32 (Or.inl rfl) (by rw [dAt_of hmap hb1]; unfold r_fr; rw [if_pos (show g_al (bD b1).1.1 (bD b1).1.2.1 (bD b1).1.2.2 x y (bD b1).2.1.1 0 = 0 from h28)]) (⟨lu, lw, lf, lo, lc, ln, fs, bs, by rw [(show r_fr (dAt ds t) x y = 0 from by rw [dAt_of hmap hb1]; unfold r_fr; rw [if_pos (show g_al (bD b1).1.1 (bD b1).1.2.1 (bD b1).1.2.2 x y (bD b1).2.1.1 0 = 0 from h28)]), if_pos (by decide)], hok, hI.2.1, hmap, hI.2.2.2⟩)
end CT
