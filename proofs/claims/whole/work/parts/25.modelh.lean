section CT
variable {l : Launch} {D : va_G} {cI cJ cS : ClassId}
set_option maxHeartbeats 4000000 in
set_option maxRecDepth 100000 in
theorem c_LoopRankerModel_levels (h m1 p1 q1 r1 w1 o1 f1 s1 : Nat) (nc : Nat) (my fp fq fr up : Nat → Int32) (sm : Int32) (top bot : Int64) (lv : Nat) (ol fi se : Nat → Int32) (x y : Int64) (fd : Int32) (dn : Nat → Nat) (hmy : ∀ t, t < nc → my t = nI (dn t) ∧ dn t ≤ 4) (hc : nc ≤ 6) : wk_ki l y_LoopRankerModel_levels (Cond.code y_LoopRankerModel_levels b_LoopRankerModel_levels 1 (some .int) :: BW) rm_LoopRankerModel_levels D cls (kT cI cJ cS) nz [.ref h] (mW cI h m1 p1 q1 r1 w1 o1 f1 s1 nc my fp fq fr up sm top bot lv ol fi se x y fd) (fun wz => ∃ fi2 se2 sm2 t2 b2, wz = mW cI h m1 p1 q1 r1 w1 o1 f1 s1 nc my fp fq fr up sm2 t2 b2 ((m_ab (m_H fp fq fr up dn) nc 7 (m_in 6 0 ol) []).2.length) ((m_ab (m_H fp fq fr up dn) nc 7 (m_in 6 0 ol) []).1) fi2 se2 x y fd ∧ m_has_L (m_ab (m_H fp fq fr up dn) nc 7 (m_in 6 0 ol) []).2 fi2 se2) (nI (m_ab (m_H fp fq fr up dn) nc 7 (m_in 6 0 ol) []).2.length) := by
  refine ws_i (plainFor_of_name (by decide)) (Nat.le_of_ble_eq_true rfl) ?_
  intro p e s m below meth c A ls Q X hret hl hP hD hS
  obtain ⟨H, hH⟩ : ∃ H, H = s.heap := ⟨_, rfl⟩
  obtain ⟨locs, hlo⟩ : ∃ locs : List Loc, locs = [] := ⟨_, rfl⟩
  have hP : va_P D cls (mW cI h m1 p1 q1 r1 w1 o1 f1 s1 nc my fp fq fr up sm top bot lv ol fi se x y fd) H := by rw [hH]; exact hP
  have hS : va_S A s.heap H locs := by rw [hH, hlo]; exact hS
  suffices hgo : W p l e rm_LoopRankerModel_levels s m ([.ref h] : List Value).toArray below meth c H locs 0 0 Q (F0 m 0 ls ([])) by rw [hH, hlo] at hgo; exact hgo
  clear hH hlo
  have hl : lv_has ls 1 [(0, .ref h)] := hl
  refine lv_aload_n X.1.1 X.1.2.1 d_LoopRankerModel_levels_0 rfl (lv_at hl 0 rfl) ?_
  refine wc_Vv [] 4 0 X nz_nest (c_LoopRankerModel_prove h m1 p1 q1 r1 w1 o1 f1 s1 nc my fp fq fr up sm top bot lv ol fi se x y fd dn hmy hc) (cw_LoopRankerModel_116 X.1.2.2.2.2 X.2.2.1 (by decide)) ([]) ([]) (rfl) hP hD hS rfl rfl rfl rfl hl.1 (Nat.le_of_ble_eq_true rfl) (by decide) d_LoopRankerModel_levels_1 (fun H locs wn hwn hP hD hS => ?_)
  obtain ⟨fi2, se2, sm2, t2, b2, rfl, hL2⟩ := hwn
  have hP : va_P D cls (mW cI h m1 p1 q1 r1 w1 o1 f1 s1 nc my fp fq fr up sm2 t2 b2 ((m_ab (m_H fp fq fr up dn) nc 7 (m_in 6 0 ol) []).2.length) ((m_ab (m_H fp fq fr up dn) nc 7 (m_in 6 0 ol) []).1) fi2 se2 x y fd) H := hP
  have hD : va_D A (mW cI h m1 p1 q1 r1 w1 o1 f1 s1 nc my fp fq fr up sm2 t2 b2 ((m_ab (m_H fp fq fr up dn) nc 7 (m_in 6 0 ol) []).2.length) ((m_ab (m_H fp fq fr up dn) nc 7 (m_in 6 0 ol) []).1) fi2 se2 x y fd) := hD
  refine lv_aload_n X.1.1 X.1.2.1 d_LoopRankerModel_levels_4 rfl (lv_at hl 0 rfl) ?_
  refine fg_LoopRankerModel_102 X hP 0 rfl rfl d_LoopRankerModel_levels_5 ?_
  exact hret 8 H locs ls _ _ hP hD hS d_LoopRankerModel_levels_8 (rfl) (⟨_, _, _, _, _, rfl, hL2⟩)
set_option maxHeartbeats 4000000 in
set_option maxRecDepth 100000 in
theorem c_LoopRankerModel_proven (h m1 p1 q1 r1 w1 o1 f1 s1 : Nat) (nc : Nat) (my fp fq fr up : Nat → Int32) (sm : Int32) (top bot : Int64) (lv : Nat) (ol fi se : Nat → Int32) (x y : Int64) (fd : Int32) (dn : Nat → Nat) (hmy : ∀ t, t < nc → my t = nI (dn t) ∧ dn t ≤ 4) (hc : nc ≤ 6) : wk_ki l y_LoopRankerModel_proven (Cond.code y_LoopRankerModel_proven b_LoopRankerModel_proven 1 (some .boolean) :: BW) rm_LoopRankerModel_proven D cls (kT cI cJ cS) nz [.ref h] (mW cI h m1 p1 q1 r1 w1 o1 f1 s1 nc my fp fq fr up sm top bot lv ol fi se x y fd) (fun wz => ∃ fi2 se2 sm2 t2 b2, wz = mW cI h m1 p1 q1 r1 w1 o1 f1 s1 nc my fp fq fr up sm2 t2 b2 ((m_ab (m_H fp fq fr up dn) nc 7 (m_in 6 0 ol) []).2.length) ((m_ab (m_H fp fq fr up dn) nc 7 (m_in 6 0 ol) []).1) fi2 se2 x y fd ∧ m_has_L (m_ab (m_H fp fq fr up dn) nc 7 (m_in 6 0 ol) []).2 fi2 se2) (if m_lf (m_ab (m_H fp fq fr up dn) nc 7 (m_in 6 0 ol) []).1 nc 0 0 = 0 then 1 else 0) := by
  refine ws_z (plainFor_of_name (by decide)) (Nat.le_of_ble_eq_true rfl) ?_
  intro p e s m below meth c A ls Q X hret hl hP hD hS
  obtain ⟨H, hH⟩ : ∃ H, H = s.heap := ⟨_, rfl⟩
  obtain ⟨locs, hlo⟩ : ∃ locs : List Loc, locs = [] := ⟨_, rfl⟩
  have hP : va_P D cls (mW cI h m1 p1 q1 r1 w1 o1 f1 s1 nc my fp fq fr up sm top bot lv ol fi se x y fd) H := by rw [hH]; exact hP
  have hS : va_S A s.heap H locs := by rw [hH, hlo]; exact hS
  suffices hgo : W p l e rm_LoopRankerModel_proven s m ([.ref h] : List Value).toArray below meth c H locs 0 0 Q (F0 m 0 ls ([])) by rw [hH, hlo] at hgo; exact hgo
  clear hH hlo
  have hl : lv_has ls 1 [(0, .ref h)] := hl
  refine lv_aload_n X.1.1 X.1.2.1 d_LoopRankerModel_proven_0 rfl (lv_at hl 0 rfl) ?_
  refine wc_Vv [] 4 0 X nz_nest (c_LoopRankerModel_prove h m1 p1 q1 r1 w1 o1 f1 s1 nc my fp fq fr up sm top bot lv ol fi se x y fd dn hmy hc) (cw_LoopRankerModel_116 X.1.2.2.2.2 X.2.2.1 (by decide)) ([]) ([]) (rfl) hP hD hS rfl rfl rfl rfl hl.1 (Nat.le_of_ble_eq_true rfl) (by decide) d_LoopRankerModel_proven_1 (fun H locs wn hwn hP hD hS => ?_)
  obtain ⟨fi2, se2, sm2, t2, b2, rfl, hL2⟩ := hwn
  have hP : va_P D cls (mW cI h m1 p1 q1 r1 w1 o1 f1 s1 nc my fp fq fr up sm2 t2 b2 ((m_ab (m_H fp fq fr up dn) nc 7 (m_in 6 0 ol) []).2.length) ((m_ab (m_H fp fq fr up dn) nc 7 (m_in 6 0 ol) []).1) fi2 se2 x y fd) H := hP
  have hD : va_D A (mW cI h m1 p1 q1 r1 w1 o1 f1 s1 nc my fp fq fr up sm2 t2 b2 ((m_ab (m_H fp fq fr up dn) nc 7 (m_in 6 0 ol) []).2.length) ((m_ab (m_H fp fq fr up dn) nc 7 (m_in 6 0 ol) []).1) fi2 se2 x y fd) := hD
  have hlen := m_fin_len (m_H fp fq fr up dn) nc 7 (m_in 6 0 ol) hc
  have hlf := m_lf_le (m_ab (m_H fp fq fr up dn) nc 7 (m_in 6 0 ol) []).1 nc 0 0
  refine lv_aload_n X.1.1 X.1.2.1 d_LoopRankerModel_proven_4 rfl (lv_at hl 0 rfl) ?_
  refine wc_Vi [] 4 0 X nz_nest (c_LoopRankerModel_left h m1 p1 q1 r1 w1 o1 f1 s1 nc my fp fq fr up sm2 t2 b2 ((m_ab (m_H fp fq fr up dn) nc 7 (m_in 6 0 ol) []).2.length) ((m_ab (m_H fp fq fr up dn) nc 7 (m_in 6 0 ol) []).1) fi2 se2 x y fd  hc) (cw_LoopRankerModel_108 X.1.2.2.2.2 X.2.2.1 (by decide)) ([]) ([]) (rfl) hP hD hS rfl rfl rfl rfl hl.1 (Nat.le_of_ble_eq_true rfl) (by decide) d_LoopRankerModel_proven_5 (fun H locs wn hwn hP hD hS => ?_)
  subst hwn
  have hP : va_P D cls (mW cI h m1 p1 q1 r1 w1 o1 f1 s1 nc my fp fq fr up sm2 t2 b2 ((m_ab (m_H fp fq fr up dn) nc 7 (m_in 6 0 ol) []).2.length) ((m_ab (m_H fp fq fr up dn) nc 7 (m_in 6 0 ol) []).1) fi2 se2 x y fd) H := hP
  have hD : va_D A (mW cI h m1 p1 q1 r1 w1 o1 f1 s1 nc my fp fq fr up sm2 t2 b2 ((m_ab (m_H fp fq fr up dn) nc 7 (m_in 6 0 ol) []).2.length) ((m_ab (m_H fp fq fr up dn) nc 7 (m_in 6 0 ol) []).1) fi2 se2 x y fd) := hD
  refine wn_if_ne (a := m_lf ((m_ab (m_H fp fq fr up dn) nc 7 (m_in 6 0 ol) []).1) nc 0 0) (tgt := 15) X.1.1 X.1.2.1 d_LoopRankerModel_proven_8 (by decide) (by omega) (fun h8 => ?_) (fun h8 => ?_)
  · refine lv_iconst (v := (0 : Int32)) X.1.1 X.1.2.1 d_LoopRankerModel_proven_15 (by decide) ?_
    exact hret 16 H locs ls _ _ hP hD hS d_LoopRankerModel_proven_16 (Or.inl rfl) (by first | (simp only [if_neg h8]; done) | simp [h8]) (⟨_, _, _, _, _, rfl, hL2⟩)
  · refine lv_iconst (v := (1 : Int32)) X.1.1 X.1.2.1 d_LoopRankerModel_proven_11 (by decide) ?_
    refine lv_goto (tgt := 16) X.1.1 X.1.2.1 d_LoopRankerModel_proven_12 (by decide) ?_
    exact hret 16 H locs ls _ _ hP hD hS d_LoopRankerModel_proven_16 (Or.inr rfl) (by first | (simp only [if_pos h8]; done) | simp [h8]) (⟨_, _, _, _, _, rfl, hL2⟩)
set_option maxHeartbeats 4000000 in
set_option maxRecDepth 100000 in
theorem c_LoopRankerModel_levelOf_bad (h m1 p1 q1 r1 w1 o1 f1 s1 : Nat) (nc : Nat) (my fp fq fr up : Nat → Int32) (sm : Int32) (top bot : Int64) (lv : Nat) (ol fi se : Nat → Int32) (x y : Int64) (fd : Int32) (t : Int32) (dn : Nat → Nat) (hmy : ∀ t, t < nc → my t = nI (dn t) ∧ dn t ≤ 4) (hc : nc ≤ 6) (hbad : m_th nc t = 0) : wk_ki l y_LoopRankerModel_levelOf (Cond.code y_LoopRankerModel_levelOf b_LoopRankerModel_levelOf 2 (some .int) :: BW) rm_LoopRankerModel_levelOf D cls (kT cI cJ cS) nz [.ref h, .int t] (mW cI h m1 p1 q1 r1 w1 o1 f1 s1 nc my fp fq fr up sm top bot lv ol fi se x y fd) (fun wz => ∃ fi2 se2 sm2 t2 b2, wz = mW cI h m1 p1 q1 r1 w1 o1 f1 s1 nc my fp fq fr up sm2 t2 b2 ((m_ab (m_H fp fq fr up dn) nc 7 (m_in 6 0 ol) []).2.length) ((m_ab (m_H fp fq fr up dn) nc 7 (m_in 6 0 ol) []).1) fi2 se2 x y fd ∧ m_has_L (m_ab (m_H fp fq fr up dn) nc 7 (m_in 6 0 ol) []).2 fi2 se2) (-1) := by
  refine ws_i (plainFor_of_name (by decide)) (Nat.le_of_ble_eq_true rfl) ?_
  intro p e s m below meth c A ls Q X hret hl hP hD hS
  obtain ⟨H, hH⟩ : ∃ H, H = s.heap := ⟨_, rfl⟩
  obtain ⟨locs, hlo⟩ : ∃ locs : List Loc, locs = [] := ⟨_, rfl⟩
  have hP : va_P D cls (mW cI h m1 p1 q1 r1 w1 o1 f1 s1 nc my fp fq fr up sm top bot lv ol fi se x y fd) H := by rw [hH]; exact hP
  have hS : va_S A s.heap H locs := by rw [hH, hlo]; exact hS
  suffices hgo : W p l e rm_LoopRankerModel_levelOf s m ([.ref h, .int t] : List Value).toArray below meth c H locs 0 0 Q (F0 m 0 ls ([])) by rw [hH, hlo] at hgo; exact hgo
  clear hH hlo
  have hl : lv_has ls 2 [(0, .ref h), (1, .int t)] := hl
  refine lv_aload_n X.1.1 X.1.2.1 d_LoopRankerModel_levelOf_0 rfl (lv_at hl 0 rfl) ?_
  refine wc_Vv [] 4 0 X nz_nest (c_LoopRankerModel_prove h m1 p1 q1 r1 w1 o1 f1 s1 nc my fp fq fr up sm top bot lv ol fi se x y fd dn hmy hc) (cw_LoopRankerModel_116 X.1.2.2.2.2 X.2.2.1 (by decide)) ([]) ([]) (rfl) hP hD hS rfl rfl rfl rfl hl.1 (Nat.le_of_ble_eq_true rfl) (by decide) d_LoopRankerModel_levelOf_1 (fun H locs wn hwn hP hD hS => ?_)
  obtain ⟨fi2, se2, sm2, t2, b2, rfl, hL2⟩ := hwn
  have hP : va_P D cls (mW cI h m1 p1 q1 r1 w1 o1 f1 s1 nc my fp fq fr up sm2 t2 b2 ((m_ab (m_H fp fq fr up dn) nc 7 (m_in 6 0 ol) []).2.length) ((m_ab (m_H fp fq fr up dn) nc 7 (m_in 6 0 ol) []).1) fi2 se2 x y fd) H := hP
  have hD : va_D A (mW cI h m1 p1 q1 r1 w1 o1 f1 s1 nc my fp fq fr up sm2 t2 b2 ((m_ab (m_H fp fq fr up dn) nc 7 (m_in 6 0 ol) []).2.length) ((m_ab (m_H fp fq fr up dn) nc 7 (m_in 6 0 ol) []).1) fi2 se2 x y fd) := hD
  refine lv_aload_n X.1.1 X.1.2.1 d_LoopRankerModel_levelOf_4 rfl (lv_at hl 0 rfl) ?_
  refine lv_iload_n X.1.1 X.1.2.1 d_LoopRankerModel_levelOf_5 rfl (lv_at hl 1 rfl) ?_
  refine wc_Vi [.int t] 4 0 X nz_nest (c_LoopRankerModel_there h m1 p1 q1 r1 w1 o1 f1 s1 nc my fp fq fr up sm2 t2 b2 ((m_ab (m_H fp fq fr up dn) nc 7 (m_in 6 0 ol) []).2.length) ((m_ab (m_H fp fq fr up dn) nc 7 (m_in 6 0 ol) []).1) fi2 se2 x y fd t ) (cw_LoopRankerModel_38 X.1.2.2.2.2 X.2.2.1 (by decide)) ([]) ([]) (rfl) hP hD hS rfl rfl rfl rfl hl.1 (Nat.le_of_ble_eq_true rfl) (by decide) d_LoopRankerModel_levelOf_6 (fun H locs wn hwn hP hD hS => ?_)
  subst hwn
  have hP : va_P D cls (mW cI h m1 p1 q1 r1 w1 o1 f1 s1 nc my fp fq fr up sm2 t2 b2 ((m_ab (m_H fp fq fr up dn) nc 7 (m_in 6 0 ol) []).2.length) ((m_ab (m_H fp fq fr up dn) nc 7 (m_in 6 0 ol) []).1) fi2 se2 x y fd) H := hP
  have hD : va_D A (mW cI h m1 p1 q1 r1 w1 o1 f1 s1 nc my fp fq fr up sm2 t2 b2 ((m_ab (m_H fp fq fr up dn) nc 7 (m_in 6 0 ol) []).2.length) ((m_ab (m_H fp fq fr up dn) nc 7 (m_in 6 0 ol) []).1) fi2 se2 x y fd) := hD
  refine wi0_eq (tgt := 21) X.1.1 X.1.2.1 d_LoopRankerModel_levelOf_9 (by decide) (fun h9 => ?_) (fun h9 => absurd hbad h9)
  refine lv_iconst (v := (-1 : Int32)) X.1.1 X.1.2.1 d_LoopRankerModel_levelOf_21 (by decide) ?_
  exact hret 22 H locs ls _ _ hP hD hS d_LoopRankerModel_levelOf_22 (rfl) (⟨_, _, _, _, _, rfl, hL2⟩)
set_option maxHeartbeats 4000000 in
set_option maxRecDepth 100000 in
theorem c_LoopRankerModel_levelOf (h m1 p1 q1 r1 w1 o1 f1 s1 : Nat) (nc : Nat) (my fp fq fr up : Nat → Int32) (sm : Int32) (top bot : Int64) (lv : Nat) (ol fi se : Nat → Int32) (x y : Int64) (fd : Int32) (t : Nat) (dn : Nat → Nat) (hmy : ∀ t, t < nc → my t = nI (dn t) ∧ dn t ≤ 4) (hc : nc ≤ 6) (htn : t < nc) : wk_ki l y_LoopRankerModel_levelOf (Cond.code y_LoopRankerModel_levelOf b_LoopRankerModel_levelOf 2 (some .int) :: BW) rm_LoopRankerModel_levelOf D cls (kT cI cJ cS) nz [.ref h, .int (nI t)] (mW cI h m1 p1 q1 r1 w1 o1 f1 s1 nc my fp fq fr up sm top bot lv ol fi se x y fd) (fun wz => ∃ fi2 se2 sm2 t2 b2, wz = mW cI h m1 p1 q1 r1 w1 o1 f1 s1 nc my fp fq fr up sm2 t2 b2 ((m_ab (m_H fp fq fr up dn) nc 7 (m_in 6 0 ol) []).2.length) ((m_ab (m_H fp fq fr up dn) nc 7 (m_in 6 0 ol) []).1) fi2 se2 x y fd ∧ m_has_L (m_ab (m_H fp fq fr up dn) nc 7 (m_in 6 0 ol) []).2 fi2 se2) ((m_ab (m_H fp fq fr up dn) nc 7 (m_in 6 0 ol) []).1 t) := by
  refine ws_i (plainFor_of_name (by decide)) (Nat.le_of_ble_eq_true rfl) ?_
  intro p e s m below meth c A ls Q X hret hl hP hD hS
  obtain ⟨H, hH⟩ : ∃ H, H = s.heap := ⟨_, rfl⟩
  obtain ⟨locs, hlo⟩ : ∃ locs : List Loc, locs = [] := ⟨_, rfl⟩
  have hP : va_P D cls (mW cI h m1 p1 q1 r1 w1 o1 f1 s1 nc my fp fq fr up sm top bot lv ol fi se x y fd) H := by rw [hH]; exact hP
  have hS : va_S A s.heap H locs := by rw [hH, hlo]; exact hS
  suffices hgo : W p l e rm_LoopRankerModel_levelOf s m ([.ref h, .int (nI t)] : List Value).toArray below meth c H locs 0 0 Q (F0 m 0 ls ([])) by rw [hH, hlo] at hgo; exact hgo
  clear hH hlo
  have hl : lv_has ls 2 [(0, .ref h), (1, .int (nI t))] := hl
  refine lv_aload_n X.1.1 X.1.2.1 d_LoopRankerModel_levelOf_0 rfl (lv_at hl 0 rfl) ?_
  refine wc_Vv [] 4 0 X nz_nest (c_LoopRankerModel_prove h m1 p1 q1 r1 w1 o1 f1 s1 nc my fp fq fr up sm top bot lv ol fi se x y fd dn hmy hc) (cw_LoopRankerModel_116 X.1.2.2.2.2 X.2.2.1 (by decide)) ([]) ([]) (rfl) hP hD hS rfl rfl rfl rfl hl.1 (Nat.le_of_ble_eq_true rfl) (by decide) d_LoopRankerModel_levelOf_1 (fun H locs wn hwn hP hD hS => ?_)
  obtain ⟨fi2, se2, sm2, t2, b2, rfl, hL2⟩ := hwn
  have hP : va_P D cls (mW cI h m1 p1 q1 r1 w1 o1 f1 s1 nc my fp fq fr up sm2 t2 b2 ((m_ab (m_H fp fq fr up dn) nc 7 (m_in 6 0 ol) []).2.length) ((m_ab (m_H fp fq fr up dn) nc 7 (m_in 6 0 ol) []).1) fi2 se2 x y fd) H := hP
  have hD : va_D A (mW cI h m1 p1 q1 r1 w1 o1 f1 s1 nc my fp fq fr up sm2 t2 b2 ((m_ab (m_H fp fq fr up dn) nc 7 (m_in 6 0 ol) []).2.length) ((m_ab (m_H fp fq fr up dn) nc 7 (m_in 6 0 ol) []).1) fi2 se2 x y fd) := hD
  refine lv_aload_n X.1.1 X.1.2.1 d_LoopRankerModel_levelOf_4 rfl (lv_at hl 0 rfl) ?_
  refine lv_iload_n X.1.1 X.1.2.1 d_LoopRankerModel_levelOf_5 rfl (lv_at hl 1 rfl) ?_
  refine wc_Vi [.int (nI t)] 4 0 X nz_nest (c_LoopRankerModel_there h m1 p1 q1 r1 w1 o1 f1 s1 nc my fp fq fr up sm2 t2 b2 ((m_ab (m_H fp fq fr up dn) nc 7 (m_in 6 0 ol) []).2.length) ((m_ab (m_H fp fq fr up dn) nc 7 (m_in 6 0 ol) []).1) fi2 se2 x y fd (nI t) ) (cw_LoopRankerModel_38 X.1.2.2.2.2 X.2.2.1 (by decide)) ([]) ([]) (rfl) hP hD hS rfl rfl rfl rfl hl.1 (Nat.le_of_ble_eq_true rfl) (by decide) d_LoopRankerModel_levelOf_6 (fun H locs wn hwn hP hD hS => ?_)
  subst hwn
  have hP : va_P D cls (mW cI h m1 p1 q1 r1 w1 o1 f1 s1 nc my fp fq fr up sm2 t2 b2 ((m_ab (m_H fp fq fr up dn) nc 7 (m_in 6 0 ol) []).2.length) ((m_ab (m_H fp fq fr up dn) nc 7 (m_in 6 0 ol) []).1) fi2 se2 x y fd) H := hP
  have hD : va_D A (mW cI h m1 p1 q1 r1 w1 o1 f1 s1 nc my fp fq fr up sm2 t2 b2 ((m_ab (m_H fp fq fr up dn) nc 7 (m_in 6 0 ol) []).2.length) ((m_ab (m_H fp fq fr up dn) nc 7 (m_in 6 0 ol) []).1) fi2 se2 x y fd) := hD
  refine wi0_eq (tgt := 21) X.1.1 X.1.2.1 d_LoopRankerModel_levelOf_9 (by decide) (fun h9 => absurd h9 (by rw [m_th_1 (by omega) (by omega)]; decide)) (fun h9 => ?_)
  refine lv_aload_n X.1.1 X.1.2.1 d_LoopRankerModel_levelOf_12 rfl (lv_at hl 0 rfl) ?_
  refine fg_LoopRankerModel_25 X hP 0 rfl rfl d_LoopRankerModel_levelOf_13 ?_
  refine lv_iload_n X.1.1 X.1.2.1 d_LoopRankerModel_levelOf_16 rfl (lv_at hl 1 rfl) ?_
  refine wa_ild X.1.1 X.1.2.1 X.2.1 hP 6 0 rfl rfl t rfl (by omega) (by decide) d_LoopRankerModel_levelOf_17 ?_
  refine lv_goto (tgt := 22) X.1.1 X.1.2.1 d_LoopRankerModel_levelOf_18 (by decide) ?_
  exact hret 22 H locs ls _ _ hP hD hS d_LoopRankerModel_levelOf_22 (rfl) (⟨_, _, _, _, _, rfl, hL2⟩)
set_option maxHeartbeats 4000000 in
set_option maxRecDepth 100000 in
theorem c_LoopRankerModel_coefficient_bad (h m1 p1 q1 r1 w1 o1 f1 s1 : Nat) (nc : Nat) (my fp fq fr up : Nat → Int32) (sm : Int32) (top bot : Int64) (lv : Nat) (ol fi se : Nat → Int32) (x y : Int64) (fd : Int32) (lev : Int32) (v : Int32) (dn : Nat → Nat) (hmy : ∀ t, t < nc → my t = nI (dn t) ∧ dn t ≤ 4) (hc : nc ≤ 6) (hbad : lev < 0 ∨ ¬ lev < nI (m_ab (m_H fp fq fr up dn) nc 7 (m_in 6 0 ol) []).2.length) : wk_ki l y_LoopRankerModel_coefficient (Cond.code y_LoopRankerModel_coefficient b_LoopRankerModel_coefficient 3 (some .int) :: BW) rm_LoopRankerModel_coefficient D cls (kT cI cJ cS) nz [.ref h, .int lev, .int v] (mW cI h m1 p1 q1 r1 w1 o1 f1 s1 nc my fp fq fr up sm top bot lv ol fi se x y fd) (fun wz => ∃ fi2 se2 sm2 t2 b2, wz = mW cI h m1 p1 q1 r1 w1 o1 f1 s1 nc my fp fq fr up sm2 t2 b2 ((m_ab (m_H fp fq fr up dn) nc 7 (m_in 6 0 ol) []).2.length) ((m_ab (m_H fp fq fr up dn) nc 7 (m_in 6 0 ol) []).1) fi2 se2 x y fd ∧ m_has_L (m_ab (m_H fp fq fr up dn) nc 7 (m_in 6 0 ol) []).2 fi2 se2) 0 := by
  refine ws_i (plainFor_of_name (by decide)) (Nat.le_of_ble_eq_true rfl) ?_
  intro p e s m below meth c A ls Q X hret hl hP hD hS
  obtain ⟨H, hH⟩ : ∃ H, H = s.heap := ⟨_, rfl⟩
  obtain ⟨locs, hlo⟩ : ∃ locs : List Loc, locs = [] := ⟨_, rfl⟩
  have hP : va_P D cls (mW cI h m1 p1 q1 r1 w1 o1 f1 s1 nc my fp fq fr up sm top bot lv ol fi se x y fd) H := by rw [hH]; exact hP
  have hS : va_S A s.heap H locs := by rw [hH, hlo]; exact hS
  suffices hgo : W p l e rm_LoopRankerModel_coefficient s m ([.ref h, .int lev, .int v] : List Value).toArray below meth c H locs 0 0 Q (F0 m 0 ls ([])) by rw [hH, hlo] at hgo; exact hgo
  clear hH hlo
  have hl : lv_has ls 3 [(0, .ref h), (1, .int lev), (2, .int v)] := hl
  refine lv_aload_n X.1.1 X.1.2.1 d_LoopRankerModel_coefficient_0 rfl (lv_at hl 0 rfl) ?_
  refine wc_Vv [] 4 0 X nz_nest (c_LoopRankerModel_prove h m1 p1 q1 r1 w1 o1 f1 s1 nc my fp fq fr up sm top bot lv ol fi se x y fd dn hmy hc) (cw_LoopRankerModel_116 X.1.2.2.2.2 X.2.2.1 (by decide)) ([]) ([]) (rfl) hP hD hS rfl rfl rfl rfl hl.1 (Nat.le_of_ble_eq_true rfl) (by decide) d_LoopRankerModel_coefficient_1 (fun H locs wn hwn hP hD hS => ?_)
  obtain ⟨fi2, se2, sm2, t2, b2, rfl, hL2⟩ := hwn
  have hP : va_P D cls (mW cI h m1 p1 q1 r1 w1 o1 f1 s1 nc my fp fq fr up sm2 t2 b2 ((m_ab (m_H fp fq fr up dn) nc 7 (m_in 6 0 ol) []).2.length) ((m_ab (m_H fp fq fr up dn) nc 7 (m_in 6 0 ol) []).1) fi2 se2 x y fd) H := hP
  have hD : va_D A (mW cI h m1 p1 q1 r1 w1 o1 f1 s1 nc my fp fq fr up sm2 t2 b2 ((m_ab (m_H fp fq fr up dn) nc 7 (m_in 6 0 ol) []).2.length) ((m_ab (m_H fp fq fr up dn) nc 7 (m_in 6 0 ol) []).1) fi2 se2 x y fd) := hD
  refine lv_iload_n X.1.1 X.1.2.1 d_LoopRankerModel_coefficient_4 rfl (lv_at hl 1 rfl) ?_
  refine wi0_lt (tgt := 16) X.1.1 X.1.2.1 d_LoopRankerModel_coefficient_5 (by decide) (fun h5 => ?_) (fun h5 => ?_)
  · refine lv_iconst (v := (0 : Int32)) X.1.1 X.1.2.1 d_LoopRankerModel_coefficient_16 (by decide) ?_
    exact hret 17 H locs ls _ _ hP hD hS d_LoopRankerModel_coefficient_17 (rfl) (⟨_, _, _, _, _, rfl, hL2⟩)
  · refine lv_iload_n X.1.1 X.1.2.1 d_LoopRankerModel_coefficient_8 rfl (lv_at hl 1 rfl) ?_
    refine lv_aload_n X.1.1 X.1.2.1 d_LoopRankerModel_coefficient_9 rfl (lv_at hl 0 rfl) ?_
    refine fg_LoopRankerModel_102 X hP 0 rfl rfl d_LoopRankerModel_coefficient_10 ?_
    refine wi_lt (tgt := 18) X.1.1 X.1.2.1 d_LoopRankerModel_coefficient_13 (by decide) (fun h13 => absurd (Or.rec (fun z => h5 z) (fun z => z h13) hbad) id) (fun h13 => ?_)
    refine lv_iconst (v := (0 : Int32)) X.1.1 X.1.2.1 d_LoopRankerModel_coefficient_16 (by decide) ?_
    exact hret 17 H locs ls _ _ hP hD hS d_LoopRankerModel_coefficient_17 (rfl) (⟨_, _, _, _, _, rfl, hL2⟩)
set_option maxHeartbeats 4000000 in
set_option maxRecDepth 100000 in
theorem c_LoopRankerModel_floor_bad (h m1 p1 q1 r1 w1 o1 f1 s1 : Nat) (nc : Nat) (my fp fq fr up : Nat → Int32) (sm : Int32) (top bot : Int64) (lv : Nat) (ol fi se : Nat → Int32) (x y : Int64) (fd : Int32) (lev : Int32) (dn : Nat → Nat) (hmy : ∀ t, t < nc → my t = nI (dn t) ∧ dn t ≤ 4) (hc : nc ≤ 6) (hbad : lev < 0 ∨ ¬ lev < nI (m_ab (m_H fp fq fr up dn) nc 7 (m_in 6 0 ol) []).2.length) : wk_kl l y_LoopRankerModel_floor (Cond.code y_LoopRankerModel_floor b_LoopRankerModel_floor 2 (some .long) :: BW) rm_LoopRankerModel_floor D cls (kT cI cJ cS) nz [.ref h, .int lev] (mW cI h m1 p1 q1 r1 w1 o1 f1 s1 nc my fp fq fr up sm top bot lv ol fi se x y fd) (fun wz => ∃ fi2 se2 sm2 t2 b2, wz = mW cI h m1 p1 q1 r1 w1 o1 f1 s1 nc my fp fq fr up sm2 t2 b2 ((m_ab (m_H fp fq fr up dn) nc 7 (m_in 6 0 ol) []).2.length) ((m_ab (m_H fp fq fr up dn) nc 7 (m_in 6 0 ol) []).1) fi2 se2 x y fd ∧ m_has_L (m_ab (m_H fp fq fr up dn) nc 7 (m_in 6 0 ol) []).2 fi2 se2) 4611686018427387904 := by
  refine ws_l (plainFor_of_name (by decide)) (Nat.le_of_ble_eq_true rfl) ?_
  intro p e s m below meth c A ls Q X hret hl hP hD hS
  obtain ⟨H, hH⟩ : ∃ H, H = s.heap := ⟨_, rfl⟩
  obtain ⟨locs, hlo⟩ : ∃ locs : List Loc, locs = [] := ⟨_, rfl⟩
  have hP : va_P D cls (mW cI h m1 p1 q1 r1 w1 o1 f1 s1 nc my fp fq fr up sm top bot lv ol fi se x y fd) H := by rw [hH]; exact hP
  have hS : va_S A s.heap H locs := by rw [hH, hlo]; exact hS
  suffices hgo : W p l e rm_LoopRankerModel_floor s m ([.ref h, .int lev] : List Value).toArray below meth c H locs 0 0 Q (F0 m 0 ls ([])) by rw [hH, hlo] at hgo; exact hgo
  clear hH hlo
  have hl : lv_has ls 2 [(0, .ref h), (1, .int lev)] := hl
  refine lv_aload_n X.1.1 X.1.2.1 d_LoopRankerModel_floor_0 rfl (lv_at hl 0 rfl) ?_
  refine wc_Vv [] 4 0 X nz_nest (c_LoopRankerModel_prove h m1 p1 q1 r1 w1 o1 f1 s1 nc my fp fq fr up sm top bot lv ol fi se x y fd dn hmy hc) (cw_LoopRankerModel_116 X.1.2.2.2.2 X.2.2.1 (by decide)) ([]) ([]) (rfl) hP hD hS rfl rfl rfl rfl hl.1 (Nat.le_of_ble_eq_true rfl) (by decide) d_LoopRankerModel_floor_1 (fun H locs wn hwn hP hD hS => ?_)
  obtain ⟨fi2, se2, sm2, t2, b2, rfl, hL2⟩ := hwn
  have hP : va_P D cls (mW cI h m1 p1 q1 r1 w1 o1 f1 s1 nc my fp fq fr up sm2 t2 b2 ((m_ab (m_H fp fq fr up dn) nc 7 (m_in 6 0 ol) []).2.length) ((m_ab (m_H fp fq fr up dn) nc 7 (m_in 6 0 ol) []).1) fi2 se2 x y fd) H := hP
  have hD : va_D A (mW cI h m1 p1 q1 r1 w1 o1 f1 s1 nc my fp fq fr up sm2 t2 b2 ((m_ab (m_H fp fq fr up dn) nc 7 (m_in 6 0 ol) []).2.length) ((m_ab (m_H fp fq fr up dn) nc 7 (m_in 6 0 ol) []).1) fi2 se2 x y fd) := hD
  refine lv_iload_n X.1.1 X.1.2.1 d_LoopRankerModel_floor_4 rfl (lv_at hl 1 rfl) ?_
  refine wi0_lt (tgt := 16) X.1.1 X.1.2.1 d_LoopRankerModel_floor_5 (by decide) (fun h5 => ?_) (fun h5 => ?_)
  · refine lv_ldc2 (v := 4611686018427387904) X.1.1 X.1.2.1 X.1.2.2.2.1 (X.1.2.2.2.2 _ kc_LoopRankerModel_73) d_LoopRankerModel_floor_16 ?_
    refine lv_goto (tgt := 27) X.1.1 X.1.2.1 d_LoopRankerModel_floor_19 (by decide) ?_
    exact hret 27 H locs ls _ _ hP hD hS d_LoopRankerModel_floor_27 (rfl) (⟨_, _, _, _, _, rfl, hL2⟩)
  · refine lv_iload_n X.1.1 X.1.2.1 d_LoopRankerModel_floor_8 rfl (lv_at hl 1 rfl) ?_
    refine lv_aload_n X.1.1 X.1.2.1 d_LoopRankerModel_floor_9 rfl (lv_at hl 0 rfl) ?_
    refine fg_LoopRankerModel_102 X hP 0 rfl rfl d_LoopRankerModel_floor_10 ?_
    refine wi_lt (tgt := 22) X.1.1 X.1.2.1 d_LoopRankerModel_floor_13 (by decide) (fun h13 => absurd (Or.rec (fun z => h5 z) (fun z => z h13) hbad) id) (fun h13 => ?_)
    refine lv_ldc2 (v := 4611686018427387904) X.1.1 X.1.2.1 X.1.2.2.2.1 (X.1.2.2.2.2 _ kc_LoopRankerModel_73) d_LoopRankerModel_floor_16 ?_
    refine lv_goto (tgt := 27) X.1.1 X.1.2.1 d_LoopRankerModel_floor_19 (by decide) ?_
    exact hret 27 H locs ls _ _ hP hD hS d_LoopRankerModel_floor_27 (rfl) (⟨_, _, _, _, _, rfl, hL2⟩)
set_option maxHeartbeats 4000000 in
set_option maxRecDepth 100000 in
theorem c_LoopRankerModel_rank_bad (h m1 p1 q1 r1 w1 o1 f1 s1 : Nat) (nc : Nat) (my fp fq fr up : Nat → Int32) (sm : Int32) (top bot : Int64) (lv : Nat) (ol fi se : Nat → Int32) (x y : Int64) (fd : Int32) (lev : Int32) (dn : Nat → Nat) (hmy : ∀ t, t < nc → my t = nI (dn t) ∧ dn t ≤ 4) (hc : nc ≤ 6) (hbad : lev < 0 ∨ ¬ lev < nI (m_ab (m_H fp fq fr up dn) nc 7 (m_in 6 0 ol) []).2.length) : wk_kl l y_LoopRankerModel_rank (Cond.code y_LoopRankerModel_rank b_LoopRankerModel_rank 2 (some .long) :: BW) rm_LoopRankerModel_rank D cls (kT cI cJ cS) nz [.ref h, .int lev] (mW cI h m1 p1 q1 r1 w1 o1 f1 s1 nc my fp fq fr up sm top bot lv ol fi se x y fd) (fun wz => ∃ fi2 se2 sm2 t2 b2, wz = mW cI h m1 p1 q1 r1 w1 o1 f1 s1 nc my fp fq fr up sm2 t2 b2 ((m_ab (m_H fp fq fr up dn) nc 7 (m_in 6 0 ol) []).2.length) ((m_ab (m_H fp fq fr up dn) nc 7 (m_in 6 0 ol) []).1) fi2 se2 x y fd ∧ m_has_L (m_ab (m_H fp fq fr up dn) nc 7 (m_in 6 0 ol) []).2 fi2 se2) 4611686018427387904 := by
  refine ws_l (plainFor_of_name (by decide)) (Nat.le_of_ble_eq_true rfl) ?_
  intro p e s m below meth c A ls Q X hret hl hP hD hS
  obtain ⟨H, hH⟩ : ∃ H, H = s.heap := ⟨_, rfl⟩
  obtain ⟨locs, hlo⟩ : ∃ locs : List Loc, locs = [] := ⟨_, rfl⟩
  have hP : va_P D cls (mW cI h m1 p1 q1 r1 w1 o1 f1 s1 nc my fp fq fr up sm top bot lv ol fi se x y fd) H := by rw [hH]; exact hP
  have hS : va_S A s.heap H locs := by rw [hH, hlo]; exact hS
  suffices hgo : W p l e rm_LoopRankerModel_rank s m ([.ref h, .int lev] : List Value).toArray below meth c H locs 0 0 Q (F0 m 0 ls ([])) by rw [hH, hlo] at hgo; exact hgo
  clear hH hlo
  have hl : lv_has ls 2 [(0, .ref h), (1, .int lev)] := hl
  refine lv_aload_n X.1.1 X.1.2.1 d_LoopRankerModel_rank_0 rfl (lv_at hl 0 rfl) ?_
  refine wc_Vv [] 4 0 X nz_nest (c_LoopRankerModel_prove h m1 p1 q1 r1 w1 o1 f1 s1 nc my fp fq fr up sm top bot lv ol fi se x y fd dn hmy hc) (cw_LoopRankerModel_116 X.1.2.2.2.2 X.2.2.1 (by decide)) ([]) ([]) (rfl) hP hD hS rfl rfl rfl rfl hl.1 (Nat.le_of_ble_eq_true rfl) (by decide) d_LoopRankerModel_rank_1 (fun H locs wn hwn hP hD hS => ?_)
  obtain ⟨fi2, se2, sm2, t2, b2, rfl, hL2⟩ := hwn
  have hP : va_P D cls (mW cI h m1 p1 q1 r1 w1 o1 f1 s1 nc my fp fq fr up sm2 t2 b2 ((m_ab (m_H fp fq fr up dn) nc 7 (m_in 6 0 ol) []).2.length) ((m_ab (m_H fp fq fr up dn) nc 7 (m_in 6 0 ol) []).1) fi2 se2 x y fd) H := hP
  have hD : va_D A (mW cI h m1 p1 q1 r1 w1 o1 f1 s1 nc my fp fq fr up sm2 t2 b2 ((m_ab (m_H fp fq fr up dn) nc 7 (m_in 6 0 ol) []).2.length) ((m_ab (m_H fp fq fr up dn) nc 7 (m_in 6 0 ol) []).1) fi2 se2 x y fd) := hD
  refine lv_iload_n X.1.1 X.1.2.1 d_LoopRankerModel_rank_4 rfl (lv_at hl 1 rfl) ?_
  refine wi0_lt (tgt := 16) X.1.1 X.1.2.1 d_LoopRankerModel_rank_5 (by decide) (fun h5 => ?_) (fun h5 => ?_)
  · refine lv_ldc2 (v := 4611686018427387904) X.1.1 X.1.2.1 X.1.2.2.2.1 (X.1.2.2.2.2 _ kc_LoopRankerModel_73) d_LoopRankerModel_rank_16 ?_
    refine lv_goto (tgt := 47) X.1.1 X.1.2.1 d_LoopRankerModel_rank_19 (by decide) ?_
    exact hret 47 H locs ls _ _ hP hD hS d_LoopRankerModel_rank_47 (rfl) (⟨_, _, _, _, _, rfl, hL2⟩)
  · refine lv_iload_n X.1.1 X.1.2.1 d_LoopRankerModel_rank_8 rfl (lv_at hl 1 rfl) ?_
    refine lv_aload_n X.1.1 X.1.2.1 d_LoopRankerModel_rank_9 rfl (lv_at hl 0 rfl) ?_
    refine fg_LoopRankerModel_102 X hP 0 rfl rfl d_LoopRankerModel_rank_10 ?_
    refine wi_lt (tgt := 22) X.1.1 X.1.2.1 d_LoopRankerModel_rank_13 (by decide) (fun h13 => absurd (Or.rec (fun z => h5 z) (fun z => z h13) hbad) id) (fun h13 => ?_)
    refine lv_ldc2 (v := 4611686018427387904) X.1.1 X.1.2.1 X.1.2.2.2.1 (X.1.2.2.2.2 _ kc_LoopRankerModel_73) d_LoopRankerModel_rank_16 ?_
    refine lv_goto (tgt := 47) X.1.1 X.1.2.1 d_LoopRankerModel_rank_19 (by decide) ?_
    exact hret 47 H locs ls _ _ hP hD hS d_LoopRankerModel_rank_47 (rfl) (⟨_, _, _, _, _, rfl, hL2⟩)
set_option maxHeartbeats 4000000 in
set_option maxRecDepth 100000 in
theorem c_LoopRankerModel_coefficient (h m1 p1 q1 r1 w1 o1 f1 s1 : Nat) (nc : Nat) (my fp fq fr up : Nat → Int32) (sm : Int32) (top bot : Int64) (lv : Nat) (ol fi se : Nat → Int32) (x y : Int64) (fd : Int32) (lev : Nat) (v : Int32) (dn : Nat → Nat) (hmy : ∀ t, t < nc → my t = nI (dn t) ∧ dn t ≤ 4) (hc : nc ≤ 6) (hlt : lev < (m_ab (m_H fp fq fr up dn) nc 7 (m_in 6 0 ol) []).2.length) : wk_ki l y_LoopRankerModel_coefficient (Cond.code y_LoopRankerModel_coefficient b_LoopRankerModel_coefficient 3 (some .int) :: BW) rm_LoopRankerModel_coefficient D cls (kT cI cJ cS) nz [.ref h, .int (nI lev), .int v] (mW cI h m1 p1 q1 r1 w1 o1 f1 s1 nc my fp fq fr up sm top bot lv ol fi se x y fd) (fun wz => ∃ fi2 se2 sm2 t2 b2, wz = mW cI h m1 p1 q1 r1 w1 o1 f1 s1 nc my fp fq fr up sm2 t2 b2 ((m_ab (m_H fp fq fr up dn) nc 7 (m_in 6 0 ol) []).2.length) ((m_ab (m_H fp fq fr up dn) nc 7 (m_in 6 0 ol) []).1) fi2 se2 x y fd ∧ m_has_L (m_ab (m_H fp fq fr up dn) nc 7 (m_in 6 0 ol) []).2 fi2 se2) (if v = 0 then ((m_ab (m_H fp fq fr up dn) nc 7 (m_in 6 0 ol) []).2.getD lev (0, 0)).1 else if v = 1 then ((m_ab (m_H fp fq fr up dn) nc 7 (m_in 6 0 ol) []).2.getD lev (0, 0)).2 else 0) := by
  refine ws_i (plainFor_of_name (by decide)) (Nat.le_of_ble_eq_true rfl) ?_
  intro p e s m below meth c A ls Q X hret hl hP hD hS
  obtain ⟨H, hH⟩ : ∃ H, H = s.heap := ⟨_, rfl⟩
  obtain ⟨locs, hlo⟩ : ∃ locs : List Loc, locs = [] := ⟨_, rfl⟩
  have hP : va_P D cls (mW cI h m1 p1 q1 r1 w1 o1 f1 s1 nc my fp fq fr up sm top bot lv ol fi se x y fd) H := by rw [hH]; exact hP
  have hS : va_S A s.heap H locs := by rw [hH, hlo]; exact hS
  suffices hgo : W p l e rm_LoopRankerModel_coefficient s m ([.ref h, .int (nI lev), .int v] : List Value).toArray below meth c H locs 0 0 Q (F0 m 0 ls ([])) by rw [hH, hlo] at hgo; exact hgo
  clear hH hlo
  have hl : lv_has ls 3 [(0, .ref h), (1, .int (nI lev)), (2, .int v)] := hl
  refine lv_aload_n X.1.1 X.1.2.1 d_LoopRankerModel_coefficient_0 rfl (lv_at hl 0 rfl) ?_
  refine wc_Vv [] 4 0 X nz_nest (c_LoopRankerModel_prove h m1 p1 q1 r1 w1 o1 f1 s1 nc my fp fq fr up sm top bot lv ol fi se x y fd dn hmy hc) (cw_LoopRankerModel_116 X.1.2.2.2.2 X.2.2.1 (by decide)) ([]) ([]) (rfl) hP hD hS rfl rfl rfl rfl hl.1 (Nat.le_of_ble_eq_true rfl) (by decide) d_LoopRankerModel_coefficient_1 (fun H locs wn hwn hP hD hS => ?_)
  obtain ⟨fi2, se2, sm2, t2, b2, rfl, hL2⟩ := hwn
  have hP : va_P D cls (mW cI h m1 p1 q1 r1 w1 o1 f1 s1 nc my fp fq fr up sm2 t2 b2 ((m_ab (m_H fp fq fr up dn) nc 7 (m_in 6 0 ol) []).2.length) ((m_ab (m_H fp fq fr up dn) nc 7 (m_in 6 0 ol) []).1) fi2 se2 x y fd) H := hP
  have hD : va_D A (mW cI h m1 p1 q1 r1 w1 o1 f1 s1 nc my fp fq fr up sm2 t2 b2 ((m_ab (m_H fp fq fr up dn) nc 7 (m_in 6 0 ol) []).2.length) ((m_ab (m_H fp fq fr up dn) nc 7 (m_in 6 0 ol) []).1) fi2 se2 x y fd) := hD
  have hlen := m_fin_len (m_H fp fq fr up dn) nc 7 (m_in 6 0 ol) hc
  have hlf := m_lf_le (m_ab (m_H fp fq fr up dn) nc 7 (m_in 6 0 ol) []).1 nc 0 0
  refine lv_iload_n X.1.1 X.1.2.1 d_LoopRankerModel_coefficient_4 rfl (lv_at hl 1 rfl) ?_
  refine wn_if_lt (a := lev) (tgt := 16) X.1.1 X.1.2.1 d_LoopRankerModel_coefficient_5 (by decide) (by omega) (fun h5 => False.elim h5) (fun h5 => ?_)
  refine lv_iload_n X.1.1 X.1.2.1 d_LoopRankerModel_coefficient_8 rfl (lv_at hl 1 rfl) ?_
  refine lv_aload_n X.1.1 X.1.2.1 d_LoopRankerModel_coefficient_9 rfl (lv_at hl 0 rfl) ?_
  refine fg_LoopRankerModel_102 X hP 0 rfl rfl d_LoopRankerModel_coefficient_10 ?_
  refine wn_lt (a := lev) (b := (m_ab (m_H fp fq fr up dn) nc 7 (m_in 6 0 ol) []).2.length) (tgt := 18) X.1.1 X.1.2.1 d_LoopRankerModel_coefficient_13 (by decide) (by omega) (by omega) (fun h13 => ?_) (fun h13 => by exfalso; omega)
  refine lv_iload_n X.1.1 X.1.2.1 d_LoopRankerModel_coefficient_18 rfl (lv_at hl 2 rfl) ?_
  refine wi0_ne (tgt := 31) X.1.1 X.1.2.1 d_LoopRankerModel_coefficient_19 (by decide) (fun h19 => ?_) (fun h19 => ?_)
  · refine lv_iload_n X.1.1 X.1.2.1 d_LoopRankerModel_coefficient_31 rfl (lv_at hl 2 rfl) ?_
    refine lv_iconst (v := (1 : Int32)) X.1.1 X.1.2.1 d_LoopRankerModel_coefficient_32 (by decide) ?_
    refine wi_ne (tgt := 45) X.1.1 X.1.2.1 d_LoopRankerModel_coefficient_33 (by decide) (fun h33 => ?_) (fun h33 => ?_)
    · refine lv_iconst (v := (0 : Int32)) X.1.1 X.1.2.1 d_LoopRankerModel_coefficient_45 (by decide) ?_
      exact hret 46 H locs ls _ _ hP hD hS d_LoopRankerModel_coefficient_46 (by simp only [if_neg h19, if_neg h33]) (⟨_, _, _, _, _, rfl, hL2⟩)
    · refine lv_aload_n X.1.1 X.1.2.1 d_LoopRankerModel_coefficient_36 rfl (lv_at hl 0 rfl) ?_
      refine fg_LoopRankerModel_31 X hP 0 rfl rfl d_LoopRankerModel_coefficient_37 ?_
      refine lv_iload_n X.1.1 X.1.2.1 d_LoopRankerModel_coefficient_40 rfl (lv_at hl 1 rfl) ?_
      refine wa_ild X.1.1 X.1.2.1 X.2.1 hP 8 0 rfl rfl lev rfl (by omega) (by decide) d_LoopRankerModel_coefficient_41 ?_
      refine lv_goto (tgt := 46) X.1.1 X.1.2.1 d_LoopRankerModel_coefficient_42 (by decide) ?_
      exact hret 46 H locs ls _ _ hP hD hS d_LoopRankerModel_coefficient_46 (by rw [(hL2 lev hlt).2]; simp only [if_neg h19, if_pos h33]) (⟨_, _, _, _, _, rfl, hL2⟩)
  · refine lv_aload_n X.1.1 X.1.2.1 d_LoopRankerModel_coefficient_22 rfl (lv_at hl 0 rfl) ?_
    refine fg_LoopRankerModel_28 X hP 0 rfl rfl d_LoopRankerModel_coefficient_23 ?_
    refine lv_iload_n X.1.1 X.1.2.1 d_LoopRankerModel_coefficient_26 rfl (lv_at hl 1 rfl) ?_
    refine wa_ild X.1.1 X.1.2.1 X.2.1 hP 7 0 rfl rfl lev rfl (by omega) (by decide) d_LoopRankerModel_coefficient_27 ?_
    refine lv_goto (tgt := 46) X.1.1 X.1.2.1 d_LoopRankerModel_coefficient_28 (by decide) ?_
    exact hret 46 H locs ls _ _ hP hD hS d_LoopRankerModel_coefficient_46 (by rw [(hL2 lev hlt).1]; simp only [if_pos h19]) (⟨_, _, _, _, _, rfl, hL2⟩)
set_option maxHeartbeats 4000000 in
set_option maxRecDepth 100000 in
theorem c_LoopRankerModel_floor (h m1 p1 q1 r1 w1 o1 f1 s1 : Nat) (nc : Nat) (my fp fq fr up : Nat → Int32) (sm : Int32) (top bot : Int64) (lv : Nat) (ol fi se : Nat → Int32) (x y : Int64) (fd : Int32) (lev : Nat) (dn : Nat → Nat) (hmy : ∀ t, t < nc → my t = nI (dn t) ∧ dn t ≤ 4) (hc : nc ≤ 6) (hlt : lev < (m_ab (m_H fp fq fr up dn) nc 7 (m_in 6 0 ol) []).2.length) : wk_kl l y_LoopRankerModel_floor (Cond.code y_LoopRankerModel_floor b_LoopRankerModel_floor 2 (some .long) :: BW) rm_LoopRankerModel_floor D cls (kT cI cJ cS) nz [.ref h, .int (nI lev)] (mW cI h m1 p1 q1 r1 w1 o1 f1 s1 nc my fp fq fr up sm top bot lv ol fi se x y fd) (fun wz => ∃ fi2 se2 sm2 t2 b2, wz = mW cI h m1 p1 q1 r1 w1 o1 f1 s1 nc my fp fq fr up sm2 t2 b2 ((m_ab (m_H fp fq fr up dn) nc 7 (m_in 6 0 ol) []).2.length) ((m_ab (m_H fp fq fr up dn) nc 7 (m_in 6 0 ol) []).1) fi2 se2 x y fd ∧ m_has_L (m_ab (m_H fp fq fr up dn) nc 7 (m_in 6 0 ol) []).2 fi2 se2) (m_flo fp fq fr dn (m_ab (m_H fp fq fr up dn) nc 7 (m_in 6 0 ol) []).1 nc lev ((m_ab (m_H fp fq fr up dn) nc 7 (m_in 6 0 ol) []).2.getD lev (0, 0)).1 ((m_ab (m_H fp fq fr up dn) nc 7 (m_in 6 0 ol) []).2.getD lev (0, 0)).2) := by
  refine ws_l (plainFor_of_name (by decide)) (Nat.le_of_ble_eq_true rfl) ?_
  intro p e s m below meth c A ls Q X hret hl hP hD hS
  obtain ⟨H, hH⟩ : ∃ H, H = s.heap := ⟨_, rfl⟩
  obtain ⟨locs, hlo⟩ : ∃ locs : List Loc, locs = [] := ⟨_, rfl⟩
  have hP : va_P D cls (mW cI h m1 p1 q1 r1 w1 o1 f1 s1 nc my fp fq fr up sm top bot lv ol fi se x y fd) H := by rw [hH]; exact hP
  have hS : va_S A s.heap H locs := by rw [hH, hlo]; exact hS
  suffices hgo : W p l e rm_LoopRankerModel_floor s m ([.ref h, .int (nI lev)] : List Value).toArray below meth c H locs 0 0 Q (F0 m 0 ls ([])) by rw [hH, hlo] at hgo; exact hgo
  clear hH hlo
  have hl : lv_has ls 2 [(0, .ref h), (1, .int (nI lev))] := hl
  refine lv_aload_n X.1.1 X.1.2.1 d_LoopRankerModel_floor_0 rfl (lv_at hl 0 rfl) ?_
  refine wc_Vv [] 4 0 X nz_nest (c_LoopRankerModel_prove h m1 p1 q1 r1 w1 o1 f1 s1 nc my fp fq fr up sm top bot lv ol fi se x y fd dn hmy hc) (cw_LoopRankerModel_116 X.1.2.2.2.2 X.2.2.1 (by decide)) ([]) ([]) (rfl) hP hD hS rfl rfl rfl rfl hl.1 (Nat.le_of_ble_eq_true rfl) (by decide) d_LoopRankerModel_floor_1 (fun H locs wn hwn hP hD hS => ?_)
  obtain ⟨fi2, se2, sm2, t2, b2, rfl, hL2⟩ := hwn
  have hP : va_P D cls (mW cI h m1 p1 q1 r1 w1 o1 f1 s1 nc my fp fq fr up sm2 t2 b2 ((m_ab (m_H fp fq fr up dn) nc 7 (m_in 6 0 ol) []).2.length) ((m_ab (m_H fp fq fr up dn) nc 7 (m_in 6 0 ol) []).1) fi2 se2 x y fd) H := hP
  have hD : va_D A (mW cI h m1 p1 q1 r1 w1 o1 f1 s1 nc my fp fq fr up sm2 t2 b2 ((m_ab (m_H fp fq fr up dn) nc 7 (m_in 6 0 ol) []).2.length) ((m_ab (m_H fp fq fr up dn) nc 7 (m_in 6 0 ol) []).1) fi2 se2 x y fd) := hD
  have hlen := m_fin_len (m_H fp fq fr up dn) nc 7 (m_in 6 0 ol) hc
  have hlf := m_lf_le (m_ab (m_H fp fq fr up dn) nc 7 (m_in 6 0 ol) []).1 nc 0 0
  refine lv_iload_n X.1.1 X.1.2.1 d_LoopRankerModel_floor_4 rfl (lv_at hl 1 rfl) ?_
  refine wn_if_lt (a := lev) (tgt := 16) X.1.1 X.1.2.1 d_LoopRankerModel_floor_5 (by decide) (by omega) (fun h5 => False.elim h5) (fun h5 => ?_)
  refine lv_iload_n X.1.1 X.1.2.1 d_LoopRankerModel_floor_8 rfl (lv_at hl 1 rfl) ?_
  refine lv_aload_n X.1.1 X.1.2.1 d_LoopRankerModel_floor_9 rfl (lv_at hl 0 rfl) ?_
  refine fg_LoopRankerModel_102 X hP 0 rfl rfl d_LoopRankerModel_floor_10 ?_
  refine wn_lt (a := lev) (b := (m_ab (m_H fp fq fr up dn) nc 7 (m_in 6 0 ol) []).2.length) (tgt := 22) X.1.1 X.1.2.1 d_LoopRankerModel_floor_13 (by decide) (by omega) (by omega) (fun h13 => ?_) (fun h13 => by exfalso; omega)
  refine lv_aload_n X.1.1 X.1.2.1 d_LoopRankerModel_floor_22 rfl (lv_at hl 0 rfl) ?_
  refine lv_iload_n X.1.1 X.1.2.1 d_LoopRankerModel_floor_23 rfl (lv_at hl 1 rfl) ?_
  refine wc_Vl [.int (nI lev)] 4 0 X nz_nest (c_LoopRankerModel_floorOf h m1 p1 q1 r1 w1 o1 f1 s1 nc my fp fq fr up sm2 t2 b2 ((m_ab (m_H fp fq fr up dn) nc 7 (m_in 6 0 ol) []).2.length) ((m_ab (m_H fp fq fr up dn) nc 7 (m_in 6 0 ol) []).1) fi2 se2 x y fd lev dn hmy hc (by omega)) (cw_LoopRankerModel_119 X.1.2.2.2.2 X.2.2.1 (by decide)) ([]) ([]) (rfl) hP hD hS rfl rfl rfl rfl hl.1 (Nat.le_of_ble_eq_true rfl) (by decide) d_LoopRankerModel_floor_24 (fun H locs wn hwn hP hD hS => ?_)
  obtain ⟨sm1, top1, bot1, rfl⟩ := hwn
  have hP : va_P D cls (mW cI h m1 p1 q1 r1 w1 o1 f1 s1 nc my fp fq fr up sm1 top1 bot1 ((m_ab (m_H fp fq fr up dn) nc 7 (m_in 6 0 ol) []).2.length) ((m_ab (m_H fp fq fr up dn) nc 7 (m_in 6 0 ol) []).1) fi2 se2 x y fd) H := hP
  have hD : va_D A (mW cI h m1 p1 q1 r1 w1 o1 f1 s1 nc my fp fq fr up sm1 top1 bot1 ((m_ab (m_H fp fq fr up dn) nc 7 (m_in 6 0 ol) []).2.length) ((m_ab (m_H fp fq fr up dn) nc 7 (m_in 6 0 ol) []).1) fi2 se2 x y fd) := hD
  exact hret 27 H locs ls _ _ hP hD hS d_LoopRankerModel_floor_27 (by rw [(hL2 lev hlt).1, (hL2 lev hlt).2]) (⟨_, _, _, _, _, rfl, hL2⟩)
set_option maxHeartbeats 4000000 in
set_option maxRecDepth 100000 in
theorem c_LoopRankerModel_rank (h m1 p1 q1 r1 w1 o1 f1 s1 : Nat) (nc : Nat) (my fp fq fr up : Nat → Int32) (sm : Int32) (top bot : Int64) (lv : Nat) (ol fi se : Nat → Int32) (x y : Int64) (fd : Int32) (lev : Nat) (dn : Nat → Nat) (hmy : ∀ t, t < nc → my t = nI (dn t) ∧ dn t ≤ 4) (hc : nc ≤ 6) (hlt : lev < (m_ab (m_H fp fq fr up dn) nc 7 (m_in 6 0 ol) []).2.length) : wk_kl l y_LoopRankerModel_rank (Cond.code y_LoopRankerModel_rank b_LoopRankerModel_rank 2 (some .long) :: BW) rm_LoopRankerModel_rank D cls (kT cI cJ cS) nz [.ref h, .int (nI lev)] (mW cI h m1 p1 q1 r1 w1 o1 f1 s1 nc my fp fq fr up sm top bot lv ol fi se x y fd) (fun wz => ∃ fi2 se2 sm2 t2 b2, wz = mW cI h m1 p1 q1 r1 w1 o1 f1 s1 nc my fp fq fr up sm2 t2 b2 ((m_ab (m_H fp fq fr up dn) nc 7 (m_in 6 0 ol) []).2.length) ((m_ab (m_H fp fq fr up dn) nc 7 (m_in 6 0 ol) []).1) fi2 se2 x y fd ∧ m_has_L (m_ab (m_H fp fq fr up dn) nc 7 (m_in 6 0 ol) []).2 fi2 se2) (((m_ab (m_H fp fq fr up dn) nc 7 (m_in 6 0 ol) []).2.getD lev (0, 0)).1.toInt64 * x + ((m_ab (m_H fp fq fr up dn) nc 7 (m_in 6 0 ol) []).2.getD lev (0, 0)).2.toInt64 * y) := by
  refine ws_l (plainFor_of_name (by decide)) (Nat.le_of_ble_eq_true rfl) ?_
  intro p e s m below meth c A ls Q X hret hl hP hD hS
  obtain ⟨H, hH⟩ : ∃ H, H = s.heap := ⟨_, rfl⟩
  obtain ⟨locs, hlo⟩ : ∃ locs : List Loc, locs = [] := ⟨_, rfl⟩
  have hP : va_P D cls (mW cI h m1 p1 q1 r1 w1 o1 f1 s1 nc my fp fq fr up sm top bot lv ol fi se x y fd) H := by rw [hH]; exact hP
  have hS : va_S A s.heap H locs := by rw [hH, hlo]; exact hS
  suffices hgo : W p l e rm_LoopRankerModel_rank s m ([.ref h, .int (nI lev)] : List Value).toArray below meth c H locs 0 0 Q (F0 m 0 ls ([])) by rw [hH, hlo] at hgo; exact hgo
  clear hH hlo
  have hl : lv_has ls 2 [(0, .ref h), (1, .int (nI lev))] := hl
  refine lv_aload_n X.1.1 X.1.2.1 d_LoopRankerModel_rank_0 rfl (lv_at hl 0 rfl) ?_
  refine wc_Vv [] 4 0 X nz_nest (c_LoopRankerModel_prove h m1 p1 q1 r1 w1 o1 f1 s1 nc my fp fq fr up sm top bot lv ol fi se x y fd dn hmy hc) (cw_LoopRankerModel_116 X.1.2.2.2.2 X.2.2.1 (by decide)) ([]) ([]) (rfl) hP hD hS rfl rfl rfl rfl hl.1 (Nat.le_of_ble_eq_true rfl) (by decide) d_LoopRankerModel_rank_1 (fun H locs wn hwn hP hD hS => ?_)
  obtain ⟨fi2, se2, sm2, t2, b2, rfl, hL2⟩ := hwn
  have hP : va_P D cls (mW cI h m1 p1 q1 r1 w1 o1 f1 s1 nc my fp fq fr up sm2 t2 b2 ((m_ab (m_H fp fq fr up dn) nc 7 (m_in 6 0 ol) []).2.length) ((m_ab (m_H fp fq fr up dn) nc 7 (m_in 6 0 ol) []).1) fi2 se2 x y fd) H := hP
  have hD : va_D A (mW cI h m1 p1 q1 r1 w1 o1 f1 s1 nc my fp fq fr up sm2 t2 b2 ((m_ab (m_H fp fq fr up dn) nc 7 (m_in 6 0 ol) []).2.length) ((m_ab (m_H fp fq fr up dn) nc 7 (m_in 6 0 ol) []).1) fi2 se2 x y fd) := hD
  have hlen := m_fin_len (m_H fp fq fr up dn) nc 7 (m_in 6 0 ol) hc
  have hlf := m_lf_le (m_ab (m_H fp fq fr up dn) nc 7 (m_in 6 0 ol) []).1 nc 0 0
  refine lv_iload_n X.1.1 X.1.2.1 d_LoopRankerModel_rank_4 rfl (lv_at hl 1 rfl) ?_
  refine wn_if_lt (a := lev) (tgt := 16) X.1.1 X.1.2.1 d_LoopRankerModel_rank_5 (by decide) (by omega) (fun h5 => False.elim h5) (fun h5 => ?_)
  refine lv_iload_n X.1.1 X.1.2.1 d_LoopRankerModel_rank_8 rfl (lv_at hl 1 rfl) ?_
  refine lv_aload_n X.1.1 X.1.2.1 d_LoopRankerModel_rank_9 rfl (lv_at hl 0 rfl) ?_
  refine fg_LoopRankerModel_102 X hP 0 rfl rfl d_LoopRankerModel_rank_10 ?_
  refine wn_lt (a := lev) (b := (m_ab (m_H fp fq fr up dn) nc 7 (m_in 6 0 ol) []).2.length) (tgt := 22) X.1.1 X.1.2.1 d_LoopRankerModel_rank_13 (by decide) (by omega) (by omega) (fun h13 => ?_) (fun h13 => by exfalso; omega)
  refine lv_aload_n X.1.1 X.1.2.1 d_LoopRankerModel_rank_22 rfl (lv_at hl 0 rfl) ?_
  refine fg_LoopRankerModel_28 X hP 0 rfl rfl d_LoopRankerModel_rank_23 ?_
  refine lv_iload_n X.1.1 X.1.2.1 d_LoopRankerModel_rank_26 rfl (lv_at hl 1 rfl) ?_
  refine wa_ild X.1.1 X.1.2.1 X.2.1 hP 7 0 rfl rfl lev rfl (by omega) (by decide) d_LoopRankerModel_rank_27 ?_
  refine lv_i2l X.1.1 X.1.2.1 d_LoopRankerModel_rank_28 rfl ?_
  refine lv_aload_n X.1.1 X.1.2.1 d_LoopRankerModel_rank_29 rfl (lv_at hl 0 rfl) ?_
  refine fg_LoopRankerModel_124 X hP 0 rfl rfl d_LoopRankerModel_rank_30 ?_
  refine lv_lmul X.1.1 X.1.2.1 d_LoopRankerModel_rank_33 ?_
  refine lv_aload_n X.1.1 X.1.2.1 d_LoopRankerModel_rank_34 rfl (lv_at hl 0 rfl) ?_
  refine fg_LoopRankerModel_31 X hP 0 rfl rfl d_LoopRankerModel_rank_35 ?_
  refine lv_iload_n X.1.1 X.1.2.1 d_LoopRankerModel_rank_38 rfl (lv_at hl 1 rfl) ?_
  refine wa_ild X.1.1 X.1.2.1 X.2.1 hP 8 0 rfl rfl lev rfl (by omega) (by decide) d_LoopRankerModel_rank_39 ?_
  refine lv_i2l X.1.1 X.1.2.1 d_LoopRankerModel_rank_40 rfl ?_
  refine lv_aload_n X.1.1 X.1.2.1 d_LoopRankerModel_rank_41 rfl (lv_at hl 0 rfl) ?_
  refine fg_LoopRankerModel_127 X hP 0 rfl rfl d_LoopRankerModel_rank_42 ?_
  refine lv_lmul X.1.1 X.1.2.1 d_LoopRankerModel_rank_45 ?_
  refine lv_ladd X.1.1 X.1.2.1 d_LoopRankerModel_rank_46 ?_
  exact hret 47 H locs ls _ _ hP hD hS d_LoopRankerModel_rank_47 (by rw [(hL2 lev hlt).1, (hL2 lev hlt).2]) (⟨_, _, _, _, _, rfl, hL2⟩)
set_option maxHeartbeats 4000000 in
set_option maxRecDepth 100000 in
theorem c_LoopRankerModel_budget (h m1 p1 q1 r1 w1 o1 f1 s1 : Nat) (nc : Nat) (my fp fq fr up : Nat → Int32) (sm : Int32) (top bot : Int64) (lv : Nat) (ol fi se : Nat → Int32) (x y : Int64) (fd : Int32) (dn : Nat → Nat) (hmy : ∀ t, t < nc → my t = nI (dn t) ∧ dn t ≤ 4) (hc : nc ≤ 6) : wk_kl l y_LoopRankerModel_budget (Cond.code y_LoopRankerModel_budget b_LoopRankerModel_budget 3 (some .long) :: BW) rm_LoopRankerModel_budget D cls (kT cI cJ cS) nz [.ref h] (mW cI h m1 p1 q1 r1 w1 o1 f1 s1 nc my fp fq fr up sm top bot lv ol fi se x y fd) (fun wz => ∃ fi2 se2 sm2 t2 b2, wz = mW cI h m1 p1 q1 r1 w1 o1 f1 s1 nc my fp fq fr up sm2 t2 b2 ((m_ab (m_H fp fq fr up dn) nc 7 (m_in 6 0 ol) []).2.length) ((m_ab (m_H fp fq fr up dn) nc 7 (m_in 6 0 ol) []).1) fi2 se2 x y fd ∧ m_has_L (m_ab (m_H fp fq fr up dn) nc 7 (m_in 6 0 ol) []).2 fi2 se2) (m_bud (m_ab (m_H fp fq fr up dn) nc 7 (m_in 6 0 ol) []).2 (m_lf (m_ab (m_H fp fq fr up dn) nc 7 (m_in 6 0 ol) []).1 nc 0 0) (m_flo fp fq fr dn (m_ab (m_H fp fq fr up dn) nc 7 (m_in 6 0 ol) []).1 nc 0 ((m_ab (m_H fp fq fr up dn) nc 7 (m_in 6 0 ol) []).2.getD 0 (0, 0)).1 ((m_ab (m_H fp fq fr up dn) nc 7 (m_in 6 0 ol) []).2.getD 0 (0, 0)).2) x y) := by
  refine ws_l (plainFor_of_name (by decide)) (Nat.le_of_ble_eq_true rfl) ?_
  intro p e s m below meth c A ls Q X hret hl hP hD hS
  obtain ⟨H, hH⟩ : ∃ H, H = s.heap := ⟨_, rfl⟩
  obtain ⟨locs, hlo⟩ : ∃ locs : List Loc, locs = [] := ⟨_, rfl⟩
  have hP : va_P D cls (mW cI h m1 p1 q1 r1 w1 o1 f1 s1 nc my fp fq fr up sm top bot lv ol fi se x y fd) H := by rw [hH]; exact hP
  have hS : va_S A s.heap H locs := by rw [hH, hlo]; exact hS
  suffices hgo : W p l e rm_LoopRankerModel_budget s m ([.ref h] : List Value).toArray below meth c H locs 0 0 Q (F0 m 0 ls ([])) by rw [hH, hlo] at hgo; exact hgo
  clear hH hlo
  have hl : lv_has ls 3 [(0, .ref h)] := hl
  refine lv_aload_n X.1.1 X.1.2.1 d_LoopRankerModel_budget_0 rfl (lv_at hl 0 rfl) ?_
  refine wc_Vv [] 4 0 X nz_nest (c_LoopRankerModel_prove h m1 p1 q1 r1 w1 o1 f1 s1 nc my fp fq fr up sm top bot lv ol fi se x y fd dn hmy hc) (cw_LoopRankerModel_116 X.1.2.2.2.2 X.2.2.1 (by decide)) ([]) ([]) (rfl) hP hD hS rfl rfl rfl rfl hl.1 (Nat.le_of_ble_eq_true rfl) (by decide) d_LoopRankerModel_budget_1 (fun H locs wn hwn hP hD hS => ?_)
  obtain ⟨fi2, se2, sm2, t2, b2, rfl, hL2⟩ := hwn
  have hP : va_P D cls (mW cI h m1 p1 q1 r1 w1 o1 f1 s1 nc my fp fq fr up sm2 t2 b2 ((m_ab (m_H fp fq fr up dn) nc 7 (m_in 6 0 ol) []).2.length) ((m_ab (m_H fp fq fr up dn) nc 7 (m_in 6 0 ol) []).1) fi2 se2 x y fd) H := hP
  have hD : va_D A (mW cI h m1 p1 q1 r1 w1 o1 f1 s1 nc my fp fq fr up sm2 t2 b2 ((m_ab (m_H fp fq fr up dn) nc 7 (m_in 6 0 ol) []).2.length) ((m_ab (m_H fp fq fr up dn) nc 7 (m_in 6 0 ol) []).1) fi2 se2 x y fd) := hD
  have hlen := m_fin_len (m_H fp fq fr up dn) nc 7 (m_in 6 0 ol) hc
  have hlf := m_lf_le (m_ab (m_H fp fq fr up dn) nc 7 (m_in 6 0 ol) []).1 nc 0 0
  refine lv_aload_n X.1.1 X.1.2.1 d_LoopRankerModel_budget_4 rfl (lv_at hl 0 rfl) ?_
  refine fg_LoopRankerModel_102 X hP 0 rfl rfl d_LoopRankerModel_budget_5 ?_
  refine lv_iconst (v := (1 : Int32)) X.1.1 X.1.2.1 d_LoopRankerModel_budget_8 (by decide) ?_
  refine wn_ne (a := (m_ab (m_H fp fq fr up dn) nc 7 (m_in 6 0 ol) []).2.length) (b := 1) (tgt := 19) X.1.1 X.1.2.1 d_LoopRankerModel_budget_9 (by decide) (by omega) (by omega) (fun h9 => ?_) (fun h9 => ?_)
  · refine lv_ldc2 (v := -1) X.1.1 X.1.2.1 X.1.2.2.2.1 (X.1.2.2.2.2 _ kc_LoopRankerModel_141) d_LoopRankerModel_budget_19 ?_
    exact hret 22 H locs ls _ _ hP hD hS d_LoopRankerModel_budget_22 (by unfold m_bud; rw [if_neg h9]) (⟨_, _, _, _, _, rfl, hL2⟩)
  · refine lv_aload_n X.1.1 X.1.2.1 d_LoopRankerModel_budget_12 rfl (lv_at hl 0 rfl) ?_
    refine wc_Vi [] 4 0 X nz_nest (c_LoopRankerModel_left h m1 p1 q1 r1 w1 o1 f1 s1 nc my fp fq fr up sm2 t2 b2 ((m_ab (m_H fp fq fr up dn) nc 7 (m_in 6 0 ol) []).2.length) ((m_ab (m_H fp fq fr up dn) nc 7 (m_in 6 0 ol) []).1) fi2 se2 x y fd  hc) (cw_LoopRankerModel_108 X.1.2.2.2.2 X.2.2.1 (by decide)) ([]) ([]) (rfl) hP hD hS rfl rfl rfl rfl hl.1 (Nat.le_of_ble_eq_true rfl) (by decide) d_LoopRankerModel_budget_13 (fun H locs wn hwn hP hD hS => ?_)
    subst hwn
    have hP : va_P D cls (mW cI h m1 p1 q1 r1 w1 o1 f1 s1 nc my fp fq fr up sm2 t2 b2 ((m_ab (m_H fp fq fr up dn) nc 7 (m_in 6 0 ol) []).2.length) ((m_ab (m_H fp fq fr up dn) nc 7 (m_in 6 0 ol) []).1) fi2 se2 x y fd) H := hP
    have hD : va_D A (mW cI h m1 p1 q1 r1 w1 o1 f1 s1 nc my fp fq fr up sm2 t2 b2 ((m_ab (m_H fp fq fr up dn) nc 7 (m_in 6 0 ol) []).2.length) ((m_ab (m_H fp fq fr up dn) nc 7 (m_in 6 0 ol) []).1) fi2 se2 x y fd) := hD
    refine wn_if_le (a := m_lf ((m_ab (m_H fp fq fr up dn) nc 7 (m_in 6 0 ol) []).1) nc 0 0) (tgt := 23) X.1.1 X.1.2.1 d_LoopRankerModel_budget_16 (by decide) (by omega) (fun h16 => ?_) (fun h16 => ?_)
    · refine lv_aload_n X.1.1 X.1.2.1 d_LoopRankerModel_budget_23 rfl (lv_at hl 0 rfl) ?_
      refine fg_LoopRankerModel_28 X hP 0 rfl rfl d_LoopRankerModel_budget_24 ?_
      refine lv_iconst (v := (0 : Int32)) X.1.1 X.1.2.1 d_LoopRankerModel_budget_27 (by decide) ?_
      refine wa_ild X.1.1 X.1.2.1 X.2.1 hP 7 0 rfl rfl 0 rfl (by omega) (by decide) d_LoopRankerModel_budget_28 ?_
      refine lv_i2l X.1.1 X.1.2.1 d_LoopRankerModel_budget_29 rfl ?_
      refine lv_aload_n X.1.1 X.1.2.1 d_LoopRankerModel_budget_30 rfl (lv_at hl 0 rfl) ?_
      refine fg_LoopRankerModel_124 X hP 0 rfl rfl d_LoopRankerModel_budget_31 ?_
      refine lv_lmul X.1.1 X.1.2.1 d_LoopRankerModel_budget_34 ?_
      refine lv_aload_n X.1.1 X.1.2.1 d_LoopRankerModel_budget_35 rfl (lv_at hl 0 rfl) ?_
      refine fg_LoopRankerModel_31 X hP 0 rfl rfl d_LoopRankerModel_budget_36 ?_
      refine lv_iconst (v := (0 : Int32)) X.1.1 X.1.2.1 d_LoopRankerModel_budget_39 (by decide) ?_
      refine wa_ild X.1.1 X.1.2.1 X.2.1 hP 8 0 rfl rfl 0 rfl (by omega) (by decide) d_LoopRankerModel_budget_40 ?_
      refine lv_i2l X.1.1 X.1.2.1 d_LoopRankerModel_budget_41 rfl ?_
      refine lv_aload_n X.1.1 X.1.2.1 d_LoopRankerModel_budget_42 rfl (lv_at hl 0 rfl) ?_
      refine fg_LoopRankerModel_127 X hP 0 rfl rfl d_LoopRankerModel_budget_43 ?_
      refine lv_lmul X.1.1 X.1.2.1 d_LoopRankerModel_budget_46 ?_
      refine lv_ladd X.1.1 X.1.2.1 d_LoopRankerModel_budget_47 ?_
      refine lv_aload_n X.1.1 X.1.2.1 d_LoopRankerModel_budget_48 rfl (lv_at hl 0 rfl) ?_
      refine lv_iconst (v := (0 : Int32)) X.1.1 X.1.2.1 d_LoopRankerModel_budget_49 (by decide) ?_
      refine wc_Vl [.int (0 : Int32)] 4 0 X nz_nest (c_LoopRankerModel_floorOf h m1 p1 q1 r1 w1 o1 f1 s1 nc my fp fq fr up sm2 t2 b2 ((m_ab (m_H fp fq fr up dn) nc 7 (m_in 6 0 ol) []).2.length) ((m_ab (m_H fp fq fr up dn) nc 7 (m_in 6 0 ol) []).1) fi2 se2 x y fd 0 dn hmy hc (by omega)) (cw_LoopRankerModel_119 X.1.2.2.2.2 X.2.2.1 (by decide)) ([]) ([]) (rfl) hP hD hS rfl rfl rfl rfl hl.1 (Nat.le_of_ble_eq_true rfl) (by decide) d_LoopRankerModel_budget_50 (fun H locs wn hwn hP hD hS => ?_)
      obtain ⟨sm2, top2, bot2, rfl⟩ := hwn
      have hP : va_P D cls (mW cI h m1 p1 q1 r1 w1 o1 f1 s1 nc my fp fq fr up sm2 top2 bot2 ((m_ab (m_H fp fq fr up dn) nc 7 (m_in 6 0 ol) []).2.length) ((m_ab (m_H fp fq fr up dn) nc 7 (m_in 6 0 ol) []).1) fi2 se2 x y fd) H := hP
      have hD : va_D A (mW cI h m1 p1 q1 r1 w1 o1 f1 s1 nc my fp fq fr up sm2 top2 bot2 ((m_ab (m_H fp fq fr up dn) nc 7 (m_in 6 0 ol) []).2.length) ((m_ab (m_H fp fq fr up dn) nc 7 (m_in 6 0 ol) []).1) fi2 se2 x y fd) := hD
      refine lv_lsub X.1.1 X.1.2.1 d_LoopRankerModel_budget_53 ?_
      refine lv_lconst (v := 1) X.1.1 X.1.2.1 d_LoopRankerModel_budget_54 (by decide) ?_
      refine lv_ladd X.1.1 X.1.2.1 d_LoopRankerModel_budget_55 ?_
      refine lv_lstore_n X.1.1 X.1.2.1 d_LoopRankerModel_budget_56 rfl hl (by decide) rfl (fun ls hl => ?_)
      have hl : lv_has ls 3 [(1, .long ((((((fi2 0).toInt64) * x) + (((se2 0).toInt64) * y)) - (m_flo fp fq fr dn ((m_ab (m_H fp fq fr up dn) nc 7 (m_in 6 0 ol) []).1) nc 0 (fi2 0) (se2 0))) + (1 : Int64))), (0, .ref h)] := hl
      refine lv_lload_n X.1.1 X.1.2.1 d_LoopRankerModel_budget_57 rfl (lv_at hl 0 rfl) ?_
      refine lv_lconst (v := 0) X.1.1 X.1.2.1 d_LoopRankerModel_budget_58 (by decide) ?_
      refine wl_ge (tgt := 67) X.1.1 X.1.2.1 d_LoopRankerModel_budget_59 d_LoopRankerModel_budget_60 (by decide) (fun h59 => ?_) (fun h59 => ?_)
      · refine lv_lload_n X.1.1 X.1.2.1 d_LoopRankerModel_budget_67 rfl (lv_at hl 0 rfl) ?_
        exact hret 68 H locs ls _ _ hP hD hS d_LoopRankerModel_budget_68 (by have z0 := hL2 0 (by omega); unfold m_bud; rw [← z0.1, ← z0.2, if_pos h9, if_pos h16, if_neg h59]) (⟨_, _, _, _, _, rfl, hL2⟩)
      · refine lv_lconst (v := 0) X.1.1 X.1.2.1 d_LoopRankerModel_budget_63 (by decide) ?_
        refine lv_goto (tgt := 68) X.1.1 X.1.2.1 d_LoopRankerModel_budget_64 (by decide) ?_
        exact hret 68 H locs ls _ _ hP hD hS d_LoopRankerModel_budget_68 (by have z0 := hL2 0 (by omega); unfold m_bud; rw [← z0.1, ← z0.2, if_pos h9, if_pos h16, if_pos h59]) (⟨_, _, _, _, _, rfl, hL2⟩)
    · refine lv_ldc2 (v := -1) X.1.1 X.1.2.1 X.1.2.2.2.1 (X.1.2.2.2.2 _ kc_LoopRankerModel_141) d_LoopRankerModel_budget_19 ?_
      exact hret 22 H locs ls _ _ hP hD hS d_LoopRankerModel_budget_22 (by unfold m_bud; rw [if_pos h9, if_neg h16]) (⟨_, _, _, _, _, rfl, hL2⟩)
end CT
