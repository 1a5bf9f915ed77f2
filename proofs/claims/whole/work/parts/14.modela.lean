section CT
variable {l : Launch} {D : va_G} {cI cJ cS : ClassId}
set_option maxHeartbeats 4000000 in
set_option maxRecDepth 100000 in
theorem c_LoopRankerModel_within (v most : Int32) : wk_ki l y_LoopRankerModel_within (Cond.code y_LoopRankerModel_within b_LoopRankerModel_within 2 (some .boolean) :: BW) rm_LoopRankerModel_within D cls (kT cI cJ cS) nz [.int v, .int most] ([]) (fun wz => wz = []) (m_wi v most) := by
  refine ws_z (plainFor_of_name (by decide)) (Nat.le_of_ble_eq_true rfl) ?_
  intro p e s m below meth c A ls Q X hret hl hP hD hS
  obtain ⟨H, hH⟩ : ∃ H, H = s.heap := ⟨_, rfl⟩
  obtain ⟨locs, hlo⟩ : ∃ locs : List Loc, locs = [] := ⟨_, rfl⟩
  have hP : va_P D cls ([]) H := by rw [hH]; exact hP
  have hS : va_S A s.heap H locs := by rw [hH, hlo]; exact hS
  suffices hgo : W p l e rm_LoopRankerModel_within s m ([.int v, .int most] : List Value).toArray below meth c H locs 0 0 Q (F0 m 0 ls ([])) by rw [hH, hlo] at hgo; exact hgo
  clear hH hlo
  have hl : lv_has ls 2 [(0, .int v), (1, .int most)] := hl
  refine lv_iload_n X.1.1 X.1.2.1 d_LoopRankerModel_within_0 rfl (lv_at hl 0 rfl) ?_
  refine lv_iload_n X.1.1 X.1.2.1 d_LoopRankerModel_within_1 rfl (lv_at hl 1 rfl) ?_
  refine lv_ineg X.1.1 X.1.2.1 d_LoopRankerModel_within_2 ?_
  refine wi_lt (tgt := 15) X.1.1 X.1.2.1 d_LoopRankerModel_within_3 (by decide) (fun h3 => ?_) (fun h3 => ?_)
  · refine lv_iconst (v := (0 : Int32)) X.1.1 X.1.2.1 d_LoopRankerModel_within_15 (by decide) ?_
    exact hret 16 H locs ls _ _ hP hD hS d_LoopRankerModel_within_16 (Or.inl rfl) (by first | (simp only [m_wi, if_pos h3]; done) | simp [m_wi, h3]) (rfl)
  · refine lv_iload_n X.1.1 X.1.2.1 d_LoopRankerModel_within_6 rfl (lv_at hl 0 rfl) ?_
    refine lv_iload_n X.1.1 X.1.2.1 d_LoopRankerModel_within_7 rfl (lv_at hl 1 rfl) ?_
    refine wi_gt (tgt := 15) X.1.1 X.1.2.1 d_LoopRankerModel_within_8 (by decide) (fun h8 => ?_) (fun h8 => ?_)
    · refine lv_iconst (v := (0 : Int32)) X.1.1 X.1.2.1 d_LoopRankerModel_within_15 (by decide) ?_
      exact hret 16 H locs ls _ _ hP hD hS d_LoopRankerModel_within_16 (Or.inl rfl) (by first | (simp only [m_wi, if_neg h3, if_pos h8]; done) | simp [m_wi, h3, h8]) (rfl)
    · refine lv_iconst (v := (1 : Int32)) X.1.1 X.1.2.1 d_LoopRankerModel_within_11 (by decide) ?_
      refine lv_goto (tgt := 16) X.1.1 X.1.2.1 d_LoopRankerModel_within_12 (by decide) ?_
      exact hret 16 H locs ls _ _ hP hD hS d_LoopRankerModel_within_16 (Or.inr rfl) (by first | (simp only [m_wi, if_neg h3, if_neg h8]; done) | simp [m_wi, h3, h8]) (rfl)
set_option maxHeartbeats 4000000 in
set_option maxRecDepth 100000 in
theorem c_LoopRankerModel_far (v : Int64) : wk_ki l y_LoopRankerModel_far (Cond.code y_LoopRankerModel_far b_LoopRankerModel_far 2 (some .boolean) :: BW) rm_LoopRankerModel_far D cls (kT cI cJ cS) nz [.long v] ([]) (fun wz => wz = []) (m_far v) := by
  refine ws_z (plainFor_of_name (by decide)) (Nat.le_of_ble_eq_true rfl) ?_
  intro p e s m below meth c A ls Q X hret hl hP hD hS
  obtain ⟨H, hH⟩ : ∃ H, H = s.heap := ⟨_, rfl⟩
  obtain ⟨locs, hlo⟩ : ∃ locs : List Loc, locs = [] := ⟨_, rfl⟩
  have hP : va_P D cls ([]) H := by rw [hH]; exact hP
  have hS : va_S A s.heap H locs := by rw [hH, hlo]; exact hS
  suffices hgo : W p l e rm_LoopRankerModel_far s m ([.long v] : List Value).toArray below meth c H locs 0 0 Q (F0 m 0 ls ([])) by rw [hH, hlo] at hgo; exact hgo
  clear hH hlo
  have hl : lv_has ls 2 [(0, .long v)] := hl
  refine lv_lload_n X.1.1 X.1.2.1 d_LoopRankerModel_far_0 rfl (lv_at hl 0 rfl) ?_
  refine lv_ldc2 (v := -1000000000000) X.1.1 X.1.2.1 X.1.2.2.2.1 (X.1.2.2.2.2 _ kc_LoopRankerModel_133) d_LoopRankerModel_far_1 ?_
  refine wl_lt (tgt := 16) X.1.1 X.1.2.1 d_LoopRankerModel_far_4 d_LoopRankerModel_far_5 (by decide) (fun h4 => ?_) (fun h4 => ?_)
  · refine lv_iconst (v := (1 : Int32)) X.1.1 X.1.2.1 d_LoopRankerModel_far_16 (by decide) ?_
    refine lv_goto (tgt := 21) X.1.1 X.1.2.1 d_LoopRankerModel_far_17 (by decide) ?_
    exact hret 21 H locs ls _ _ hP hD hS d_LoopRankerModel_far_21 (Or.inr rfl) (by first | (simp only [m_far, if_pos h4]; done) | simp [m_far, h4]) (rfl)
  · refine lv_lload_n X.1.1 X.1.2.1 d_LoopRankerModel_far_8 rfl (lv_at hl 0 rfl) ?_
    refine lv_ldc2 (v := 1000000000000) X.1.1 X.1.2.1 X.1.2.2.2.1 (X.1.2.2.2.2 _ kc_LoopRankerModel_135) d_LoopRankerModel_far_9 ?_
    refine wl_le (tgt := 20) X.1.1 X.1.2.1 d_LoopRankerModel_far_12 d_LoopRankerModel_far_13 (by decide) (fun h12 => ?_) (fun h12 => ?_)
    · refine lv_iconst (v := (0 : Int32)) X.1.1 X.1.2.1 d_LoopRankerModel_far_20 (by decide) ?_
      exact hret 21 H locs ls _ _ hP hD hS d_LoopRankerModel_far_21 (Or.inl rfl) (by first | (simp only [m_far, if_neg h4, if_neg h12]; done) | simp [m_far, h4, h12]) (rfl)
    · refine lv_iconst (v := (1 : Int32)) X.1.1 X.1.2.1 d_LoopRankerModel_far_16 (by decide) ?_
      refine lv_goto (tgt := 21) X.1.1 X.1.2.1 d_LoopRankerModel_far_17 (by decide) ?_
      exact hret 21 H locs ls _ _ hP hD hS d_LoopRankerModel_far_21 (Or.inr rfl) (by first | (simp only [m_far, if_neg h4, if_pos h12]; done) | simp [m_far, h4, h12]) (rfl)
set_option maxHeartbeats 4000000 in
set_option maxRecDepth 100000 in
theorem c_LoopRankerModel_size (v : Int32) : wk_ki l y_LoopRankerModel_size (Cond.code y_LoopRankerModel_size b_LoopRankerModel_size 1 (some .int) :: BW) rm_LoopRankerModel_size D cls (kT cI cJ cS) nz [.int v] ([]) (fun wz => wz = []) (m_sz v) := by
  refine ws_i (plainFor_of_name (by decide)) (Nat.le_of_ble_eq_true rfl) ?_
  intro p e s m below meth c A ls Q X hret hl hP hD hS
  obtain ⟨H, hH⟩ : ∃ H, H = s.heap := ⟨_, rfl⟩
  obtain ⟨locs, hlo⟩ : ∃ locs : List Loc, locs = [] := ⟨_, rfl⟩
  have hP : va_P D cls ([]) H := by rw [hH]; exact hP
  have hS : va_S A s.heap H locs := by rw [hH, hlo]; exact hS
  suffices hgo : W p l e rm_LoopRankerModel_size s m ([.int v] : List Value).toArray below meth c H locs 0 0 Q (F0 m 0 ls ([])) by rw [hH, hlo] at hgo; exact hgo
  clear hH hlo
  have hl : lv_has ls 1 [(0, .int v)] := hl
  refine lv_iload_n X.1.1 X.1.2.1 d_LoopRankerModel_size_0 rfl (lv_at hl 0 rfl) ?_
  refine wi0_ge (tgt := 9) X.1.1 X.1.2.1 d_LoopRankerModel_size_1 (by decide) (fun h1 => ?_) (fun h1 => ?_)
  · refine lv_iload_n X.1.1 X.1.2.1 d_LoopRankerModel_size_9 rfl (lv_at hl 0 rfl) ?_
    exact hret 10 H locs ls _ _ hP hD hS d_LoopRankerModel_size_10 (by first | (simp only [m_sz, if_neg h1]; done) | simp [m_sz, h1]) (rfl)
  · refine lv_iload_n X.1.1 X.1.2.1 d_LoopRankerModel_size_4 rfl (lv_at hl 0 rfl) ?_
    refine lv_ineg X.1.1 X.1.2.1 d_LoopRankerModel_size_5 ?_
    refine lv_goto (tgt := 10) X.1.1 X.1.2.1 d_LoopRankerModel_size_6 (by decide) ?_
    exact hret 10 H locs ls _ _ hP hD hS d_LoopRankerModel_size_10 (by first | (simp only [m_sz, if_pos h1]; done) | simp [m_sz, h1]) (rfl)
set_option maxHeartbeats 4000000 in
set_option maxRecDepth 100000 in
theorem c_LoopRankerModel_down (n d : Int64) (hne : ¬ d = 0) : wk_kl l y_LoopRankerModel_down (Cond.code y_LoopRankerModel_down b_LoopRankerModel_down 6 (some .long) :: BW) rm_LoopRankerModel_down D cls (kT cI cJ cS) nz [.long n, .long d] ([]) (fun wz => wz = []) (m_dn n d) := by
  refine ws_l (plainFor_of_name (by decide)) (Nat.le_of_ble_eq_true rfl) ?_
  intro p e s m below meth c A ls Q X hret hl hP hD hS
  obtain ⟨H, hH⟩ : ∃ H, H = s.heap := ⟨_, rfl⟩
  obtain ⟨locs, hlo⟩ : ∃ locs : List Loc, locs = [] := ⟨_, rfl⟩
  have hP : va_P D cls ([]) H := by rw [hH]; exact hP
  have hS : va_S A s.heap H locs := by rw [hH, hlo]; exact hS
  suffices hgo : W p l e rm_LoopRankerModel_down s m ([.long n, .long d] : List Value).toArray below meth c H locs 0 0 Q (F0 m 0 ls ([])) by rw [hH, hlo] at hgo; exact hgo
  clear hH hlo
  have hl : lv_has ls 6 [(0, .long n), (2, .long d)] := hl
  refine lv_lload_n X.1.1 X.1.2.1 d_LoopRankerModel_down_0 rfl (lv_at hl 0 rfl) ?_
  refine lv_lload_n X.1.1 X.1.2.1 d_LoopRankerModel_down_1 rfl (lv_at hl 1 rfl) ?_
  refine lv_ldiv X.1.1 X.1.2.1 d_LoopRankerModel_down_2 hne ?_
  refine lv_lstore X.1.1 X.1.2.1 d_LoopRankerModel_down_3 hl (by decide) rfl (fun ls hl => ?_)
  have hl : lv_has ls 6 [(4, .long (n / d)), (0, .long n), (2, .long d)] := hl
  refine lv_lload_n X.1.1 X.1.2.1 d_LoopRankerModel_down_5 rfl (lv_at hl 1 rfl) ?_
  refine lv_lload_n X.1.1 X.1.2.1 d_LoopRankerModel_down_6 rfl (lv_at hl 2 rfl) ?_
  refine lv_lrem X.1.1 X.1.2.1 d_LoopRankerModel_down_7 hne ?_
  refine lv_lconst (v := 0) X.1.1 X.1.2.1 d_LoopRankerModel_down_8 (by decide) ?_
  refine wl_ge (tgt := 20) X.1.1 X.1.2.1 d_LoopRankerModel_down_9 d_LoopRankerModel_down_10 (by decide) (fun h9 => ?_) (fun h9 => ?_)
  · refine lv_lload X.1.1 X.1.2.1 d_LoopRankerModel_down_20 (lv_at hl 0 rfl) ?_
    exact hret 22 H locs ls _ _ hP hD hS d_LoopRankerModel_down_22 (by first | (simp only [m_dn, if_neg h9]; done) | simp [m_dn, h9]) (rfl)
  · refine lv_lload X.1.1 X.1.2.1 d_LoopRankerModel_down_13 (lv_at hl 0 rfl) ?_
    refine lv_lconst (v := 1) X.1.1 X.1.2.1 d_LoopRankerModel_down_15 (by decide) ?_
    refine lv_lsub X.1.1 X.1.2.1 d_LoopRankerModel_down_16 ?_
    refine lv_goto (tgt := 22) X.1.1 X.1.2.1 d_LoopRankerModel_down_17 (by decide) ?_
    exact hret 22 H locs ls _ _ hP hD hS d_LoopRankerModel_down_22 (by first | (simp only [m_dn, if_pos h9]; done) | simp [m_dn, h9]) (rfl)
set_option maxHeartbeats 4000000 in
set_option maxRecDepth 100000 in
theorem c_LoopRankerModel_before (u v a b : Int32) : wk_ki l y_LoopRankerModel_before (Cond.code y_LoopRankerModel_before b_LoopRankerModel_before 6 (some .boolean) :: BW) rm_LoopRankerModel_before D cls (kT cI cJ cS) nz [.int u, .int v, .int a, .int b] ([]) (fun wz => wz = []) (m_bf u v a b) := by
  refine ws_z (plainFor_of_name (by decide)) (Nat.le_of_ble_eq_true rfl) ?_
  intro p e s m below meth c A ls Q X hret hl hP hD hS
  obtain ⟨H, hH⟩ : ∃ H, H = s.heap := ⟨_, rfl⟩
  obtain ⟨locs, hlo⟩ : ∃ locs : List Loc, locs = [] := ⟨_, rfl⟩
  have hP : va_P D cls ([]) H := by rw [hH]; exact hP
  have hS : va_S A s.heap H locs := by rw [hH, hlo]; exact hS
  suffices hgo : W p l e rm_LoopRankerModel_before s m ([.int u, .int v, .int a, .int b] : List Value).toArray below meth c H locs 0 0 Q (F0 m 0 ls ([])) by rw [hH, hlo] at hgo; exact hgo
  clear hH hlo
  have hl : lv_has ls 6 [(0, .int u), (1, .int v), (2, .int a), (3, .int b)] := hl
  refine lv_iload_n X.1.1 X.1.2.1 d_LoopRankerModel_before_0 rfl (lv_at hl 0 rfl) ?_
  refine wc_Si [.int u] X nz_nest (c_LoopRankerModel_size u ) (cw_LoopRankerModel_94 X.1.2.2.2.2 X.2.2.1 (by decide)) ([]) ([]) (rfl) hP hD hS rfl rfl hl.1 (Nat.le_of_ble_eq_true rfl) (by decide) d_LoopRankerModel_before_1 (fun H locs wn hwn hP hD hS => ?_)
  subst hwn
  have hP : va_P D cls ([]) H := hP
  have hD : va_D A ([]) := hD
  refine lv_iload_n X.1.1 X.1.2.1 d_LoopRankerModel_before_4 rfl (lv_at hl 1 rfl) ?_
  refine wc_Si [.int v] X nz_nest (c_LoopRankerModel_size v ) (cw_LoopRankerModel_94 X.1.2.2.2.2 X.2.2.1 (by decide)) ([]) ([]) (rfl) hP hD hS rfl rfl hl.1 (Nat.le_of_ble_eq_true rfl) (by decide) d_LoopRankerModel_before_5 (fun H locs wn hwn hP hD hS => ?_)
  subst hwn
  have hP : va_P D cls ([]) H := hP
  have hD : va_D A ([]) := hD
  refine lv_iadd X.1.1 X.1.2.1 d_LoopRankerModel_before_8 ?_
  refine lv_istore X.1.1 X.1.2.1 d_LoopRankerModel_before_9 hl (by decide) rfl (fun ls hl => ?_)
  have hl : lv_has ls 6 [(4, .int ((m_sz u) + (m_sz v))), (0, .int u), (1, .int v), (2, .int a), (3, .int b)] := hl
  refine lv_iload_n X.1.1 X.1.2.1 d_LoopRankerModel_before_11 rfl (lv_at hl 3 rfl) ?_
  refine wc_Si [.int a] X nz_nest (c_LoopRankerModel_size a ) (cw_LoopRankerModel_94 X.1.2.2.2.2 X.2.2.1 (by decide)) ([]) ([]) (rfl) hP hD hS rfl rfl hl.1 (Nat.le_of_ble_eq_true rfl) (by decide) d_LoopRankerModel_before_12 (fun H locs wn hwn hP hD hS => ?_)
  subst hwn
  have hP : va_P D cls ([]) H := hP
  have hD : va_D A ([]) := hD
  refine lv_iload_n X.1.1 X.1.2.1 d_LoopRankerModel_before_15 rfl (lv_at hl 4 rfl) ?_
  refine wc_Si [.int b] X nz_nest (c_LoopRankerModel_size b ) (cw_LoopRankerModel_94 X.1.2.2.2.2 X.2.2.1 (by decide)) ([]) ([]) (rfl) hP hD hS rfl rfl hl.1 (Nat.le_of_ble_eq_true rfl) (by decide) d_LoopRankerModel_before_16 (fun H locs wn hwn hP hD hS => ?_)
  subst hwn
  have hP : va_P D cls ([]) H := hP
  have hD : va_D A ([]) := hD
  refine lv_iadd X.1.1 X.1.2.1 d_LoopRankerModel_before_19 ?_
  refine lv_istore X.1.1 X.1.2.1 d_LoopRankerModel_before_20 hl (by decide) rfl (fun ls hl => ?_)
  have hl : lv_has ls 6 [(5, .int ((m_sz a) + (m_sz b))), (4, .int ((m_sz u) + (m_sz v))), (0, .int u), (1, .int v), (2, .int a), (3, .int b)] := hl
  refine lv_iload X.1.1 X.1.2.1 d_LoopRankerModel_before_22 (lv_at hl 1 rfl) ?_
  refine lv_iload X.1.1 X.1.2.1 d_LoopRankerModel_before_24 (lv_at hl 0 rfl) ?_
  refine wi_eq (tgt := 44) X.1.1 X.1.2.1 d_LoopRankerModel_before_26 (by decide) (fun h26 => ?_) (fun h26 => ?_)
  · refine lv_iload_n X.1.1 X.1.2.1 d_LoopRankerModel_before_44 rfl (lv_at hl 2 rfl) ?_
    refine lv_iload_n X.1.1 X.1.2.1 d_LoopRankerModel_before_45 rfl (lv_at hl 4 rfl) ?_
    refine wi_eq (tgt := 62) X.1.1 X.1.2.1 d_LoopRankerModel_before_46 (by decide) (fun h46 => ?_) (fun h46 => ?_)
    · refine lv_iload_n X.1.1 X.1.2.1 d_LoopRankerModel_before_62 rfl (lv_at hl 3 rfl) ?_
      refine lv_iload_n X.1.1 X.1.2.1 d_LoopRankerModel_before_63 rfl (lv_at hl 5 rfl) ?_
      refine wi_le (tgt := 71) X.1.1 X.1.2.1 d_LoopRankerModel_before_64 (by decide) (fun h64 => ?_) (fun h64 => ?_)
      · refine lv_iconst (v := (0 : Int32)) X.1.1 X.1.2.1 d_LoopRankerModel_before_71 (by decide) ?_
        exact hret 72 H locs ls _ _ hP hD hS d_LoopRankerModel_before_72 (Or.inl rfl) (by first | (simp only [m_bf, if_pos h26, if_pos h46, if_neg h64]; done) | simp [m_bf, h26, h46, h64]) (rfl)
      · refine lv_iconst (v := (1 : Int32)) X.1.1 X.1.2.1 d_LoopRankerModel_before_67 (by decide) ?_
        refine lv_goto (tgt := 72) X.1.1 X.1.2.1 d_LoopRankerModel_before_68 (by decide) ?_
        exact hret 72 H locs ls _ _ hP hD hS d_LoopRankerModel_before_72 (Or.inr rfl) (by first | (simp only [m_bf, if_pos h26, if_pos h46, if_pos h64]; done) | simp [m_bf, h26, h46, h64]) (rfl)
    · refine lv_iload_n X.1.1 X.1.2.1 d_LoopRankerModel_before_49 rfl (lv_at hl 2 rfl) ?_
      refine lv_iload_n X.1.1 X.1.2.1 d_LoopRankerModel_before_50 rfl (lv_at hl 4 rfl) ?_
      refine wi_le (tgt := 58) X.1.1 X.1.2.1 d_LoopRankerModel_before_51 (by decide) (fun h51 => ?_) (fun h51 => ?_)
      · refine lv_iconst (v := (0 : Int32)) X.1.1 X.1.2.1 d_LoopRankerModel_before_58 (by decide) ?_
        refine lv_goto (tgt := 72) X.1.1 X.1.2.1 d_LoopRankerModel_before_59 (by decide) ?_
        exact hret 72 H locs ls _ _ hP hD hS d_LoopRankerModel_before_72 (Or.inl rfl) (by first | (simp only [m_bf, if_pos h26, if_neg h46, if_neg h51]; done) | simp [m_bf, h26, h46, h51]) (rfl)
      · refine lv_iconst (v := (1 : Int32)) X.1.1 X.1.2.1 d_LoopRankerModel_before_54 (by decide) ?_
        refine lv_goto (tgt := 72) X.1.1 X.1.2.1 d_LoopRankerModel_before_55 (by decide) ?_
        exact hret 72 H locs ls _ _ hP hD hS d_LoopRankerModel_before_72 (Or.inr rfl) (by first | (simp only [m_bf, if_pos h26, if_neg h46, if_pos h51]; done) | simp [m_bf, h26, h46, h51]) (rfl)
  · refine lv_iload X.1.1 X.1.2.1 d_LoopRankerModel_before_29 (lv_at hl 1 rfl) ?_
    refine lv_iload X.1.1 X.1.2.1 d_LoopRankerModel_before_31 (lv_at hl 0 rfl) ?_
    refine wi_ge (tgt := 40) X.1.1 X.1.2.1 d_LoopRankerModel_before_33 (by decide) (fun h33 => ?_) (fun h33 => ?_)
    · refine lv_iconst (v := (0 : Int32)) X.1.1 X.1.2.1 d_LoopRankerModel_before_40 (by decide) ?_
      refine lv_goto (tgt := 72) X.1.1 X.1.2.1 d_LoopRankerModel_before_41 (by decide) ?_
      exact hret 72 H locs ls _ _ hP hD hS d_LoopRankerModel_before_72 (Or.inl rfl) (by first | (simp only [m_bf, if_neg h26, if_neg h33]; done) | simp [m_bf, h26, h33]) (rfl)
    · refine lv_iconst (v := (1 : Int32)) X.1.1 X.1.2.1 d_LoopRankerModel_before_36 (by decide) ?_
      refine lv_goto (tgt := 72) X.1.1 X.1.2.1 d_LoopRankerModel_before_37 (by decide) ?_
      exact hret 72 H locs ls _ _ hP hD hS d_LoopRankerModel_before_72 (Or.inr rfl) (by first | (simp only [m_bf, if_neg h26, if_pos h33]; done) | simp [m_bf, h26, h33]) (rfl)
set_option maxHeartbeats 4000000 in
set_option maxRecDepth 100000 in
theorem c_LoopRankerModel_there (h m1 p1 q1 r1 w1 o1 f1 s1 : Nat) (nc : Nat) (my fp fq fr up : Nat → Int32) (sm : Int32) (top bot : Int64) (lv : Nat) (ol fi se : Nat → Int32) (x y : Int64) (fd : Int32) (t : Int32) : wk_ki l y_LoopRankerModel_there (Cond.code y_LoopRankerModel_there b_LoopRankerModel_there 2 (some .boolean) :: BW) rm_LoopRankerModel_there D cls (kT cI cJ cS) nz [.ref h, .int t] (mW cI h m1 p1 q1 r1 w1 o1 f1 s1 nc my fp fq fr up sm top bot lv ol fi se x y fd) (fun wz => wz = mW cI h m1 p1 q1 r1 w1 o1 f1 s1 nc my fp fq fr up sm top bot lv ol fi se x y fd) (m_th nc t) := by
  refine ws_z (plainFor_of_name (by decide)) (Nat.le_of_ble_eq_true rfl) ?_
  intro p e s m below meth c A ls Q X hret hl hP hD hS
  obtain ⟨H, hH⟩ : ∃ H, H = s.heap := ⟨_, rfl⟩
  obtain ⟨locs, hlo⟩ : ∃ locs : List Loc, locs = [] := ⟨_, rfl⟩
  have hP : va_P D cls (mW cI h m1 p1 q1 r1 w1 o1 f1 s1 nc my fp fq fr up sm top bot lv ol fi se x y fd) H := by rw [hH]; exact hP
  have hS : va_S A s.heap H locs := by rw [hH, hlo]; exact hS
  suffices hgo : W p l e rm_LoopRankerModel_there s m ([.ref h, .int t] : List Value).toArray below meth c H locs 0 0 Q (F0 m 0 ls ([])) by rw [hH, hlo] at hgo; exact hgo
  clear hH hlo
  have hl : lv_has ls 2 [(0, .ref h), (1, .int t)] := hl
  refine lv_iload_n X.1.1 X.1.2.1 d_LoopRankerModel_there_0 rfl (lv_at hl 1 rfl) ?_
  refine wi0_lt (tgt := 16) X.1.1 X.1.2.1 d_LoopRankerModel_there_1 (by decide) (fun h1 => ?_) (fun h1 => ?_)
  · refine lv_iconst (v := (0 : Int32)) X.1.1 X.1.2.1 d_LoopRankerModel_there_16 (by decide) ?_
    exact hret 17 H locs ls _ _ hP hD hS d_LoopRankerModel_there_17 (Or.inl rfl) (by first | (simp only [m_th, if_pos h1]; done) | simp [m_th, h1]) (rfl)
  · refine lv_iload_n X.1.1 X.1.2.1 d_LoopRankerModel_there_4 rfl (lv_at hl 1 rfl) ?_
    refine lv_aload_n X.1.1 X.1.2.1 d_LoopRankerModel_there_5 rfl (lv_at hl 0 rfl) ?_
    refine fg_LoopRankerModel_34 X hP 0 rfl rfl d_LoopRankerModel_there_6 ?_
    refine wi_ge (tgt := 16) X.1.1 X.1.2.1 d_LoopRankerModel_there_9 (by decide) (fun h9 => ?_) (fun h9 => ?_)
    · refine lv_iconst (v := (0 : Int32)) X.1.1 X.1.2.1 d_LoopRankerModel_there_16 (by decide) ?_
      exact hret 17 H locs ls _ _ hP hD hS d_LoopRankerModel_there_17 (Or.inl rfl) (by first | (simp only [m_th, if_neg h1, if_neg h9]; done) | simp [m_th, h1, h9]) (rfl)
    · refine lv_iconst (v := (1 : Int32)) X.1.1 X.1.2.1 d_LoopRankerModel_there_12 (by decide) ?_
      refine lv_goto (tgt := 17) X.1.1 X.1.2.1 d_LoopRankerModel_there_13 (by decide) ?_
      exact hret 17 H locs ls _ _ hP hD hS d_LoopRankerModel_there_17 (Or.inr rfl) (by first | (simp only [m_th, if_neg h1, if_pos h9]; done) | simp [m_th, h1, h9]) (rfl)
set_option maxHeartbeats 4000000 in
set_option maxRecDepth 100000 in
theorem c_LoopRankerModel_meet (h m1 p1 q1 r1 w1 o1 f1 s1 : Nat) (nc : Nat) (my fp fq fr up : Nat → Int32) (sm : Int32) (top bot : Int64) (lv : Nat) (ol fi se : Nat → Int32) (x y : Int64) (fd : Int32) (t : Nat) (px py den : Int64) (u v : Int32) (d : Nat) (hm : my t = nI d) (ht : t < 6) (hd : d ≤ 4) : wk_kv l y_LoopRankerModel_meet (Cond.code y_LoopRankerModel_meet b_LoopRankerModel_meet 18 none :: BW) rm_LoopRankerModel_meet D cls (kT cI cJ cS) nz [.ref h, .int (nI t), .long px, .long py, .long den, .int u, .int v] (mW cI h m1 p1 q1 r1 w1 o1 f1 s1 nc my fp fq fr up sm top bot lv ol fi se x y fd) (fun wz => wz = mW cI h m1 p1 q1 r1 w1 o1 f1 s1 nc my fp fq fr up ((m_mn fp fq fr (4 * t) d u v px py den (sm, top, bot)).1) ((m_mn fp fq fr (4 * t) d u v px py den (sm, top, bot)).2.1) ((m_mn fp fq fr (4 * t) d u v px py den (sm, top, bot)).2.2) lv ol fi se x y fd) := by
  refine ws_v (plainFor_of_name (by decide)) (Nat.le_of_ble_eq_true rfl) ?_
  intro p e s m below meth c A ls Q X hret hl hP hD hS
  obtain ⟨H, hH⟩ : ∃ H, H = s.heap := ⟨_, rfl⟩
  obtain ⟨locs, hlo⟩ : ∃ locs : List Loc, locs = [] := ⟨_, rfl⟩
  have hP : va_P D cls (mW cI h m1 p1 q1 r1 w1 o1 f1 s1 nc my fp fq fr up sm top bot lv ol fi se x y fd) H := by rw [hH]; exact hP
  have hS : va_S A s.heap H locs := by rw [hH, hlo]; exact hS
  suffices hgo : W p l e rm_LoopRankerModel_meet s m ([.ref h, .int (nI t), .long px, .long py, .long den, .int u, .int v] : List Value).toArray below meth c H locs 0 0 Q (F0 m 0 ls ([])) by rw [hH, hlo] at hgo; exact hgo
  clear hH hlo
  have hl : lv_has ls 18 [(0, .ref h), (1, .int (nI t)), (2, .long px), (4, .long py), (6, .long den), (8, .int u), (9, .int v)] := hl
  refine lv_lload X.1.1 X.1.2.1 d_LoopRankerModel_meet_0 (lv_at hl 4 rfl) ?_
  refine lv_lconst (v := 0) X.1.1 X.1.2.1 d_LoopRankerModel_meet_2 (by decide) ?_
  have jn15 : ∀ (dd : Int64) (H : Heap) (locs : List Loc), dd = (if den < 0 then -den else den) → va_P D cls (mW cI h m1 p1 q1 r1 w1 o1 f1 s1 nc my fp fq fr up sm top bot lv ol fi se x y fd) H → va_S A s.heap H locs → W p l e rm_LoopRankerModel_meet s m ([.ref h, .int (nI t), .long px, .long py, .long den, .int u, .int v] : List Value).toArray below meth c H locs 0 0 Q (F0 m 15 ls (.long dd :: [])) := by
    intro dd H locs edd hP hS
    refine lv_lstore X.1.1 X.1.2.1 d_LoopRankerModel_meet_15 hl (by decide) rfl (fun ls hl => ?_)
    have hl : lv_has ls 18 [(10, .long dd), (0, .ref h), (1, .int (nI t)), (2, .long px), (4, .long py), (6, .long den), (8, .int u), (9, .int v)] := hl
    refine lv_lload X.1.1 X.1.2.1 d_LoopRankerModel_meet_17 (lv_at hl 5 rfl) ?_
    refine lv_lconst (v := 0) X.1.1 X.1.2.1 d_LoopRankerModel_meet_19 (by decide) ?_
    have jn30 : ∀ (ax : Int64) (H : Heap) (locs : List Loc), ax = (if den < 0 then -px else px) → va_P D cls (mW cI h m1 p1 q1 r1 w1 o1 f1 s1 nc my fp fq fr up sm top bot lv ol fi se x y fd) H → va_S A s.heap H locs → W p l e rm_LoopRankerModel_meet s m ([.ref h, .int (nI t), .long px, .long py, .long den, .int u, .int v] : List Value).toArray below meth c H locs 0 0 Q (F0 m 30 ls (.long ax :: [])) := by
      intro ax H locs eax hP hS
      refine lv_lstore X.1.1 X.1.2.1 d_LoopRankerModel_meet_30 hl (by decide) rfl (fun ls hl => ?_)
      have hl : lv_has ls 18 [(12, .long ax), (10, .long dd), (0, .ref h), (1, .int (nI t)), (2, .long px), (4, .long py), (6, .long den), (8, .int u), (9, .int v)] := hl
      refine lv_lload X.1.1 X.1.2.1 d_LoopRankerModel_meet_32 (lv_at hl 6 rfl) ?_
      refine lv_lconst (v := 0) X.1.1 X.1.2.1 d_LoopRankerModel_meet_34 (by decide) ?_
      have jn47 : ∀ (ay : Int64) (H : Heap) (locs : List Loc), ay = (if den < 0 then -py else py) → va_P D cls (mW cI h m1 p1 q1 r1 w1 o1 f1 s1 nc my fp fq fr up sm top bot lv ol fi se x y fd) H → va_S A s.heap H locs → W p l e rm_LoopRankerModel_meet s m ([.ref h, .int (nI t), .long px, .long py, .long den, .int u, .int v] : List Value).toArray below meth c H locs 0 0 Q (F0 m 47 ls (.long ay :: [])) := by
        intro ay H locs eay hP hS
        refine lv_lstore X.1.1 X.1.2.1 d_LoopRankerModel_meet_47 hl (by decide) rfl (fun ls hl => ?_)
        have hl : lv_has ls 18 [(14, .long ay), (12, .long ax), (10, .long dd), (0, .ref h), (1, .int (nI t)), (2, .long px), (4, .long py), (6, .long den), (8, .int u), (9, .int v)] := hl
        refine lv_iconst (v := (4 : Int32)) X.1.1 X.1.2.1 d_LoopRankerModel_meet_49 (by decide) ?_
        refine lv_iload_n X.1.1 X.1.2.1 d_LoopRankerModel_meet_50 rfl (lv_at hl 4 rfl) ?_
        refine wn_mul (a := 4) (b := t) X.1.1 X.1.2.1 d_LoopRankerModel_meet_51 ?_
        refine lv_istore X.1.1 X.1.2.1 d_LoopRankerModel_meet_52 hl (by decide) rfl (fun ls hl => ?_)
        have hl : lv_has ls 18 [(16, .int (nI (4 * t))), (14, .long ay), (12, .long ax), (10, .long dd), (0, .ref h), (1, .int (nI t)), (2, .long px), (4, .long py), (6, .long den), (8, .int u), (9, .int v)] := hl
        have lp54 : ∀ (k54 : Nat) (i : Nat) (ls : Array Slot) (H : Heap) (locs : List Loc), i + k54 = 4 * t + d → m_ck fp fq fr ax ay dd k54 i = m_ck fp fq fr ax ay dd d (4 * t) → lv_has ls 18 [(16, .int (nI i)), (14, .long ay), (12, .long ax), (10, .long dd), (0, .ref h), (1, .int (nI t)), (2, .long px), (4, .long py), (6, .long den), (8, .int u), (9, .int v)] → va_P D cls (mW cI h m1 p1 q1 r1 w1 o1 f1 s1 nc my fp fq fr up sm top bot lv ol fi se x y fd) H → va_D A (mW cI h m1 p1 q1 r1 w1 o1 f1 s1 nc my fp fq fr up sm top bot lv ol fi se x y fd) → va_S A s.heap H locs → W p l e rm_LoopRankerModel_meet s m ([.ref h, .int (nI t), .long px, .long py, .long den, .int u, .int v] : List Value).toArray below meth c H locs 0 0 Q (F0 m 54 ls ([])) := by
          intro k54
          induction k54 with
          | zero =>
            intro i ls H locs hik hE hl hP hD hS
            refine lv_iload X.1.1 X.1.2.1 d_LoopRankerModel_meet_54 (lv_at hl 0 rfl) ?_
            refine lv_iconst (v := (4 : Int32)) X.1.1 X.1.2.1 d_LoopRankerModel_meet_56 (by decide) ?_
            refine lv_iload_n X.1.1 X.1.2.1 d_LoopRankerModel_meet_57 rfl (lv_at hl 5 rfl) ?_
            refine wn_mul (a := 4) (b := t) X.1.1 X.1.2.1 d_LoopRankerModel_meet_58 ?_
            refine lv_aload_n X.1.1 X.1.2.1 d_LoopRankerModel_meet_59 rfl (lv_at hl 4 rfl) ?_
            refine fg_LoopRankerModel_7 X hP 0 rfl rfl d_LoopRankerModel_meet_60 ?_
            refine lv_iload_n X.1.1 X.1.2.1 d_LoopRankerModel_meet_63 rfl (lv_at hl 5 rfl) ?_
            refine wa_ild X.1.1 X.1.2.1 X.2.1 hP 1 0 rfl rfl t rfl (by omega) (by decide) d_LoopRankerModel_meet_64 ?_
            refine wn_top hm ?_
            refine wn_add (a := 4 * t) (b := d) X.1.1 X.1.2.1 d_LoopRankerModel_meet_65 ?_
            refine wn_ge (a := i) (b := 4 * t + d) (tgt := 114) X.1.1 X.1.2.1 d_LoopRankerModel_meet_66 (by decide) (by omega) (by omega) (fun h66 => ?_) (fun h66 => by exfalso; omega)
            refine lv_iload X.1.1 X.1.2.1 d_LoopRankerModel_meet_114 (lv_at hl 9 rfl) ?_
            refine lv_i2l X.1.1 X.1.2.1 d_LoopRankerModel_meet_116 rfl ?_
            refine lv_lload X.1.1 X.1.2.1 d_LoopRankerModel_meet_117 (lv_at hl 2 rfl) ?_
            refine lv_lmul X.1.1 X.1.2.1 d_LoopRankerModel_meet_119 ?_
            refine lv_iload X.1.1 X.1.2.1 d_LoopRankerModel_meet_120 (lv_at hl 10 rfl) ?_
            refine lv_i2l X.1.1 X.1.2.1 d_LoopRankerModel_meet_122 rfl ?_
            refine lv_lload X.1.1 X.1.2.1 d_LoopRankerModel_meet_123 (lv_at hl 1 rfl) ?_
            refine lv_lmul X.1.1 X.1.2.1 d_LoopRankerModel_meet_125 ?_
            refine lv_ladd X.1.1 X.1.2.1 d_LoopRankerModel_meet_126 ?_
            refine lv_lstore X.1.1 X.1.2.1 d_LoopRankerModel_meet_127 hl (by decide) rfl (fun ls hl => ?_)
            have hl : lv_has ls 18 [(16, .long ((u.toInt64 * ax) + (v.toInt64 * ay))), (14, .long ay), (12, .long ax), (10, .long dd), (0, .ref h), (1, .int (nI t)), (2, .long px), (4, .long py), (6, .long den), (8, .int u), (9, .int v)] := hl
            refine lv_aload_n X.1.1 X.1.2.1 d_LoopRankerModel_meet_129 rfl (lv_at hl 4 rfl) ?_
            refine fg_LoopRankerModel_46 X hP 0 rfl rfl d_LoopRankerModel_meet_130 ?_
            refine wi0_eq (tgt := 154) X.1.1 X.1.2.1 d_LoopRankerModel_meet_133 (by decide) (fun h133 => ?_) (fun h133 => ?_)
            · refine lv_aload_n X.1.1 X.1.2.1 d_LoopRankerModel_meet_154 rfl (lv_at hl 4 rfl) ?_
              refine lv_iconst (v := (1 : Int32)) X.1.1 X.1.2.1 d_LoopRankerModel_meet_155 (by decide) ?_
              refine fp_LoopRankerModel_46 X hP hD hS 0 rfl rfl rfl rfl d_LoopRankerModel_meet_156 (fun H locs hP hD hS => ?_)
              have hP : va_P D cls (mW cI h m1 p1 q1 r1 w1 o1 f1 s1 nc my fp fq fr up (1 : Int32) top bot lv ol fi se x y fd) H := hP
              have hD : va_D A (mW cI h m1 p1 q1 r1 w1 o1 f1 s1 nc my fp fq fr up (1 : Int32) top bot lv ol fi se x y fd) := hD
              refine lv_aload_n X.1.1 X.1.2.1 d_LoopRankerModel_meet_159 rfl (lv_at hl 4 rfl) ?_
              refine lv_lload X.1.1 X.1.2.1 d_LoopRankerModel_meet_160 (lv_at hl 0 rfl) ?_
              refine fp_LoopRankerModel_54 X hP hD hS 0 rfl rfl rfl rfl d_LoopRankerModel_meet_162 (fun H locs hP hD hS => ?_)
              have hP : va_P D cls (mW cI h m1 p1 q1 r1 w1 o1 f1 s1 nc my fp fq fr up (1 : Int32) ((u.toInt64 * ax) + (v.toInt64 * ay)) bot lv ol fi se x y fd) H := hP
              have hD : va_D A (mW cI h m1 p1 q1 r1 w1 o1 f1 s1 nc my fp fq fr up (1 : Int32) ((u.toInt64 * ax) + (v.toInt64 * ay)) bot lv ol fi se x y fd) := hD
              refine lv_aload_n X.1.1 X.1.2.1 d_LoopRankerModel_meet_165 rfl (lv_at hl 4 rfl) ?_
              refine lv_lload X.1.1 X.1.2.1 d_LoopRankerModel_meet_166 (lv_at hl 3 rfl) ?_
              refine fp_LoopRankerModel_50 X hP hD hS 0 rfl rfl rfl rfl d_LoopRankerModel_meet_168 (fun H locs hP hD hS => ?_)
              have hP : va_P D cls (mW cI h m1 p1 q1 r1 w1 o1 f1 s1 nc my fp fq fr up (1 : Int32) ((u.toInt64 * ax) + (v.toInt64 * ay)) dd lv ol fi se x y fd) H := hP
              have hD : va_D A (mW cI h m1 p1 q1 r1 w1 o1 f1 s1 nc my fp fq fr up (1 : Int32) ((u.toInt64 * ax) + (v.toInt64 * ay)) dd lv ol fi se x y fd) := hD
              exact hret 171 H locs ls _ hP hD hS d_LoopRankerModel_meet_171 (by show _ = _; have hT : m_ck fp fq fr ax ay dd d (4 * t) = true := hE.symm; unfold m_mn m_mt; rw [← edd, ← eax, ← eay, if_pos hT]; simp [h66, h133])
            · refine lv_lload X.1.1 X.1.2.1 d_LoopRankerModel_meet_136 (lv_at hl 0 rfl) ?_
              refine lv_aload_n X.1.1 X.1.2.1 d_LoopRankerModel_meet_138 rfl (lv_at hl 4 rfl) ?_
              refine fg_LoopRankerModel_50 X hP 0 rfl rfl d_LoopRankerModel_meet_139 ?_
              refine lv_lmul X.1.1 X.1.2.1 d_LoopRankerModel_meet_142 ?_
              refine lv_aload_n X.1.1 X.1.2.1 d_LoopRankerModel_meet_143 rfl (lv_at hl 4 rfl) ?_
              refine fg_LoopRankerModel_54 X hP 0 rfl rfl d_LoopRankerModel_meet_144 ?_
              refine lv_lload X.1.1 X.1.2.1 d_LoopRankerModel_meet_147 (lv_at hl 3 rfl) ?_
              refine lv_lmul X.1.1 X.1.2.1 d_LoopRankerModel_meet_149 ?_
              refine wl_le (tgt := 171) X.1.1 X.1.2.1 d_LoopRankerModel_meet_150 d_LoopRankerModel_meet_151 (by decide) (fun h150 => ?_) (fun h150 => ?_)
              · exact hret 171 H locs ls _ hP hD hS d_LoopRankerModel_meet_171 (by show _ = _; have hT : m_ck fp fq fr ax ay dd d (4 * t) = true := hE.symm; unfold m_mn m_mt; rw [← edd, ← eax, ← eay, if_pos hT]; simp [h133, h150])
              · refine lv_aload_n X.1.1 X.1.2.1 d_LoopRankerModel_meet_154 rfl (lv_at hl 4 rfl) ?_
                refine lv_iconst (v := (1 : Int32)) X.1.1 X.1.2.1 d_LoopRankerModel_meet_155 (by decide) ?_
                refine fp_LoopRankerModel_46 X hP hD hS 0 rfl rfl rfl rfl d_LoopRankerModel_meet_156 (fun H locs hP hD hS => ?_)
                have hP : va_P D cls (mW cI h m1 p1 q1 r1 w1 o1 f1 s1 nc my fp fq fr up (1 : Int32) top bot lv ol fi se x y fd) H := hP
                have hD : va_D A (mW cI h m1 p1 q1 r1 w1 o1 f1 s1 nc my fp fq fr up (1 : Int32) top bot lv ol fi se x y fd) := hD
                refine lv_aload_n X.1.1 X.1.2.1 d_LoopRankerModel_meet_159 rfl (lv_at hl 4 rfl) ?_
                refine lv_lload X.1.1 X.1.2.1 d_LoopRankerModel_meet_160 (lv_at hl 0 rfl) ?_
                refine fp_LoopRankerModel_54 X hP hD hS 0 rfl rfl rfl rfl d_LoopRankerModel_meet_162 (fun H locs hP hD hS => ?_)
                have hP : va_P D cls (mW cI h m1 p1 q1 r1 w1 o1 f1 s1 nc my fp fq fr up (1 : Int32) ((u.toInt64 * ax) + (v.toInt64 * ay)) bot lv ol fi se x y fd) H := hP
                have hD : va_D A (mW cI h m1 p1 q1 r1 w1 o1 f1 s1 nc my fp fq fr up (1 : Int32) ((u.toInt64 * ax) + (v.toInt64 * ay)) bot lv ol fi se x y fd) := hD
                refine lv_aload_n X.1.1 X.1.2.1 d_LoopRankerModel_meet_165 rfl (lv_at hl 4 rfl) ?_
                refine lv_lload X.1.1 X.1.2.1 d_LoopRankerModel_meet_166 (lv_at hl 3 rfl) ?_
                refine fp_LoopRankerModel_50 X hP hD hS 0 rfl rfl rfl rfl d_LoopRankerModel_meet_168 (fun H locs hP hD hS => ?_)
                have hP : va_P D cls (mW cI h m1 p1 q1 r1 w1 o1 f1 s1 nc my fp fq fr up (1 : Int32) ((u.toInt64 * ax) + (v.toInt64 * ay)) dd lv ol fi se x y fd) H := hP
                have hD : va_D A (mW cI h m1 p1 q1 r1 w1 o1 f1 s1 nc my fp fq fr up (1 : Int32) ((u.toInt64 * ax) + (v.toInt64 * ay)) dd lv ol fi se x y fd) := hD
                exact hret 171 H locs ls _ hP hD hS d_LoopRankerModel_meet_171 (by show _ = _; have hT : m_ck fp fq fr ax ay dd d (4 * t) = true := hE.symm; unfold m_mn m_mt; rw [← edd, ← eax, ← eay, if_pos hT]; simp [h133, h150])
          | succ k54 ih54 =>
            intro i ls H locs hik hE hl hP hD hS
            refine lv_iload X.1.1 X.1.2.1 d_LoopRankerModel_meet_54 (lv_at hl 0 rfl) ?_
            refine lv_iconst (v := (4 : Int32)) X.1.1 X.1.2.1 d_LoopRankerModel_meet_56 (by decide) ?_
            refine lv_iload_n X.1.1 X.1.2.1 d_LoopRankerModel_meet_57 rfl (lv_at hl 5 rfl) ?_
            refine wn_mul (a := 4) (b := t) X.1.1 X.1.2.1 d_LoopRankerModel_meet_58 ?_
            refine lv_aload_n X.1.1 X.1.2.1 d_LoopRankerModel_meet_59 rfl (lv_at hl 4 rfl) ?_
            refine fg_LoopRankerModel_7 X hP 0 rfl rfl d_LoopRankerModel_meet_60 ?_
            refine lv_iload_n X.1.1 X.1.2.1 d_LoopRankerModel_meet_63 rfl (lv_at hl 5 rfl) ?_
            refine wa_ild X.1.1 X.1.2.1 X.2.1 hP 1 0 rfl rfl t rfl (by omega) (by decide) d_LoopRankerModel_meet_64 ?_
            refine wn_top hm ?_
            refine wn_add (a := 4 * t) (b := d) X.1.1 X.1.2.1 d_LoopRankerModel_meet_65 ?_
            refine wn_ge (a := i) (b := 4 * t + d) (tgt := 114) X.1.1 X.1.2.1 d_LoopRankerModel_meet_66 (by decide) (by omega) (by omega) (fun h66 => by exfalso; omega) (fun h66 => ?_)
            refine lv_aload_n X.1.1 X.1.2.1 d_LoopRankerModel_meet_69 rfl (lv_at hl 4 rfl) ?_
            refine fg_LoopRankerModel_13 X hP 0 rfl rfl d_LoopRankerModel_meet_70 ?_
            refine lv_iload X.1.1 X.1.2.1 d_LoopRankerModel_meet_73 (lv_at hl 0 rfl) ?_
            refine wa_ild X.1.1 X.1.2.1 X.2.1 hP 2 0 rfl rfl i rfl (by omega) (by decide) d_LoopRankerModel_meet_75 ?_
            refine lv_i2l X.1.1 X.1.2.1 d_LoopRankerModel_meet_76 rfl ?_
            refine lv_lload X.1.1 X.1.2.1 d_LoopRankerModel_meet_77 (lv_at hl 2 rfl) ?_
            refine lv_lmul X.1.1 X.1.2.1 d_LoopRankerModel_meet_79 ?_
            refine lv_aload_n X.1.1 X.1.2.1 d_LoopRankerModel_meet_80 rfl (lv_at hl 4 rfl) ?_
            refine fg_LoopRankerModel_16 X hP 0 rfl rfl d_LoopRankerModel_meet_81 ?_
            refine lv_iload X.1.1 X.1.2.1 d_LoopRankerModel_meet_84 (lv_at hl 0 rfl) ?_
            refine wa_ild X.1.1 X.1.2.1 X.2.1 hP 3 0 rfl rfl i rfl (by omega) (by decide) d_LoopRankerModel_meet_86 ?_
            refine lv_i2l X.1.1 X.1.2.1 d_LoopRankerModel_meet_87 rfl ?_
            refine lv_lload X.1.1 X.1.2.1 d_LoopRankerModel_meet_88 (lv_at hl 1 rfl) ?_
            refine lv_lmul X.1.1 X.1.2.1 d_LoopRankerModel_meet_90 ?_
            refine lv_ladd X.1.1 X.1.2.1 d_LoopRankerModel_meet_91 ?_
            refine lv_aload_n X.1.1 X.1.2.1 d_LoopRankerModel_meet_92 rfl (lv_at hl 4 rfl) ?_
            refine fg_LoopRankerModel_19 X hP 0 rfl rfl d_LoopRankerModel_meet_93 ?_
            refine lv_iload X.1.1 X.1.2.1 d_LoopRankerModel_meet_96 (lv_at hl 0 rfl) ?_
            refine wa_ild X.1.1 X.1.2.1 X.2.1 hP 4 0 rfl rfl i rfl (by omega) (by decide) d_LoopRankerModel_meet_98 ?_
            refine lv_i2l X.1.1 X.1.2.1 d_LoopRankerModel_meet_99 rfl ?_
            refine lv_lload X.1.1 X.1.2.1 d_LoopRankerModel_meet_100 (lv_at hl 3 rfl) ?_
            refine lv_lmul X.1.1 X.1.2.1 d_LoopRankerModel_meet_102 ?_
            refine wl_le (tgt := 108) X.1.1 X.1.2.1 d_LoopRankerModel_meet_103 d_LoopRankerModel_meet_104 (by decide) (fun h103 => ?_) (fun h103 => ?_)
            · refine lv_iinc (k := 0) (v := nI (i + 1)) X.1.1 X.1.2.1 d_LoopRankerModel_meet_108 hl rfl (nI_1 i) (by decide) rfl (fun ls hl => ?_)
              have hl : lv_has ls 18 [(16, .int (nI (i + 1))), (14, .long ay), (12, .long ax), (10, .long dd), (0, .ref h), (1, .int (nI t)), (2, .long px), (4, .long py), (6, .long den), (8, .int u), (9, .int v)] := hl
              refine lv_goto (tgt := 54) X.1.1 X.1.2.1 d_LoopRankerModel_meet_111 (by decide) ?_
              exact ih54 (i + 1) ls H locs (by omega) (by rw [← hE]; exact (if_neg h103).symm) (lv_sub hl [0, 1, 2, 3, 4, 5, 6, 7, 8, 9, 10] rfl) hP hD hS
            · exact hret 107 H locs ls _ hP hD hS d_LoopRankerModel_meet_107 (by show _ = _; rw [show m_mn fp fq fr (4 * t) d u v px py den (sm, top, bot) = (sm, top, bot) from by unfold m_mn m_mt; rw [← edd, ← eax, ← eay, if_neg]; rw [← hE]; intro z; rw [show m_ck fp fq fr ax ay dd (k54 + 1) i = false from if_pos h103] at z; cases z])
        exact lp54 d (4 * t) ls H locs (by omega) (rfl) (lv_sub hl [0, 1, 2, 3, 4, 5, 6, 7, 8, 9, 10] rfl) hP hD hS
      refine wl_ge (tgt := 45) X.1.1 X.1.2.1 d_LoopRankerModel_meet_35 d_LoopRankerModel_meet_36 (by decide) (fun h35 => ?_) (fun h35 => ?_)
      · refine lv_lload X.1.1 X.1.2.1 d_LoopRankerModel_meet_45 (lv_at hl 5 rfl) ?_
        exact jn47 _ H locs (by simp [h35]) hP hS
      · refine lv_lload X.1.1 X.1.2.1 d_LoopRankerModel_meet_39 (lv_at hl 5 rfl) ?_
        refine lv_lneg X.1.1 X.1.2.1 d_LoopRankerModel_meet_41 ?_
        refine lv_goto (tgt := 47) X.1.1 X.1.2.1 d_LoopRankerModel_meet_42 (by decide) ?_
        exact jn47 _ H locs (by simp [h35]) hP hS
    refine wl_ge (tgt := 29) X.1.1 X.1.2.1 d_LoopRankerModel_meet_20 d_LoopRankerModel_meet_21 (by decide) (fun h20 => ?_) (fun h20 => ?_)
    · refine lv_lload_n X.1.1 X.1.2.1 d_LoopRankerModel_meet_29 rfl (lv_at hl 3 rfl) ?_
      exact jn30 _ H locs (by simp [h20]) hP hS
    · refine lv_lload_n X.1.1 X.1.2.1 d_LoopRankerModel_meet_24 rfl (lv_at hl 3 rfl) ?_
      refine lv_lneg X.1.1 X.1.2.1 d_LoopRankerModel_meet_25 ?_
      refine lv_goto (tgt := 30) X.1.1 X.1.2.1 d_LoopRankerModel_meet_26 (by decide) ?_
      exact jn30 _ H locs (by simp [h20]) hP hS
  refine wl_ge (tgt := 13) X.1.1 X.1.2.1 d_LoopRankerModel_meet_3 d_LoopRankerModel_meet_4 (by decide) (fun h3 => ?_) (fun h3 => ?_)
  · refine lv_lload X.1.1 X.1.2.1 d_LoopRankerModel_meet_13 (lv_at hl 4 rfl) ?_
    exact jn15 _ H locs (by simp [h3]) hP hS
  · refine lv_lload X.1.1 X.1.2.1 d_LoopRankerModel_meet_7 (lv_at hl 4 rfl) ?_
    refine lv_lneg X.1.1 X.1.2.1 d_LoopRankerModel_meet_9 ?_
    refine lv_goto (tgt := 15) X.1.1 X.1.2.1 d_LoopRankerModel_meet_10 (by decide) ?_
    exact jn15 _ H locs (by simp [h3]) hP hS
set_option maxHeartbeats 4000000 in
set_option maxRecDepth 100000 in
theorem c_LoopRankerModel_look (h m1 p1 q1 r1 w1 o1 f1 s1 : Nat) (nc : Nat) (my fp fq fr up : Nat → Int32) (sm : Int32) (top bot : Int64) (lv : Nat) (ol fi se : Nat → Int32) (x y : Int64) (fd : Int32) (t : Nat) (u v : Int32) (d : Nat) (hm : my t = nI d) (ht : t < 6) (hd : d ≤ 4) : wk_kv l y_LoopRankerModel_look (Cond.code y_LoopRankerModel_look b_LoopRankerModel_look 8 none :: BW) rm_LoopRankerModel_look D cls (kT cI cJ cS) nz [.ref h, .int (nI t), .int u, .int v] (mW cI h m1 p1 q1 r1 w1 o1 f1 s1 nc my fp fq fr up sm top bot lv ol fi se x y fd) (fun wz => wz = mW cI h m1 p1 q1 r1 w1 o1 f1 s1 nc my fp fq fr up ((m_lk fp fq fr (4 * t) d u v).1) ((m_lk fp fq fr (4 * t) d u v).2.1) ((m_lk fp fq fr (4 * t) d u v).2.2) lv ol fi se x y fd) := by
  refine ws_v (plainFor_of_name (by decide)) (Nat.le_of_ble_eq_true rfl) ?_
  intro p e s m below meth c A ls Q X hret hl hP hD hS
  obtain ⟨H, hH⟩ : ∃ H, H = s.heap := ⟨_, rfl⟩
  obtain ⟨locs, hlo⟩ : ∃ locs : List Loc, locs = [] := ⟨_, rfl⟩
  have hP : va_P D cls (mW cI h m1 p1 q1 r1 w1 o1 f1 s1 nc my fp fq fr up sm top bot lv ol fi se x y fd) H := by rw [hH]; exact hP
  have hS : va_S A s.heap H locs := by rw [hH, hlo]; exact hS
  suffices hgo : W p l e rm_LoopRankerModel_look s m ([.ref h, .int (nI t), .int u, .int v] : List Value).toArray below meth c H locs 0 0 Q (F0 m 0 ls ([])) by rw [hH, hlo] at hgo; exact hgo
  clear hH hlo
  have hl : lv_has ls 8 [(0, .ref h), (1, .int (nI t)), (2, .int u), (3, .int v)] := hl
  refine lv_aload_n X.1.1 X.1.2.1 d_LoopRankerModel_look_0 rfl (lv_at hl 0 rfl) ?_
  refine lv_iconst (v := (0 : Int32)) X.1.1 X.1.2.1 d_LoopRankerModel_look_1 (by decide) ?_
  refine fp_LoopRankerModel_46 X hP hD hS 0 rfl rfl rfl rfl d_LoopRankerModel_look_2 (fun H locs hP hD hS => ?_)
  have hP : va_P D cls (mW cI h m1 p1 q1 r1 w1 o1 f1 s1 nc my fp fq fr up (0 : Int32) top bot lv ol fi se x y fd) H := hP
  have hD : va_D A (mW cI h m1 p1 q1 r1 w1 o1 f1 s1 nc my fp fq fr up (0 : Int32) top bot lv ol fi se x y fd) := hD
  refine lv_aload_n X.1.1 X.1.2.1 d_LoopRankerModel_look_5 rfl (lv_at hl 0 rfl) ?_
  refine lv_lconst (v := 0) X.1.1 X.1.2.1 d_LoopRankerModel_look_6 (by decide) ?_
  refine fp_LoopRankerModel_54 X hP hD hS 0 rfl rfl rfl rfl d_LoopRankerModel_look_7 (fun H locs hP hD hS => ?_)
  have hP : va_P D cls (mW cI h m1 p1 q1 r1 w1 o1 f1 s1 nc my fp fq fr up (0 : Int32) (0 : Int64) bot lv ol fi se x y fd) H := hP
  have hD : va_D A (mW cI h m1 p1 q1 r1 w1 o1 f1 s1 nc my fp fq fr up (0 : Int32) (0 : Int64) bot lv ol fi se x y fd) := hD
  refine lv_aload_n X.1.1 X.1.2.1 d_LoopRankerModel_look_10 rfl (lv_at hl 0 rfl) ?_
  refine lv_lconst (v := 1) X.1.1 X.1.2.1 d_LoopRankerModel_look_11 (by decide) ?_
  refine fp_LoopRankerModel_50 X hP hD hS 0 rfl rfl rfl rfl d_LoopRankerModel_look_12 (fun H locs hP hD hS => ?_)
  have hP : va_P D cls (mW cI h m1 p1 q1 r1 w1 o1 f1 s1 nc my fp fq fr up (0 : Int32) (0 : Int64) (1 : Int64) lv ol fi se x y fd) H := hP
  have hD : va_D A (mW cI h m1 p1 q1 r1 w1 o1 f1 s1 nc my fp fq fr up (0 : Int32) (0 : Int64) (1 : Int64) lv ol fi se x y fd) := hD
  refine lv_aload_n X.1.1 X.1.2.1 d_LoopRankerModel_look_15 rfl (lv_at hl 0 rfl) ?_
  refine lv_iload_n X.1.1 X.1.2.1 d_LoopRankerModel_look_16 rfl (lv_at hl 1 rfl) ?_
  refine lv_lconst (v := 0) X.1.1 X.1.2.1 d_LoopRankerModel_look_17 (by decide) ?_
  refine lv_lconst (v := 0) X.1.1 X.1.2.1 d_LoopRankerModel_look_18 (by decide) ?_
  refine lv_lconst (v := 1) X.1.1 X.1.2.1 d_LoopRankerModel_look_19 (by decide) ?_
  refine lv_iload_n X.1.1 X.1.2.1 d_LoopRankerModel_look_20 rfl (lv_at hl 2 rfl) ?_
  refine lv_iload_n X.1.1 X.1.2.1 d_LoopRankerModel_look_21 rfl (lv_at hl 3 rfl) ?_
  refine wc_Vv [.int (nI t), .long (0 : Int64), .long (0 : Int64), .long (1 : Int64), .int u, .int v] 4 0 X nz_nest (c_LoopRankerModel_meet h m1 p1 q1 r1 w1 o1 f1 s1 nc my fp fq fr up (0 : Int32) (0 : Int64) (1 : Int64) lv ol fi se x y fd t (0 : Int64) (0 : Int64) (1 : Int64) u v d hm ht hd) (cw_LoopRankerModel_57 X.1.2.2.2.2 X.2.2.1 (by decide)) ([]) ([]) (rfl) hP hD hS rfl rfl rfl rfl hl.1 (Nat.le_of_ble_eq_true rfl) (by decide) d_LoopRankerModel_look_22 (fun H locs wn hwn hP hD hS => ?_)
  subst hwn
  have hP : va_P D cls (mW cI h m1 p1 q1 r1 w1 o1 f1 s1 nc my fp fq fr up ((m_mn fp fq fr (4 * t) d u v (0 : Int64) (0 : Int64) (1 : Int64) ((0 : Int32), (0 : Int64), (1 : Int64))).1) ((m_mn fp fq fr (4 * t) d u v (0 : Int64) (0 : Int64) (1 : Int64) ((0 : Int32), (0 : Int64), (1 : Int64))).2.1) ((m_mn fp fq fr (4 * t) d u v (0 : Int64) (0 : Int64) (1 : Int64) ((0 : Int32), (0 : Int64), (1 : Int64))).2.2) lv ol fi se x y fd) H := hP
  have hD : va_D A (mW cI h m1 p1 q1 r1 w1 o1 f1 s1 nc my fp fq fr up ((m_mn fp fq fr (4 * t) d u v (0 : Int64) (0 : Int64) (1 : Int64) ((0 : Int32), (0 : Int64), (1 : Int64))).1) ((m_mn fp fq fr (4 * t) d u v (0 : Int64) (0 : Int64) (1 : Int64) ((0 : Int32), (0 : Int64), (1 : Int64))).2.1) ((m_mn fp fq fr (4 * t) d u v (0 : Int64) (0 : Int64) (1 : Int64) ((0 : Int32), (0 : Int64), (1 : Int64))).2.2) lv ol fi se x y fd) := hD
  refine lv_iconst (v := (4 : Int32)) X.1.1 X.1.2.1 d_LoopRankerModel_look_25 (by decide) ?_
  refine lv_iload_n X.1.1 X.1.2.1 d_LoopRankerModel_look_26 rfl (lv_at hl 1 rfl) ?_
  refine wn_mul (a := 4) (b := t) X.1.1 X.1.2.1 d_LoopRankerModel_look_27 ?_
  refine lv_istore X.1.1 X.1.2.1 d_LoopRankerModel_look_28 hl (by decide) rfl (fun ls hl => ?_)
  have hl : lv_has ls 8 [(4, .int (nI (4 * t))), (0, .ref h), (1, .int (nI t)), (2, .int u), (3, .int v)] := hl
  have lp30 : ∀ (k30 : Nat) (i : Nat) (sm : Int32) (top : Int64) (bot : Int64) (ls : Array Slot) (H : Heap) (locs : List Loc), i + k30 = 4 * t + d → 4 * t ≤ i → m_lu fp fq fr (4 * t) d u v k30 i (sm, top, bot) = m_lk fp fq fr (4 * t) d u v → lv_has ls 8 [(4, .int (nI i)), (0, .ref h), (1, .int (nI t)), (2, .int u), (3, .int v)] → va_P D cls (mW cI h m1 p1 q1 r1 w1 o1 f1 s1 nc my fp fq fr up sm top bot lv ol fi se x y fd) H → va_D A (mW cI h m1 p1 q1 r1 w1 o1 f1 s1 nc my fp fq fr up sm top bot lv ol fi se x y fd) → va_S A s.heap H locs → W p l e rm_LoopRankerModel_look s m ([.ref h, .int (nI t), .int u, .int v] : List Value).toArray below meth c H locs 0 0 Q (F0 m 30 ls ([])) := by
    intro k30
    induction k30 with
    | zero =>
      intro i sm top bot ls H locs hik hi0 hE hl hP hD hS
      refine lv_iload X.1.1 X.1.2.1 d_LoopRankerModel_look_30 (lv_at hl 0 rfl) ?_
      refine lv_iconst (v := (4 : Int32)) X.1.1 X.1.2.1 d_LoopRankerModel_look_32 (by decide) ?_
      refine lv_iload_n X.1.1 X.1.2.1 d_LoopRankerModel_look_33 rfl (lv_at hl 2 rfl) ?_
      refine wn_mul (a := 4) (b := t) X.1.1 X.1.2.1 d_LoopRankerModel_look_34 ?_
      refine lv_aload_n X.1.1 X.1.2.1 d_LoopRankerModel_look_35 rfl (lv_at hl 1 rfl) ?_
      refine fg_LoopRankerModel_7 X hP 0 rfl rfl d_LoopRankerModel_look_36 ?_
      refine lv_iload_n X.1.1 X.1.2.1 d_LoopRankerModel_look_39 rfl (lv_at hl 2 rfl) ?_
      refine wa_ild X.1.1 X.1.2.1 X.2.1 hP 1 0 rfl rfl t rfl (by omega) (by decide) d_LoopRankerModel_look_40 ?_
      refine wn_top hm ?_
      refine wn_add (a := 4 * t) (b := d) X.1.1 X.1.2.1 d_LoopRankerModel_look_41 ?_
      refine wn_ge (a := i) (b := 4 * t + d) (tgt := 261) X.1.1 X.1.2.1 d_LoopRankerModel_look_42 (by decide) (by omega) (by omega) (fun h42 => ?_) (fun h42 => by exfalso; omega)
      exact hret 261 H locs ls _ hP hD hS d_LoopRankerModel_look_261 (by show _ = _; rw [← hE]; rfl)
    | succ k30 ih30 =>
      intro i sm top bot ls H locs hik hi0 hE hl hP hD hS
      refine lv_iload X.1.1 X.1.2.1 d_LoopRankerModel_look_30 (lv_at hl 0 rfl) ?_
      refine lv_iconst (v := (4 : Int32)) X.1.1 X.1.2.1 d_LoopRankerModel_look_32 (by decide) ?_
      refine lv_iload_n X.1.1 X.1.2.1 d_LoopRankerModel_look_33 rfl (lv_at hl 2 rfl) ?_
      refine wn_mul (a := 4) (b := t) X.1.1 X.1.2.1 d_LoopRankerModel_look_34 ?_
      refine lv_aload_n X.1.1 X.1.2.1 d_LoopRankerModel_look_35 rfl (lv_at hl 1 rfl) ?_
      refine fg_LoopRankerModel_7 X hP 0 rfl rfl d_LoopRankerModel_look_36 ?_
      refine lv_iload_n X.1.1 X.1.2.1 d_LoopRankerModel_look_39 rfl (lv_at hl 2 rfl) ?_
      refine wa_ild X.1.1 X.1.2.1 X.2.1 hP 1 0 rfl rfl t rfl (by omega) (by decide) d_LoopRankerModel_look_40 ?_
      refine wn_top hm ?_
      refine wn_add (a := 4 * t) (b := d) X.1.1 X.1.2.1 d_LoopRankerModel_look_41 ?_
      refine wn_ge (a := i) (b := 4 * t + d) (tgt := 261) X.1.1 X.1.2.1 d_LoopRankerModel_look_42 (by decide) (by omega) (by omega) (fun h42 => by exfalso; omega) (fun h42 => ?_)
      refine lv_aload_n X.1.1 X.1.2.1 d_LoopRankerModel_look_45 rfl (lv_at hl 1 rfl) ?_
      refine fg_LoopRankerModel_13 X hP 0 rfl rfl d_LoopRankerModel_look_46 ?_
      refine lv_iload X.1.1 X.1.2.1 d_LoopRankerModel_look_49 (lv_at hl 0 rfl) ?_
      refine wa_ild X.1.1 X.1.2.1 X.2.1 hP 2 0 rfl rfl i rfl (by omega) (by decide) d_LoopRankerModel_look_51 ?_
      refine lv_aload_n X.1.1 X.1.2.1 d_LoopRankerModel_look_52 rfl (lv_at hl 1 rfl) ?_
      refine fg_LoopRankerModel_13 X hP 0 rfl rfl d_LoopRankerModel_look_53 ?_
      refine lv_iload X.1.1 X.1.2.1 d_LoopRankerModel_look_56 (lv_at hl 0 rfl) ?_
      refine wa_ild X.1.1 X.1.2.1 X.2.1 hP 2 0 rfl rfl i rfl (by omega) (by decide) d_LoopRankerModel_look_58 ?_
      refine lv_imul X.1.1 X.1.2.1 d_LoopRankerModel_look_59 ?_
      refine lv_aload_n X.1.1 X.1.2.1 d_LoopRankerModel_look_60 rfl (lv_at hl 1 rfl) ?_
      refine fg_LoopRankerModel_16 X hP 0 rfl rfl d_LoopRankerModel_look_61 ?_
      refine lv_iload X.1.1 X.1.2.1 d_LoopRankerModel_look_64 (lv_at hl 0 rfl) ?_
      refine wa_ild X.1.1 X.1.2.1 X.2.1 hP 3 0 rfl rfl i rfl (by omega) (by decide) d_LoopRankerModel_look_66 ?_
      refine lv_aload_n X.1.1 X.1.2.1 d_LoopRankerModel_look_67 rfl (lv_at hl 1 rfl) ?_
      refine fg_LoopRankerModel_16 X hP 0 rfl rfl d_LoopRankerModel_look_68 ?_
      refine lv_iload X.1.1 X.1.2.1 d_LoopRankerModel_look_71 (lv_at hl 0 rfl) ?_
      refine wa_ild X.1.1 X.1.2.1 X.2.1 hP 3 0 rfl rfl i rfl (by omega) (by decide) d_LoopRankerModel_look_73 ?_
      refine lv_imul X.1.1 X.1.2.1 d_LoopRankerModel_look_74 ?_
      refine lv_iadd X.1.1 X.1.2.1 d_LoopRankerModel_look_75 ?_
      refine lv_istore X.1.1 X.1.2.1 d_LoopRankerModel_look_76 hl (by decide) rfl (fun ls hl => ?_)
      have hl : lv_has ls 8 [(5, .int (((fp i) * (fp i)) + ((fq i) * (fq i)))), (4, .int (nI i)), (0, .ref h), (1, .int (nI t)), (2, .int u), (3, .int v)] := hl
      refine lv_iload X.1.1 X.1.2.1 d_LoopRankerModel_look_78 (lv_at hl 0 rfl) ?_
      have mg125 : ∀ (sm2 : Int32) (t2 : Int64) (b2 : Int64) (ls : Array Slot) (H : Heap) (locs : List Loc), (sm2, t2, b2) = m_fo fp fq fr (4 * t) d u v i (sm, top, bot) → lv_has ls 8 [(4, .int (nI i)), (0, .ref h), (1, .int (nI t)), (2, .int u), (3, .int v)] → va_P D cls (mW cI h m1 p1 q1 r1 w1 o1 f1 s1 nc my fp fq fr up sm2 t2 b2 lv ol fi se x y fd) H → va_D A (mW cI h m1 p1 q1 r1 w1 o1 f1 s1 nc my fp fq fr up sm2 t2 b2 lv ol fi se x y fd) → va_S A s.heap H locs → W p l e rm_LoopRankerModel_look s m ([.ref h, .int (nI t), .int u, .int v] : List Value).toArray below meth c H locs 0 0 Q (F0 m 125 ls ([])) := by
        intro sm2 t2 b2 ls H locs eM hl hP hD hS
        refine lv_iconst (v := (4 : Int32)) X.1.1 X.1.2.1 d_LoopRankerModel_look_125 (by decide) ?_
        refine lv_iload_n X.1.1 X.1.2.1 d_LoopRankerModel_look_126 rfl (lv_at hl 2 rfl) ?_
        refine wn_mul (a := 4) (b := t) X.1.1 X.1.2.1 d_LoopRankerModel_look_127 ?_
        refine lv_istore X.1.1 X.1.2.1 d_LoopRankerModel_look_128 hl (by decide) rfl (fun ls hl => ?_)
        have hl : lv_has ls 8 [(6, .int (nI (4 * t))), (4, .int (nI i)), (0, .ref h), (1, .int (nI t)), (2, .int u), (3, .int v)] := hl
        have lp130 : ∀ (k130 : Nat) (j : Nat) (sm3 : Int32) (t3 : Int64) (b3 : Int64) (ls : Array Slot) (H : Heap) (locs : List Loc), j + k130 = i → 4 * t ≤ j → m_li fp fq fr (4 * t) d u v i k130 j (sm3, t3, b3) = m_li fp fq fr (4 * t) d u v i (i - 4 * t) (4 * t) (sm2, t2, b2) → lv_has ls 8 [(6, .int (nI j)), (4, .int (nI i)), (0, .ref h), (1, .int (nI t)), (2, .int u), (3, .int v)] → va_P D cls (mW cI h m1 p1 q1 r1 w1 o1 f1 s1 nc my fp fq fr up sm3 t3 b3 lv ol fi se x y fd) H → va_D A (mW cI h m1 p1 q1 r1 w1 o1 f1 s1 nc my fp fq fr up sm3 t3 b3 lv ol fi se x y fd) → va_S A s.heap H locs → W p l e rm_LoopRankerModel_look s m ([.ref h, .int (nI t), .int u, .int v] : List Value).toArray below meth c H locs 0 0 Q (F0 m 130 ls ([])) := by
          intro k130
          induction k130 with
          | zero =>
            intro j sm3 t3 b3 ls H locs hjk hj0 hE3 hl hP hD hS
            refine lv_iload X.1.1 X.1.2.1 d_LoopRankerModel_look_130 (lv_at hl 0 rfl) ?_
            refine lv_iload X.1.1 X.1.2.1 d_LoopRankerModel_look_132 (lv_at hl 1 rfl) ?_
            refine wn_ge (a := j) (b := i) (tgt := 255) X.1.1 X.1.2.1 d_LoopRankerModel_look_134 (by decide) (by omega) (by omega) (fun h134 => ?_) (fun h134 => by exfalso; omega)
            refine lv_iinc (k := 1) (v := nI (i + 1)) X.1.1 X.1.2.1 d_LoopRankerModel_look_255 hl rfl (nI_1 i) (by decide) rfl (fun ls hl => ?_)
            have hl : lv_has ls 8 [(4, .int (nI (i + 1))), (6, .int (nI j)), (0, .ref h), (1, .int (nI t)), (2, .int u), (3, .int v)] := hl
            refine lv_goto (tgt := 30) X.1.1 X.1.2.1 d_LoopRankerModel_look_258 (by decide) ?_
            exact ih30 (i + 1) sm3 t3 b3 ls H locs (by omega) (by omega) (by rw [show (sm3, t3, b3) = _ from hE3, eM]; exact hE) (lv_sub hl [0, 2, 3, 4, 5] rfl) hP hD hS
          | succ k130 ih130 =>
            intro j sm3 t3 b3 ls H locs hjk hj0 hE3 hl hP hD hS
            refine lv_iload X.1.1 X.1.2.1 d_LoopRankerModel_look_130 (lv_at hl 0 rfl) ?_
            refine lv_iload X.1.1 X.1.2.1 d_LoopRankerModel_look_132 (lv_at hl 1 rfl) ?_
            refine wn_ge (a := j) (b := i) (tgt := 255) X.1.1 X.1.2.1 d_LoopRankerModel_look_134 (by decide) (by omega) (by omega) (fun h134 => by exfalso; omega) (fun h134 => ?_)
            refine lv_aload_n X.1.1 X.1.2.1 d_LoopRankerModel_look_137 rfl (lv_at hl 2 rfl) ?_
            refine fg_LoopRankerModel_13 X hP 0 rfl rfl d_LoopRankerModel_look_138 ?_
            refine lv_iload X.1.1 X.1.2.1 d_LoopRankerModel_look_141 (lv_at hl 1 rfl) ?_
            refine wa_ild X.1.1 X.1.2.1 X.2.1 hP 2 0 rfl rfl i rfl (by omega) (by decide) d_LoopRankerModel_look_143 ?_
            refine lv_aload_n X.1.1 X.1.2.1 d_LoopRankerModel_look_144 rfl (lv_at hl 2 rfl) ?_
            refine fg_LoopRankerModel_16 X hP 0 rfl rfl d_LoopRankerModel_look_145 ?_
            refine lv_iload X.1.1 X.1.2.1 d_LoopRankerModel_look_148 (lv_at hl 0 rfl) ?_
            refine wa_ild X.1.1 X.1.2.1 X.2.1 hP 3 0 rfl rfl j rfl (by omega) (by decide) d_LoopRankerModel_look_150 ?_
            refine lv_imul X.1.1 X.1.2.1 d_LoopRankerModel_look_151 ?_
            refine lv_aload_n X.1.1 X.1.2.1 d_LoopRankerModel_look_152 rfl (lv_at hl 2 rfl) ?_
            refine fg_LoopRankerModel_13 X hP 0 rfl rfl d_LoopRankerModel_look_153 ?_
            refine lv_iload X.1.1 X.1.2.1 d_LoopRankerModel_look_156 (lv_at hl 0 rfl) ?_
            refine wa_ild X.1.1 X.1.2.1 X.2.1 hP 2 0 rfl rfl j rfl (by omega) (by decide) d_LoopRankerModel_look_158 ?_
            refine lv_aload_n X.1.1 X.1.2.1 d_LoopRankerModel_look_159 rfl (lv_at hl 2 rfl) ?_
            refine fg_LoopRankerModel_16 X hP 0 rfl rfl d_LoopRankerModel_look_160 ?_
            refine lv_iload X.1.1 X.1.2.1 d_LoopRankerModel_look_163 (lv_at hl 1 rfl) ?_
            refine wa_ild X.1.1 X.1.2.1 X.2.1 hP 3 0 rfl rfl i rfl (by omega) (by decide) d_LoopRankerModel_look_165 ?_
            refine lv_imul X.1.1 X.1.2.1 d_LoopRankerModel_look_166 ?_
            refine lv_isub X.1.1 X.1.2.1 d_LoopRankerModel_look_167 ?_
            refine lv_istore X.1.1 X.1.2.1 d_LoopRankerModel_look_168 hl (by decide) rfl (fun ls hl => ?_)
            have hl : lv_has ls 8 [(7, .int (((fp i) * (fq j)) - ((fp j) * (fq i)))), (6, .int (nI j)), (4, .int (nI i)), (0, .ref h), (1, .int (nI t)), (2, .int u), (3, .int v)] := hl
            refine lv_iload X.1.1 X.1.2.1 d_LoopRankerModel_look_170 (lv_at hl 0 rfl) ?_
            refine wi0_eq (tgt := 249) X.1.1 X.1.2.1 d_LoopRankerModel_look_172 (by decide) (fun h172 => ?_) (fun h172 => ?_)
            · refine lv_iinc (k := 1) (v := nI (j + 1)) X.1.1 X.1.2.1 d_LoopRankerModel_look_249 hl rfl (nI_1 j) (by decide) rfl (fun ls hl => ?_)
              have hl : lv_has ls 8 [(6, .int (nI (j + 1))), (7, .int (((fp i) * (fq j)) - ((fp j) * (fq i)))), (4, .int (nI i)), (0, .ref h), (1, .int (nI t)), (2, .int u), (3, .int v)] := hl
              refine lv_goto (tgt := 130) X.1.1 X.1.2.1 d_LoopRankerModel_look_252 (by decide) ?_
              exact ih130 (j + 1) _ _ _ ls H locs (by omega) (by omega) (by rw [← hE3]; show _ = m_li fp fq fr (4 * t) d u v i _ (j + 1) (m_co fp fq fr (4 * t) d u v i j (sm3, t3, b3)); simp [m_co, h172]) (lv_sub hl [0, 2, 3, 4, 5, 6] rfl) hP hD hS
            · refine lv_aload_n X.1.1 X.1.2.1 d_LoopRankerModel_look_175 rfl (lv_at hl 3 rfl) ?_
              refine lv_iload_n X.1.1 X.1.2.1 d_LoopRankerModel_look_176 rfl (lv_at hl 4 rfl) ?_
              refine lv_aload_n X.1.1 X.1.2.1 d_LoopRankerModel_look_177 rfl (lv_at hl 3 rfl) ?_
              refine fg_LoopRankerModel_19 X hP 0 rfl rfl d_LoopRankerModel_look_178 ?_
              refine lv_iload X.1.1 X.1.2.1 d_LoopRankerModel_look_181 (lv_at hl 2 rfl) ?_
              refine wa_ild X.1.1 X.1.2.1 X.2.1 hP 4 0 rfl rfl i rfl (by omega) (by decide) d_LoopRankerModel_look_183 ?_
              refine lv_aload_n X.1.1 X.1.2.1 d_LoopRankerModel_look_184 rfl (lv_at hl 3 rfl) ?_
              refine fg_LoopRankerModel_16 X hP 0 rfl rfl d_LoopRankerModel_look_185 ?_
              refine lv_iload X.1.1 X.1.2.1 d_LoopRankerModel_look_188 (lv_at hl 1 rfl) ?_
              refine wa_ild X.1.1 X.1.2.1 X.2.1 hP 3 0 rfl rfl j rfl (by omega) (by decide) d_LoopRankerModel_look_190 ?_
              refine lv_imul X.1.1 X.1.2.1 d_LoopRankerModel_look_191 ?_
              refine lv_aload_n X.1.1 X.1.2.1 d_LoopRankerModel_look_192 rfl (lv_at hl 3 rfl) ?_
              refine fg_LoopRankerModel_19 X hP 0 rfl rfl d_LoopRankerModel_look_193 ?_
              refine lv_iload X.1.1 X.1.2.1 d_LoopRankerModel_look_196 (lv_at hl 1 rfl) ?_
              refine wa_ild X.1.1 X.1.2.1 X.2.1 hP 4 0 rfl rfl j rfl (by omega) (by decide) d_LoopRankerModel_look_198 ?_
              refine lv_aload_n X.1.1 X.1.2.1 d_LoopRankerModel_look_199 rfl (lv_at hl 3 rfl) ?_
              refine fg_LoopRankerModel_16 X hP 0 rfl rfl d_LoopRankerModel_look_200 ?_
              refine lv_iload X.1.1 X.1.2.1 d_LoopRankerModel_look_203 (lv_at hl 2 rfl) ?_
              refine wa_ild X.1.1 X.1.2.1 X.2.1 hP 3 0 rfl rfl i rfl (by omega) (by decide) d_LoopRankerModel_look_205 ?_
              refine lv_imul X.1.1 X.1.2.1 d_LoopRankerModel_look_206 ?_
              refine lv_isub X.1.1 X.1.2.1 d_LoopRankerModel_look_207 ?_
              refine lv_i2l X.1.1 X.1.2.1 d_LoopRankerModel_look_208 rfl ?_
              refine lv_aload_n X.1.1 X.1.2.1 d_LoopRankerModel_look_209 rfl (lv_at hl 3 rfl) ?_
              refine fg_LoopRankerModel_13 X hP 0 rfl rfl d_LoopRankerModel_look_210 ?_
              refine lv_iload X.1.1 X.1.2.1 d_LoopRankerModel_look_213 (lv_at hl 2 rfl) ?_
              refine wa_ild X.1.1 X.1.2.1 X.2.1 hP 2 0 rfl rfl i rfl (by omega) (by decide) d_LoopRankerModel_look_215 ?_
              refine lv_aload_n X.1.1 X.1.2.1 d_LoopRankerModel_look_216 rfl (lv_at hl 3 rfl) ?_
              refine fg_LoopRankerModel_19 X hP 0 rfl rfl d_LoopRankerModel_look_217 ?_
              refine lv_iload X.1.1 X.1.2.1 d_LoopRankerModel_look_220 (lv_at hl 1 rfl) ?_
              refine wa_ild X.1.1 X.1.2.1 X.2.1 hP 4 0 rfl rfl j rfl (by omega) (by decide) d_LoopRankerModel_look_222 ?_
              refine lv_imul X.1.1 X.1.2.1 d_LoopRankerModel_look_223 ?_
              refine lv_aload_n X.1.1 X.1.2.1 d_LoopRankerModel_look_224 rfl (lv_at hl 3 rfl) ?_
              refine fg_LoopRankerModel_13 X hP 0 rfl rfl d_LoopRankerModel_look_225 ?_
              refine lv_iload X.1.1 X.1.2.1 d_LoopRankerModel_look_228 (lv_at hl 1 rfl) ?_
              refine wa_ild X.1.1 X.1.2.1 X.2.1 hP 2 0 rfl rfl j rfl (by omega) (by decide) d_LoopRankerModel_look_230 ?_
              refine lv_aload_n X.1.1 X.1.2.1 d_LoopRankerModel_look_231 rfl (lv_at hl 3 rfl) ?_
              refine fg_LoopRankerModel_19 X hP 0 rfl rfl d_LoopRankerModel_look_232 ?_
              refine lv_iload X.1.1 X.1.2.1 d_LoopRankerModel_look_235 (lv_at hl 2 rfl) ?_
              refine wa_ild X.1.1 X.1.2.1 X.2.1 hP 4 0 rfl rfl i rfl (by omega) (by decide) d_LoopRankerModel_look_237 ?_
              refine lv_imul X.1.1 X.1.2.1 d_LoopRankerModel_look_238 ?_
              refine lv_isub X.1.1 X.1.2.1 d_LoopRankerModel_look_239 ?_
              refine lv_i2l X.1.1 X.1.2.1 d_LoopRankerModel_look_240 rfl ?_
              refine lv_iload X.1.1 X.1.2.1 d_LoopRankerModel_look_241 (lv_at hl 0 rfl) ?_
              refine lv_i2l X.1.1 X.1.2.1 d_LoopRankerModel_look_243 rfl ?_
              refine lv_iload_n X.1.1 X.1.2.1 d_LoopRankerModel_look_244 rfl (lv_at hl 5 rfl) ?_
              refine lv_iload_n X.1.1 X.1.2.1 d_LoopRankerModel_look_245 rfl (lv_at hl 6 rfl) ?_
              refine wc_Vv [.int (nI t), .long ((((fr i) * (fq j)) - ((fr j) * (fq i))).toInt64), .long ((((fp i) * (fr j)) - ((fp j) * (fr i))).toInt64), .long ((((fp i) * (fq j)) - ((fp j) * (fq i))).toInt64), .int u, .int v] 4 0 X nz_nest (c_LoopRankerModel_meet h m1 p1 q1 r1 w1 o1 f1 s1 nc my fp fq fr up sm3 t3 b3 lv ol fi se x y fd t ((((fr i) * (fq j)) - ((fr j) * (fq i))).toInt64) ((((fp i) * (fr j)) - ((fp j) * (fr i))).toInt64) ((((fp i) * (fq j)) - ((fp j) * (fq i))).toInt64) u v d hm ht hd) (cw_LoopRankerModel_57 X.1.2.2.2.2 X.2.2.1 (by decide)) ([]) ([]) (rfl) hP hD hS rfl rfl rfl rfl hl.1 (Nat.le_of_ble_eq_true rfl) (by decide) d_LoopRankerModel_look_246 (fun H locs wn hwn hP hD hS => ?_)
              subst hwn
              have hP : va_P D cls (mW cI h m1 p1 q1 r1 w1 o1 f1 s1 nc my fp fq fr up ((m_mn fp fq fr (4 * t) d u v ((((fr i) * (fq j)) - ((fr j) * (fq i))).toInt64) ((((fp i) * (fr j)) - ((fp j) * (fr i))).toInt64) ((((fp i) * (fq j)) - ((fp j) * (fq i))).toInt64) (sm3, t3, b3)).1) ((m_mn fp fq fr (4 * t) d u v ((((fr i) * (fq j)) - ((fr j) * (fq i))).toInt64) ((((fp i) * (fr j)) - ((fp j) * (fr i))).toInt64) ((((fp i) * (fq j)) - ((fp j) * (fq i))).toInt64) (sm3, t3, b3)).2.1) ((m_mn fp fq fr (4 * t) d u v ((((fr i) * (fq j)) - ((fr j) * (fq i))).toInt64) ((((fp i) * (fr j)) - ((fp j) * (fr i))).toInt64) ((((fp i) * (fq j)) - ((fp j) * (fq i))).toInt64) (sm3, t3, b3)).2.2) lv ol fi se x y fd) H := hP
              have hD : va_D A (mW cI h m1 p1 q1 r1 w1 o1 f1 s1 nc my fp fq fr up ((m_mn fp fq fr (4 * t) d u v ((((fr i) * (fq j)) - ((fr j) * (fq i))).toInt64) ((((fp i) * (fr j)) - ((fp j) * (fr i))).toInt64) ((((fp i) * (fq j)) - ((fp j) * (fq i))).toInt64) (sm3, t3, b3)).1) ((m_mn fp fq fr (4 * t) d u v ((((fr i) * (fq j)) - ((fr j) * (fq i))).toInt64) ((((fp i) * (fr j)) - ((fp j) * (fr i))).toInt64) ((((fp i) * (fq j)) - ((fp j) * (fq i))).toInt64) (sm3, t3, b3)).2.1) ((m_mn fp fq fr (4 * t) d u v ((((fr i) * (fq j)) - ((fr j) * (fq i))).toInt64) ((((fp i) * (fr j)) - ((fp j) * (fr i))).toInt64) ((((fp i) * (fq j)) - ((fp j) * (fq i))).toInt64) (sm3, t3, b3)).2.2) lv ol fi se x y fd) := hD
              refine lv_iinc (k := 1) (v := nI (j + 1)) X.1.1 X.1.2.1 d_LoopRankerModel_look_249 hl rfl (nI_1 j) (by decide) rfl (fun ls hl => ?_)
              have hl : lv_has ls 8 [(6, .int (nI (j + 1))), (7, .int (((fp i) * (fq j)) - ((fp j) * (fq i)))), (4, .int (nI i)), (0, .ref h), (1, .int (nI t)), (2, .int u), (3, .int v)] := hl
              refine lv_goto (tgt := 130) X.1.1 X.1.2.1 d_LoopRankerModel_look_252 (by decide) ?_
              exact ih130 (j + 1) _ _ _ ls H locs (by omega) (by omega) (by rw [← hE3]; show _ = m_li fp fq fr (4 * t) d u v i _ (j + 1) (m_co fp fq fr (4 * t) d u v i j (sm3, t3, b3)); simp [m_co, h172]) (lv_sub hl [0, 2, 3, 4, 5, 6] rfl) hP hD hS
        exact lp130 (i - 4 * t) (4 * t) sm2 t2 b2 ls H locs (by omega) (by omega) (rfl) (lv_sub hl [0, 1, 2, 3, 4, 5] rfl) hP hD hS
      refine wi0_le (tgt := 125) X.1.1 X.1.2.1 d_LoopRankerModel_look_80 (by decide) (fun h80 => ?_) (fun h80 => ?_)
      · exact mg125 sm top bot ls H locs (by first | (simp only [m_fo, if_neg h80]; done) | simp [m_fo, h80]) (lv_sub hl [1, 2, 3, 4, 5] rfl) hP hD hS
      · refine lv_aload_n X.1.1 X.1.2.1 d_LoopRankerModel_look_83 rfl (lv_at hl 2 rfl) ?_
        refine lv_iload_n X.1.1 X.1.2.1 d_LoopRankerModel_look_84 rfl (lv_at hl 3 rfl) ?_
        refine lv_aload_n X.1.1 X.1.2.1 d_LoopRankerModel_look_85 rfl (lv_at hl 2 rfl) ?_
        refine fg_LoopRankerModel_13 X hP 0 rfl rfl d_LoopRankerModel_look_86 ?_
        refine lv_iload X.1.1 X.1.2.1 d_LoopRankerModel_look_89 (lv_at hl 1 rfl) ?_
        refine wa_ild X.1.1 X.1.2.1 X.2.1 hP 2 0 rfl rfl i rfl (by omega) (by decide) d_LoopRankerModel_look_91 ?_
        refine lv_aload_n X.1.1 X.1.2.1 d_LoopRankerModel_look_92 rfl (lv_at hl 2 rfl) ?_
        refine fg_LoopRankerModel_19 X hP 0 rfl rfl d_LoopRankerModel_look_93 ?_
        refine lv_iload X.1.1 X.1.2.1 d_LoopRankerModel_look_96 (lv_at hl 1 rfl) ?_
        refine wa_ild X.1.1 X.1.2.1 X.2.1 hP 4 0 rfl rfl i rfl (by omega) (by decide) d_LoopRankerModel_look_98 ?_
        refine lv_imul X.1.1 X.1.2.1 d_LoopRankerModel_look_99 ?_
        refine lv_i2l X.1.1 X.1.2.1 d_LoopRankerModel_look_100 rfl ?_
        refine lv_aload_n X.1.1 X.1.2.1 d_LoopRankerModel_look_101 rfl (lv_at hl 2 rfl) ?_
        refine fg_LoopRankerModel_16 X hP 0 rfl rfl d_LoopRankerModel_look_102 ?_
        refine lv_iload X.1.1 X.1.2.1 d_LoopRankerModel_look_105 (lv_at hl 1 rfl) ?_
        refine wa_ild X.1.1 X.1.2.1 X.2.1 hP 3 0 rfl rfl i rfl (by omega) (by decide) d_LoopRankerModel_look_107 ?_
        refine lv_aload_n X.1.1 X.1.2.1 d_LoopRankerModel_look_108 rfl (lv_at hl 2 rfl) ?_
        refine fg_LoopRankerModel_19 X hP 0 rfl rfl d_LoopRankerModel_look_109 ?_
        refine lv_iload X.1.1 X.1.2.1 d_LoopRankerModel_look_112 (lv_at hl 1 rfl) ?_
        refine wa_ild X.1.1 X.1.2.1 X.2.1 hP 4 0 rfl rfl i rfl (by omega) (by decide) d_LoopRankerModel_look_114 ?_
        refine lv_imul X.1.1 X.1.2.1 d_LoopRankerModel_look_115 ?_
        refine lv_i2l X.1.1 X.1.2.1 d_LoopRankerModel_look_116 rfl ?_
        refine lv_iload X.1.1 X.1.2.1 d_LoopRankerModel_look_117 (lv_at hl 0 rfl) ?_
        refine lv_i2l X.1.1 X.1.2.1 d_LoopRankerModel_look_119 rfl ?_
        refine lv_iload_n X.1.1 X.1.2.1 d_LoopRankerModel_look_120 rfl (lv_at hl 4 rfl) ?_
        refine lv_iload_n X.1.1 X.1.2.1 d_LoopRankerModel_look_121 rfl (lv_at hl 5 rfl) ?_
        refine wc_Vv [.int (nI t), .long (((fp i) * (fr i)).toInt64), .long (((fq i) * (fr i)).toInt64), .long ((((fp i) * (fp i)) + ((fq i) * (fq i))).toInt64), .int u, .int v] 4 0 X nz_nest (c_LoopRankerModel_meet h m1 p1 q1 r1 w1 o1 f1 s1 nc my fp fq fr up sm top bot lv ol fi se x y fd t (((fp i) * (fr i)).toInt64) (((fq i) * (fr i)).toInt64) ((((fp i) * (fp i)) + ((fq i) * (fq i))).toInt64) u v d hm ht hd) (cw_LoopRankerModel_57 X.1.2.2.2.2 X.2.2.1 (by decide)) ([]) ([]) (rfl) hP hD hS rfl rfl rfl rfl hl.1 (Nat.le_of_ble_eq_true rfl) (by decide) d_LoopRankerModel_look_122 (fun H locs wn hwn hP hD hS => ?_)
        subst hwn
        have hP : va_P D cls (mW cI h m1 p1 q1 r1 w1 o1 f1 s1 nc my fp fq fr up ((m_mn fp fq fr (4 * t) d u v (((fp i) * (fr i)).toInt64) (((fq i) * (fr i)).toInt64) ((((fp i) * (fp i)) + ((fq i) * (fq i))).toInt64) (sm, top, bot)).1) ((m_mn fp fq fr (4 * t) d u v (((fp i) * (fr i)).toInt64) (((fq i) * (fr i)).toInt64) ((((fp i) * (fp i)) + ((fq i) * (fq i))).toInt64) (sm, top, bot)).2.1) ((m_mn fp fq fr (4 * t) d u v (((fp i) * (fr i)).toInt64) (((fq i) * (fr i)).toInt64) ((((fp i) * (fp i)) + ((fq i) * (fq i))).toInt64) (sm, top, bot)).2.2) lv ol fi se x y fd) H := hP
        have hD : va_D A (mW cI h m1 p1 q1 r1 w1 o1 f1 s1 nc my fp fq fr up ((m_mn fp fq fr (4 * t) d u v (((fp i) * (fr i)).toInt64) (((fq i) * (fr i)).toInt64) ((((fp i) * (fp i)) + ((fq i) * (fq i))).toInt64) (sm, top, bot)).1) ((m_mn fp fq fr (4 * t) d u v (((fp i) * (fr i)).toInt64) (((fq i) * (fr i)).toInt64) ((((fp i) * (fp i)) + ((fq i) * (fq i))).toInt64) (sm, top, bot)).2.1) ((m_mn fp fq fr (4 * t) d u v (((fp i) * (fr i)).toInt64) (((fq i) * (fr i)).toInt64) ((((fp i) * (fp i)) + ((fq i) * (fq i))).toInt64) (sm, top, bot)).2.2) lv ol fi se x y fd) := hD
        exact mg125 ((m_mn fp fq fr (4 * t) d u v (((fp i) * (fr i)).toInt64) (((fq i) * (fr i)).toInt64) ((((fp i) * (fp i)) + ((fq i) * (fq i))).toInt64) (sm, top, bot)).1) ((m_mn fp fq fr (4 * t) d u v (((fp i) * (fr i)).toInt64) (((fq i) * (fr i)).toInt64) ((((fp i) * (fp i)) + ((fq i) * (fq i))).toInt64) (sm, top, bot)).2.1) ((m_mn fp fq fr (4 * t) d u v (((fp i) * (fr i)).toInt64) (((fq i) * (fr i)).toInt64) ((((fp i) * (fp i)) + ((fq i) * (fq i))).toInt64) (sm, top, bot)).2.2) ls H locs (by first | (simp only [m_fo, if_pos h80]; done) | simp [m_fo, h80]) (lv_sub hl [1, 2, 3, 4, 5] rfl) hP hD hS
  exact lp30 d (4 * t) _ _ _ ls H locs (by omega) (by omega) (rfl) (lv_sub hl [0, 1, 2, 3, 4] rfl) hP hD hS
set_option maxHeartbeats 4000000 in
set_option maxRecDepth 100000 in
theorem c_LoopRankerModel_way (h m1 p1 q1 r1 w1 o1 f1 s1 : Nat) (nc : Nat) (my fp fq fr up : Nat → Int32) (sm : Int32) (top bot : Int64) (lv : Nat) (ol fi se : Nat → Int32) (x y : Int64) (fd : Int32) (t : Nat) (dx dy u v : Int32) (d : Nat) (hm : my t = nI d) (ht : t < 6) (hd : d ≤ 4) : wk_ki l y_LoopRankerModel_way (Cond.code y_LoopRankerModel_way b_LoopRankerModel_way 8 (some .boolean) :: BW) rm_LoopRankerModel_way D cls (kT cI cJ cS) nz [.ref h, .int (nI t), .int dx, .int dy, .int u, .int v] (mW cI h m1 p1 q1 r1 w1 o1 f1 s1 nc my fp fq fr up sm top bot lv ol fi se x y fd) (fun wz => wz = mW cI h m1 p1 q1 r1 w1 o1 f1 s1 nc my fp fq fr up sm top bot lv ol fi se x y fd) (m_way fp fq (4 * t) d dx dy u v) := by
  refine ws_z (plainFor_of_name (by decide)) (Nat.le_of_ble_eq_true rfl) ?_
  intro p e s m below meth c A ls Q X hret hl hP hD hS
  obtain ⟨H, hH⟩ : ∃ H, H = s.heap := ⟨_, rfl⟩
  obtain ⟨locs, hlo⟩ : ∃ locs : List Loc, locs = [] := ⟨_, rfl⟩
  have hP : va_P D cls (mW cI h m1 p1 q1 r1 w1 o1 f1 s1 nc my fp fq fr up sm top bot lv ol fi se x y fd) H := by rw [hH]; exact hP
  have hS : va_S A s.heap H locs := by rw [hH, hlo]; exact hS
  suffices hgo : W p l e rm_LoopRankerModel_way s m ([.ref h, .int (nI t), .int dx, .int dy, .int u, .int v] : List Value).toArray below meth c H locs 0 0 Q (F0 m 0 ls ([])) by rw [hH, hlo] at hgo; exact hgo
  clear hH hlo
  have hl : lv_has ls 8 [(0, .ref h), (1, .int (nI t)), (2, .int dx), (3, .int dy), (4, .int u), (5, .int v)] := hl
  refine lv_iload X.1.1 X.1.2.1 d_LoopRankerModel_way_0 (lv_at hl 4 rfl) ?_
  refine lv_iload_n X.1.1 X.1.2.1 d_LoopRankerModel_way_2 rfl (lv_at hl 2 rfl) ?_
  refine lv_imul X.1.1 X.1.2.1 d_LoopRankerModel_way_3 ?_
  refine lv_iload X.1.1 X.1.2.1 d_LoopRankerModel_way_4 (lv_at hl 5 rfl) ?_
  refine lv_iload_n X.1.1 X.1.2.1 d_LoopRankerModel_way_6 rfl (lv_at hl 3 rfl) ?_
  refine lv_imul X.1.1 X.1.2.1 d_LoopRankerModel_way_7 ?_
  refine lv_iadd X.1.1 X.1.2.1 d_LoopRankerModel_way_8 ?_
  have jn17 : ∀ (z0 : Int32) (H : Heap) (locs : List Loc), z0 = (if 0 < u * dx + v * dy then 1 else 0) → va_P D cls (mW cI h m1 p1 q1 r1 w1 o1 f1 s1 nc my fp fq fr up sm top bot lv ol fi se x y fd) H → va_S A s.heap H locs → W p l e rm_LoopRankerModel_way s m ([.ref h, .int (nI t), .int dx, .int dy, .int u, .int v] : List Value).toArray below meth c H locs 0 0 Q (F0 m 17 ls (.int z0 :: [])) := by
    intro z0 H locs ez0 hP hS
    refine lv_istore X.1.1 X.1.2.1 d_LoopRankerModel_way_17 hl (by decide) rfl (fun ls hl => ?_)
    have hl : lv_has ls 8 [(6, .int z0), (0, .ref h), (1, .int (nI t)), (2, .int dx), (3, .int dy), (4, .int u), (5, .int v)] := hl
    refine lv_iconst (v := (4 : Int32)) X.1.1 X.1.2.1 d_LoopRankerModel_way_19 (by decide) ?_
    refine lv_iload_n X.1.1 X.1.2.1 d_LoopRankerModel_way_20 rfl (lv_at hl 2 rfl) ?_
    refine wn_mul (a := 4) (b := t) X.1.1 X.1.2.1 d_LoopRankerModel_way_21 ?_
    refine lv_istore X.1.1 X.1.2.1 d_LoopRankerModel_way_22 hl (by decide) rfl (fun ls hl => ?_)
    have hl : lv_has ls 8 [(7, .int (nI (4 * t))), (6, .int z0), (0, .ref h), (1, .int (nI t)), (2, .int dx), (3, .int dy), (4, .int u), (5, .int v)] := hl
    have lp24 : ∀ (k24 : Nat) (i : Nat) (z : Int32) (ls : Array Slot) (H : Heap) (locs : List Loc), i + k24 = 4 * t + d → m_01 z → m_wy fp fq dx dy k24 i z = m_way fp fq (4 * t) d dx dy u v → lv_has ls 8 [(7, .int (nI i)), (6, .int z), (0, .ref h), (1, .int (nI t)), (2, .int dx), (3, .int dy), (4, .int u), (5, .int v)] → va_P D cls (mW cI h m1 p1 q1 r1 w1 o1 f1 s1 nc my fp fq fr up sm top bot lv ol fi se x y fd) H → va_D A (mW cI h m1 p1 q1 r1 w1 o1 f1 s1 nc my fp fq fr up sm top bot lv ol fi se x y fd) → va_S A s.heap H locs → W p l e rm_LoopRankerModel_way s m ([.ref h, .int (nI t), .int dx, .int dy, .int u, .int v] : List Value).toArray below meth c H locs 0 0 Q (F0 m 24 ls ([])) := by
      intro k24
      induction k24 with
      | zero =>
        intro i z ls H locs hik h01 hE hl hP hD hS
        refine lv_iload X.1.1 X.1.2.1 d_LoopRankerModel_way_24 (lv_at hl 0 rfl) ?_
        refine lv_iconst (v := (4 : Int32)) X.1.1 X.1.2.1 d_LoopRankerModel_way_26 (by decide) ?_
        refine lv_iload_n X.1.1 X.1.2.1 d_LoopRankerModel_way_27 rfl (lv_at hl 3 rfl) ?_
        refine wn_mul (a := 4) (b := t) X.1.1 X.1.2.1 d_LoopRankerModel_way_28 ?_
        refine lv_aload_n X.1.1 X.1.2.1 d_LoopRankerModel_way_29 rfl (lv_at hl 2 rfl) ?_
        refine fg_LoopRankerModel_7 X hP 0 rfl rfl d_LoopRankerModel_way_30 ?_
        refine lv_iload_n X.1.1 X.1.2.1 d_LoopRankerModel_way_33 rfl (lv_at hl 3 rfl) ?_
        refine wa_ild X.1.1 X.1.2.1 X.2.1 hP 1 0 rfl rfl t rfl (by omega) (by decide) d_LoopRankerModel_way_34 ?_
        refine wn_top hm ?_
        refine wn_add (a := 4 * t) (b := d) X.1.1 X.1.2.1 d_LoopRankerModel_way_35 ?_
        refine wn_ge (a := i) (b := 4 * t + d) (tgt := 79) X.1.1 X.1.2.1 d_LoopRankerModel_way_36 (by decide) (by omega) (by omega) (fun h36 => ?_) (fun h36 => by exfalso; omega)
        refine lv_iload X.1.1 X.1.2.1 d_LoopRankerModel_way_79 (lv_at hl 1 rfl) ?_
        exact hret 81 H locs ls _ _ hP hD hS d_LoopRankerModel_way_81 h01 (hE) (rfl)
      | succ k24 ih24 =>
        intro i z ls H locs hik h01 hE hl hP hD hS
        refine lv_iload X.1.1 X.1.2.1 d_LoopRankerModel_way_24 (lv_at hl 0 rfl) ?_
        refine lv_iconst (v := (4 : Int32)) X.1.1 X.1.2.1 d_LoopRankerModel_way_26 (by decide) ?_
        refine lv_iload_n X.1.1 X.1.2.1 d_LoopRankerModel_way_27 rfl (lv_at hl 3 rfl) ?_
        refine wn_mul (a := 4) (b := t) X.1.1 X.1.2.1 d_LoopRankerModel_way_28 ?_
        refine lv_aload_n X.1.1 X.1.2.1 d_LoopRankerModel_way_29 rfl (lv_at hl 2 rfl) ?_
        refine fg_LoopRankerModel_7 X hP 0 rfl rfl d_LoopRankerModel_way_30 ?_
        refine lv_iload_n X.1.1 X.1.2.1 d_LoopRankerModel_way_33 rfl (lv_at hl 3 rfl) ?_
        refine wa_ild X.1.1 X.1.2.1 X.2.1 hP 1 0 rfl rfl t rfl (by omega) (by decide) d_LoopRankerModel_way_34 ?_
        refine wn_top hm ?_
        refine wn_add (a := 4 * t) (b := d) X.1.1 X.1.2.1 d_LoopRankerModel_way_35 ?_
        refine wn_ge (a := i) (b := 4 * t + d) (tgt := 79) X.1.1 X.1.2.1 d_LoopRankerModel_way_36 (by decide) (by omega) (by omega) (fun h36 => by exfalso; omega) (fun h36 => ?_)
        refine lv_iload X.1.1 X.1.2.1 d_LoopRankerModel_way_39 (lv_at hl 1 rfl) ?_
        have jn71 : ∀ (z1 : Int32) (H : Heap) (locs : List Loc), z1 = (m_ws fp fq dx dy i z) → va_P D cls (mW cI h m1 p1 q1 r1 w1 o1 f1 s1 nc my fp fq fr up sm top bot lv ol fi se x y fd) H → va_S A s.heap H locs → W p l e rm_LoopRankerModel_way s m ([.ref h, .int (nI t), .int dx, .int dy, .int u, .int v] : List Value).toArray below meth c H locs 0 0 Q (F0 m 71 ls (.int z1 :: [])) := by
          intro z1 H locs ez1 hP hS
          refine lv_istore X.1.1 X.1.2.1 d_LoopRankerModel_way_71 hl (by decide) rfl (fun ls hl => ?_)
          have hl : lv_has ls 8 [(6, .int z1), (7, .int (nI i)), (0, .ref h), (1, .int (nI t)), (2, .int dx), (3, .int dy), (4, .int u), (5, .int v)] := hl
          refine lv_iinc (k := 1) (v := nI (i + 1)) X.1.1 X.1.2.1 d_LoopRankerModel_way_73 hl rfl (nI_1 i) (by decide) rfl (fun ls hl => ?_)
          have hl : lv_has ls 8 [(7, .int (nI (i + 1))), (6, .int z1), (0, .ref h), (1, .int (nI t)), (2, .int dx), (3, .int dy), (4, .int u), (5, .int v)] := hl
          refine lv_goto (tgt := 24) X.1.1 X.1.2.1 d_LoopRankerModel_way_76 (by decide) ?_
          exact ih24 (i + 1) _ ls H locs (by omega) (by rw [ez1]; exact m_ws_01 _ _ _ _ _ _) (by rw [ez1]; exact hE) (lv_sub hl [0, 1, 2, 3, 4, 5, 6, 7] rfl) hP hD hS
        refine wi0_eq (tgt := 70) X.1.1 X.1.2.1 d_LoopRankerModel_way_41 (by decide) (fun h41 => ?_) (fun h41 => ?_)
        · refine lv_iconst (v := (0 : Int32)) X.1.1 X.1.2.1 d_LoopRankerModel_way_70 (by decide) ?_
          exact jn71 _ H locs (by first | (simp only [m_ws, if_pos h36, if_pos h41]; done) | simp [m_ws, h36, h41]) hP hS
        · refine lv_aload_n X.1.1 X.1.2.1 d_LoopRankerModel_way_44 rfl (lv_at hl 2 rfl) ?_
          refine fg_LoopRankerModel_13 X hP 0 rfl rfl d_LoopRankerModel_way_45 ?_
          refine lv_iload X.1.1 X.1.2.1 d_LoopRankerModel_way_48 (lv_at hl 0 rfl) ?_
          refine wa_ild X.1.1 X.1.2.1 X.2.1 hP 2 0 rfl rfl i rfl (by omega) (by decide) d_LoopRankerModel_way_50 ?_
          refine lv_iload_n X.1.1 X.1.2.1 d_LoopRankerModel_way_51 rfl (lv_at hl 4 rfl) ?_
          refine lv_imul X.1.1 X.1.2.1 d_LoopRankerModel_way_52 ?_
          refine lv_aload_n X.1.1 X.1.2.1 d_LoopRankerModel_way_53 rfl (lv_at hl 2 rfl) ?_
          refine fg_LoopRankerModel_16 X hP 0 rfl rfl d_LoopRankerModel_way_54 ?_
          refine lv_iload X.1.1 X.1.2.1 d_LoopRankerModel_way_57 (lv_at hl 0 rfl) ?_
          refine wa_ild X.1.1 X.1.2.1 X.2.1 hP 3 0 rfl rfl i rfl (by omega) (by decide) d_LoopRankerModel_way_59 ?_
          refine lv_iload_n X.1.1 X.1.2.1 d_LoopRankerModel_way_60 rfl (lv_at hl 5 rfl) ?_
          refine lv_imul X.1.1 X.1.2.1 d_LoopRankerModel_way_61 ?_
          refine lv_iadd X.1.1 X.1.2.1 d_LoopRankerModel_way_62 ?_
          refine wi0_gt (tgt := 70) X.1.1 X.1.2.1 d_LoopRankerModel_way_63 (by decide) (fun h63 => ?_) (fun h63 => ?_)
          · refine lv_iconst (v := (0 : Int32)) X.1.1 X.1.2.1 d_LoopRankerModel_way_70 (by decide) ?_
            exact jn71 _ H locs (by first | (simp only [m_ws, if_pos h36, if_neg h41, if_pos h63]; done) | simp [m_ws, h36, h41, h63]) hP hS
          · refine lv_iconst (v := (1 : Int32)) X.1.1 X.1.2.1 d_LoopRankerModel_way_66 (by decide) ?_
            refine lv_goto (tgt := 71) X.1.1 X.1.2.1 d_LoopRankerModel_way_67 (by decide) ?_
            exact jn71 _ H locs (by first | (simp only [m_ws, if_pos h36, if_neg h41, if_neg h63]; done) | simp [m_ws, h36, h41, h63]) hP hS
    exact lp24 d (4 * t) z0 ls H locs (by omega) (by rw [ez0]; unfold m_01; split <;> simp) (by rw [ez0]; rfl) (lv_sub hl [0, 1, 2, 3, 4, 5, 6, 7] rfl) hP hD hS
  refine wi0_le (tgt := 16) X.1.1 X.1.2.1 d_LoopRankerModel_way_9 (by decide) (fun h9 => ?_) (fun h9 => ?_)
  · refine lv_iconst (v := (0 : Int32)) X.1.1 X.1.2.1 d_LoopRankerModel_way_16 (by decide) ?_
    exact jn17 _ H locs (by first | (simp only [if_neg h9]; done) | simp [h9]) hP hS
  · refine lv_iconst (v := (1 : Int32)) X.1.1 X.1.2.1 d_LoopRankerModel_way_12 (by decide) ?_
    refine lv_goto (tgt := 17) X.1.1 X.1.2.1 d_LoopRankerModel_way_13 (by decide) ?_
    exact jn17 _ H locs (by first | (simp only [if_pos h9]; done) | simp [h9]) hP hS
set_option maxHeartbeats 4000000 in
set_option maxRecDepth 100000 in
theorem c_LoopRankerModel_endless (h m1 p1 q1 r1 w1 o1 f1 s1 : Nat) (nc : Nat) (my fp fq fr up : Nat → Int32) (sm : Int32) (top bot : Int64) (lv : Nat) (ol fi se : Nat → Int32) (x y : Int64) (fd : Int32) (t : Nat) (u v : Int32) (d : Nat) (hm : my t = nI d) (ht : t < 6) (hd : d ≤ 4) : wk_ki l y_LoopRankerModel_endless (Cond.code y_LoopRankerModel_endless b_LoopRankerModel_endless 6 (some .boolean) :: BW) rm_LoopRankerModel_endless D cls (kT cI cJ cS) nz [.ref h, .int (nI t), .int u, .int v] (mW cI h m1 p1 q1 r1 w1 o1 f1 s1 nc my fp fq fr up sm top bot lv ol fi se x y fd) (fun wz => wz = mW cI h m1 p1 q1 r1 w1 o1 f1 s1 nc my fp fq fr up sm top bot lv ol fi se x y fd) (m_end fp fq (4 * t) d u v) := by
  refine ws_z (plainFor_of_name (by decide)) (Nat.le_of_ble_eq_true rfl) ?_
  intro p e s m below meth c A ls Q X hret hl hP hD hS
  obtain ⟨H, hH⟩ : ∃ H, H = s.heap := ⟨_, rfl⟩
  obtain ⟨locs, hlo⟩ : ∃ locs : List Loc, locs = [] := ⟨_, rfl⟩
  have hP : va_P D cls (mW cI h m1 p1 q1 r1 w1 o1 f1 s1 nc my fp fq fr up sm top bot lv ol fi se x y fd) H := by rw [hH]; exact hP
  have hS : va_S A s.heap H locs := by rw [hH, hlo]; exact hS
  suffices hgo : W p l e rm_LoopRankerModel_endless s m ([.ref h, .int (nI t), .int u, .int v] : List Value).toArray below meth c H locs 0 0 Q (F0 m 0 ls ([])) by rw [hH, hlo] at hgo; exact hgo
  clear hH hlo
  have hl : lv_has ls 6 [(0, .ref h), (1, .int (nI t)), (2, .int u), (3, .int v)] := hl
  refine lv_aload_n X.1.1 X.1.2.1 d_LoopRankerModel_endless_0 rfl (lv_at hl 0 rfl) ?_
  refine lv_iload_n X.1.1 X.1.2.1 d_LoopRankerModel_endless_1 rfl (lv_at hl 1 rfl) ?_
  refine lv_iload_n X.1.1 X.1.2.1 d_LoopRankerModel_endless_2 rfl (lv_at hl 2 rfl) ?_
  refine lv_iload_n X.1.1 X.1.2.1 d_LoopRankerModel_endless_3 rfl (lv_at hl 3 rfl) ?_
  refine lv_iload_n X.1.1 X.1.2.1 d_LoopRankerModel_endless_4 rfl (lv_at hl 2 rfl) ?_
  refine lv_iload_n X.1.1 X.1.2.1 d_LoopRankerModel_endless_5 rfl (lv_at hl 3 rfl) ?_
  refine wc_Vi [.int (nI t), .int u, .int v, .int u, .int v] 4 0 X nz_nest (c_LoopRankerModel_way h m1 p1 q1 r1 w1 o1 f1 s1 nc my fp fq fr up sm top bot lv ol fi se x y fd t u v u v d hm ht hd) (cw_LoopRankerModel_61 X.1.2.2.2.2 X.2.2.1 (by decide)) ([]) ([]) (rfl) hP hD hS rfl rfl rfl rfl hl.1 (Nat.le_of_ble_eq_true rfl) (by decide) d_LoopRankerModel_endless_6 (fun H locs wn hwn hP hD hS => ?_)
  subst hwn
  have hP : va_P D cls (mW cI h m1 p1 q1 r1 w1 o1 f1 s1 nc my fp fq fr up sm top bot lv ol fi se x y fd) H := hP
  have hD : va_D A (mW cI h m1 p1 q1 r1 w1 o1 f1 s1 nc my fp fq fr up sm top bot lv ol fi se x y fd) := hD
  refine lv_istore X.1.1 X.1.2.1 d_LoopRankerModel_endless_9 hl (by decide) rfl (fun ls hl => ?_)
  have hl : lv_has ls 6 [(4, .int (m_way fp fq (4 * t) d u v u v)), (0, .ref h), (1, .int (nI t)), (2, .int u), (3, .int v)] := hl
  refine lv_iconst (v := (4 : Int32)) X.1.1 X.1.2.1 d_LoopRankerModel_endless_11 (by decide) ?_
  refine lv_iload_n X.1.1 X.1.2.1 d_LoopRankerModel_endless_12 rfl (lv_at hl 2 rfl) ?_
  refine wn_mul (a := 4) (b := t) X.1.1 X.1.2.1 d_LoopRankerModel_endless_13 ?_
  refine lv_istore X.1.1 X.1.2.1 d_LoopRankerModel_endless_14 hl (by decide) rfl (fun ls hl => ?_)
  have hl : lv_has ls 6 [(5, .int (nI (4 * t))), (4, .int (m_way fp fq (4 * t) d u v u v)), (0, .ref h), (1, .int (nI t)), (2, .int u), (3, .int v)] := hl
  have lp16 : ∀ (k16 : Nat) (i : Nat) (z : Int32) (ls : Array Slot) (H : Heap) (locs : List Loc), i + k16 = 4 * t + d → m_01 z → m_en fp fq (4 * t) d u v k16 i z = m_end fp fq (4 * t) d u v → lv_has ls 6 [(5, .int (nI i)), (4, .int z), (0, .ref h), (1, .int (nI t)), (2, .int u), (3, .int v)] → va_P D cls (mW cI h m1 p1 q1 r1 w1 o1 f1 s1 nc my fp fq fr up sm top bot lv ol fi se x y fd) H → va_D A (mW cI h m1 p1 q1 r1 w1 o1 f1 s1 nc my fp fq fr up sm top bot lv ol fi se x y fd) → va_S A s.heap H locs → W p l e rm_LoopRankerModel_endless s m ([.ref h, .int (nI t), .int u, .int v] : List Value).toArray below meth c H locs 0 0 Q (F0 m 16 ls ([])) := by
    intro k16
    induction k16 with
    | zero =>
      intro i z ls H locs hik h01 hE hl hP hD hS
      refine lv_iload X.1.1 X.1.2.1 d_LoopRankerModel_endless_16 (lv_at hl 0 rfl) ?_
      refine lv_iconst (v := (4 : Int32)) X.1.1 X.1.2.1 d_LoopRankerModel_endless_18 (by decide) ?_
      refine lv_iload_n X.1.1 X.1.2.1 d_LoopRankerModel_endless_19 rfl (lv_at hl 3 rfl) ?_
      refine wn_mul (a := 4) (b := t) X.1.1 X.1.2.1 d_LoopRankerModel_endless_20 ?_
      refine lv_aload_n X.1.1 X.1.2.1 d_LoopRankerModel_endless_21 rfl (lv_at hl 2 rfl) ?_
      refine fg_LoopRankerModel_7 X hP 0 rfl rfl d_LoopRankerModel_endless_22 ?_
      refine lv_iload_n X.1.1 X.1.2.1 d_LoopRankerModel_endless_25 rfl (lv_at hl 3 rfl) ?_
      refine wa_ild X.1.1 X.1.2.1 X.2.1 hP 1 0 rfl rfl t rfl (by omega) (by decide) d_LoopRankerModel_endless_26 ?_
      refine wn_top hm ?_
      refine wn_add (a := 4 * t) (b := d) X.1.1 X.1.2.1 d_LoopRankerModel_endless_27 ?_
      refine wn_ge (a := i) (b := 4 * t + d) (tgt := 125) X.1.1 X.1.2.1 d_LoopRankerModel_endless_28 (by decide) (by omega) (by omega) (fun h28 => ?_) (fun h28 => by exfalso; omega)
      refine lv_iload X.1.1 X.1.2.1 d_LoopRankerModel_endless_125 (lv_at hl 1 rfl) ?_
      exact hret 127 H locs ls _ _ hP hD hS d_LoopRankerModel_endless_127 h01 (hE) (rfl)
    | succ k16 ih16 =>
      intro i z ls H locs hik h01 hE hl hP hD hS
      refine lv_iload X.1.1 X.1.2.1 d_LoopRankerModel_endless_16 (lv_at hl 0 rfl) ?_
      refine lv_iconst (v := (4 : Int32)) X.1.1 X.1.2.1 d_LoopRankerModel_endless_18 (by decide) ?_
      refine lv_iload_n X.1.1 X.1.2.1 d_LoopRankerModel_endless_19 rfl (lv_at hl 3 rfl) ?_
      refine wn_mul (a := 4) (b := t) X.1.1 X.1.2.1 d_LoopRankerModel_endless_20 ?_
      refine lv_aload_n X.1.1 X.1.2.1 d_LoopRankerModel_endless_21 rfl (lv_at hl 2 rfl) ?_
      refine fg_LoopRankerModel_7 X hP 0 rfl rfl d_LoopRankerModel_endless_22 ?_
      refine lv_iload_n X.1.1 X.1.2.1 d_LoopRankerModel_endless_25 rfl (lv_at hl 3 rfl) ?_
      refine wa_ild X.1.1 X.1.2.1 X.2.1 hP 1 0 rfl rfl t rfl (by omega) (by decide) d_LoopRankerModel_endless_26 ?_
      refine wn_top hm ?_
      refine wn_add (a := 4 * t) (b := d) X.1.1 X.1.2.1 d_LoopRankerModel_endless_27 ?_
      refine wn_ge (a := i) (b := 4 * t + d) (tgt := 125) X.1.1 X.1.2.1 d_LoopRankerModel_endless_28 (by decide) (by omega) (by omega) (fun h28 => by exfalso; omega) (fun h28 => ?_)
      refine lv_iload X.1.1 X.1.2.1 d_LoopRankerModel_endless_31 (lv_at hl 1 rfl) ?_
      have jn117 : ∀ (z1 : Int32) (H : Heap) (locs : List Loc), z1 = (m_es fp fq (4 * t) d u v i z) → va_P D cls (mW cI h m1 p1 q1 r1 w1 o1 f1 s1 nc my fp fq fr up sm top bot lv ol fi se x y fd) H → va_S A s.heap H locs → W p l e rm_LoopRankerModel_endless s m ([.ref h, .int (nI t), .int u, .int v] : List Value).toArray below meth c H locs 0 0 Q (F0 m 117 ls (.int z1 :: [])) := by
        intro z1 H locs ez1 hP hS
        refine lv_istore X.1.1 X.1.2.1 d_LoopRankerModel_endless_117 hl (by decide) rfl (fun ls hl => ?_)
        have hl : lv_has ls 6 [(4, .int z1), (5, .int (nI i)), (0, .ref h), (1, .int (nI t)), (2, .int u), (3, .int v)] := hl
        refine lv_iinc (k := 1) (v := nI (i + 1)) X.1.1 X.1.2.1 d_LoopRankerModel_endless_119 hl rfl (nI_1 i) (by decide) rfl (fun ls hl => ?_)
        have hl : lv_has ls 6 [(5, .int (nI (i + 1))), (4, .int z1), (0, .ref h), (1, .int (nI t)), (2, .int u), (3, .int v)] := hl
        refine lv_goto (tgt := 16) X.1.1 X.1.2.1 d_LoopRankerModel_endless_122 (by decide) ?_
        exact ih16 (i + 1) _ ls H locs (by omega) (by rw [ez1]; exact m_es_01 _ _ _ _ _ _ _ _) (by rw [ez1]; exact hE) (lv_sub hl [0, 1, 2, 3, 4, 5] rfl) hP hD hS
      refine wi0_ne (tgt := 112) X.1.1 X.1.2.1 d_LoopRankerModel_endless_33 (by decide) (fun h33 => ?_) (fun h33 => ?_)
      · refine lv_iconst (v := (1 : Int32)) X.1.1 X.1.2.1 d_LoopRankerModel_endless_112 (by decide) ?_
        refine lv_goto (tgt := 117) X.1.1 X.1.2.1 d_LoopRankerModel_endless_113 (by decide) ?_
        exact jn117 _ H locs (by first | (simp only [m_es, if_pos h28, if_neg h33]; done) | simp [m_es, h28, h33]) hP hS
      · refine lv_aload_n X.1.1 X.1.2.1 d_LoopRankerModel_endless_36 rfl (lv_at hl 2 rfl) ?_
        refine lv_iload_n X.1.1 X.1.2.1 d_LoopRankerModel_endless_37 rfl (lv_at hl 3 rfl) ?_
        refine lv_aload_n X.1.1 X.1.2.1 d_LoopRankerModel_endless_38 rfl (lv_at hl 2 rfl) ?_
        refine fg_LoopRankerModel_16 X hP 0 rfl rfl d_LoopRankerModel_endless_39 ?_
        refine lv_iload X.1.1 X.1.2.1 d_LoopRankerModel_endless_42 (lv_at hl 0 rfl) ?_
        refine wa_ild X.1.1 X.1.2.1 X.2.1 hP 3 0 rfl rfl i rfl (by omega) (by decide) d_LoopRankerModel_endless_44 ?_
        refine lv_ineg X.1.1 X.1.2.1 d_LoopRankerModel_endless_45 ?_
        refine lv_aload_n X.1.1 X.1.2.1 d_LoopRankerModel_endless_46 rfl (lv_at hl 2 rfl) ?_
        refine fg_LoopRankerModel_13 X hP 0 rfl rfl d_LoopRankerModel_endless_47 ?_
        refine lv_iload X.1.1 X.1.2.1 d_LoopRankerModel_endless_50 (lv_at hl 0 rfl) ?_
        refine wa_ild X.1.1 X.1.2.1 X.2.1 hP 2 0 rfl rfl i rfl (by omega) (by decide) d_LoopRankerModel_endless_52 ?_
        refine lv_iload_n X.1.1 X.1.2.1 d_LoopRankerModel_endless_53 rfl (lv_at hl 4 rfl) ?_
        refine lv_iload_n X.1.1 X.1.2.1 d_LoopRankerModel_endless_54 rfl (lv_at hl 5 rfl) ?_
        refine wc_Vi [.int (nI t), .int (-(fq i)), .int (fp i), .int u, .int v] 4 0 X nz_nest (c_LoopRankerModel_way h m1 p1 q1 r1 w1 o1 f1 s1 nc my fp fq fr up sm top bot lv ol fi se x y fd t (-(fq i)) (fp i) u v d hm ht hd) (cw_LoopRankerModel_61 X.1.2.2.2.2 X.2.2.1 (by decide)) ([]) ([]) (rfl) hP hD hS rfl rfl rfl rfl hl.1 (Nat.le_of_ble_eq_true rfl) (by decide) d_LoopRankerModel_endless_55 (fun H locs wn hwn hP hD hS => ?_)
        subst hwn
        have hP : va_P D cls (mW cI h m1 p1 q1 r1 w1 o1 f1 s1 nc my fp fq fr up sm top bot lv ol fi se x y fd) H := hP
        have hD : va_D A (mW cI h m1 p1 q1 r1 w1 o1 f1 s1 nc my fp fq fr up sm top bot lv ol fi se x y fd) := hD
        refine wi0_ne (tgt := 112) X.1.1 X.1.2.1 d_LoopRankerModel_endless_58 (by decide) (fun h58 => ?_) (fun h58 => ?_)
        · refine lv_iconst (v := (1 : Int32)) X.1.1 X.1.2.1 d_LoopRankerModel_endless_112 (by decide) ?_
          refine lv_goto (tgt := 117) X.1.1 X.1.2.1 d_LoopRankerModel_endless_113 (by decide) ?_
          exact jn117 _ H locs (by first | (simp only [m_es, if_pos h28, if_pos h33, if_neg h58]; done) | simp [m_es, h28, h33, h58]) hP hS
        · refine lv_aload_n X.1.1 X.1.2.1 d_LoopRankerModel_endless_61 rfl (lv_at hl 2 rfl) ?_
          refine lv_iload_n X.1.1 X.1.2.1 d_LoopRankerModel_endless_62 rfl (lv_at hl 3 rfl) ?_
          refine lv_aload_n X.1.1 X.1.2.1 d_LoopRankerModel_endless_63 rfl (lv_at hl 2 rfl) ?_
          refine fg_LoopRankerModel_16 X hP 0 rfl rfl d_LoopRankerModel_endless_64 ?_
          refine lv_iload X.1.1 X.1.2.1 d_LoopRankerModel_endless_67 (lv_at hl 0 rfl) ?_
          refine wa_ild X.1.1 X.1.2.1 X.2.1 hP 3 0 rfl rfl i rfl (by omega) (by decide) d_LoopRankerModel_endless_69 ?_
          refine lv_aload_n X.1.1 X.1.2.1 d_LoopRankerModel_endless_70 rfl (lv_at hl 2 rfl) ?_
          refine fg_LoopRankerModel_13 X hP 0 rfl rfl d_LoopRankerModel_endless_71 ?_
          refine lv_iload X.1.1 X.1.2.1 d_LoopRankerModel_endless_74 (lv_at hl 0 rfl) ?_
          refine wa_ild X.1.1 X.1.2.1 X.2.1 hP 2 0 rfl rfl i rfl (by omega) (by decide) d_LoopRankerModel_endless_76 ?_
          refine lv_ineg X.1.1 X.1.2.1 d_LoopRankerModel_endless_77 ?_
          refine lv_iload_n X.1.1 X.1.2.1 d_LoopRankerModel_endless_78 rfl (lv_at hl 4 rfl) ?_
          refine lv_iload_n X.1.1 X.1.2.1 d_LoopRankerModel_endless_79 rfl (lv_at hl 5 rfl) ?_
          refine wc_Vi [.int (nI t), .int (fq i), .int (-(fp i)), .int u, .int v] 4 0 X nz_nest (c_LoopRankerModel_way h m1 p1 q1 r1 w1 o1 f1 s1 nc my fp fq fr up sm top bot lv ol fi se x y fd t (fq i) (-(fp i)) u v d hm ht hd) (cw_LoopRankerModel_61 X.1.2.2.2.2 X.2.2.1 (by decide)) ([]) ([]) (rfl) hP hD hS rfl rfl rfl rfl hl.1 (Nat.le_of_ble_eq_true rfl) (by decide) d_LoopRankerModel_endless_80 (fun H locs wn hwn hP hD hS => ?_)
          subst hwn
          have hP : va_P D cls (mW cI h m1 p1 q1 r1 w1 o1 f1 s1 nc my fp fq fr up sm top bot lv ol fi se x y fd) H := hP
          have hD : va_D A (mW cI h m1 p1 q1 r1 w1 o1 f1 s1 nc my fp fq fr up sm top bot lv ol fi se x y fd) := hD
          refine wi0_ne (tgt := 112) X.1.1 X.1.2.1 d_LoopRankerModel_endless_83 (by decide) (fun h83 => ?_) (fun h83 => ?_)
          · refine lv_iconst (v := (1 : Int32)) X.1.1 X.1.2.1 d_LoopRankerModel_endless_112 (by decide) ?_
            refine lv_goto (tgt := 117) X.1.1 X.1.2.1 d_LoopRankerModel_endless_113 (by decide) ?_
            exact jn117 _ H locs (by first | (simp only [m_es, if_pos h28, if_pos h33, if_pos h58, if_neg h83]; done) | simp [m_es, h28, h33, h58, h83]) hP hS
          · refine lv_aload_n X.1.1 X.1.2.1 d_LoopRankerModel_endless_86 rfl (lv_at hl 2 rfl) ?_
            refine lv_iload_n X.1.1 X.1.2.1 d_LoopRankerModel_endless_87 rfl (lv_at hl 3 rfl) ?_
            refine lv_aload_n X.1.1 X.1.2.1 d_LoopRankerModel_endless_88 rfl (lv_at hl 2 rfl) ?_
            refine fg_LoopRankerModel_13 X hP 0 rfl rfl d_LoopRankerModel_endless_89 ?_
            refine lv_iload X.1.1 X.1.2.1 d_LoopRankerModel_endless_92 (lv_at hl 0 rfl) ?_
            refine wa_ild X.1.1 X.1.2.1 X.2.1 hP 2 0 rfl rfl i rfl (by omega) (by decide) d_LoopRankerModel_endless_94 ?_
            refine lv_ineg X.1.1 X.1.2.1 d_LoopRankerModel_endless_95 ?_
            refine lv_aload_n X.1.1 X.1.2.1 d_LoopRankerModel_endless_96 rfl (lv_at hl 2 rfl) ?_
            refine fg_LoopRankerModel_16 X hP 0 rfl rfl d_LoopRankerModel_endless_97 ?_
            refine lv_iload X.1.1 X.1.2.1 d_LoopRankerModel_endless_100 (lv_at hl 0 rfl) ?_
            refine wa_ild X.1.1 X.1.2.1 X.2.1 hP 3 0 rfl rfl i rfl (by omega) (by decide) d_LoopRankerModel_endless_102 ?_
            refine lv_ineg X.1.1 X.1.2.1 d_LoopRankerModel_endless_103 ?_
            refine lv_iload_n X.1.1 X.1.2.1 d_LoopRankerModel_endless_104 rfl (lv_at hl 4 rfl) ?_
            refine lv_iload_n X.1.1 X.1.2.1 d_LoopRankerModel_endless_105 rfl (lv_at hl 5 rfl) ?_
            refine wc_Vi [.int (nI t), .int (-(fp i)), .int (-(fq i)), .int u, .int v] 4 0 X nz_nest (c_LoopRankerModel_way h m1 p1 q1 r1 w1 o1 f1 s1 nc my fp fq fr up sm top bot lv ol fi se x y fd t (-(fp i)) (-(fq i)) u v d hm ht hd) (cw_LoopRankerModel_61 X.1.2.2.2.2 X.2.2.1 (by decide)) ([]) ([]) (rfl) hP hD hS rfl rfl rfl rfl hl.1 (Nat.le_of_ble_eq_true rfl) (by decide) d_LoopRankerModel_endless_106 (fun H locs wn hwn hP hD hS => ?_)
            subst hwn
            have hP : va_P D cls (mW cI h m1 p1 q1 r1 w1 o1 f1 s1 nc my fp fq fr up sm top bot lv ol fi se x y fd) H := hP
            have hD : va_D A (mW cI h m1 p1 q1 r1 w1 o1 f1 s1 nc my fp fq fr up sm top bot lv ol fi se x y fd) := hD
            refine wi0_eq (tgt := 116) X.1.1 X.1.2.1 d_LoopRankerModel_endless_109 (by decide) (fun h109 => ?_) (fun h109 => ?_)
            · refine lv_iconst (v := (0 : Int32)) X.1.1 X.1.2.1 d_LoopRankerModel_endless_116 (by decide) ?_
              exact jn117 _ H locs (by first | (simp only [m_es, if_pos h28, if_pos h33, if_pos h58, if_pos h83, if_pos h109]; done) | simp [m_es, h28, h33, h58, h83, h109]) hP hS
            · refine lv_iconst (v := (1 : Int32)) X.1.1 X.1.2.1 d_LoopRankerModel_endless_112 (by decide) ?_
              refine lv_goto (tgt := 117) X.1.1 X.1.2.1 d_LoopRankerModel_endless_113 (by decide) ?_
              exact jn117 _ H locs (by first | (simp only [m_es, if_pos h28, if_pos h33, if_pos h58, if_pos h83, if_neg h109]; done) | simp [m_es, h28, h33, h58, h83, h109]) hP hS
  exact lp16 d (4 * t) _ ls H locs (by omega) (m_way_01 _ _ _ _ _ _ _ _) (rfl) (lv_sub hl [0, 1, 2, 3, 4, 5] rfl) hP hD hS
set_option maxHeartbeats 4000000 in
set_option maxRecDepth 100000 in
theorem c_LoopRankerModel_empty (h m1 p1 q1 r1 w1 o1 f1 s1 : Nat) (nc : Nat) (my fp fq fr up : Nat → Int32) (sm : Int32) (top bot : Int64) (lv : Nat) (ol fi se : Nat → Int32) (x y : Int64) (fd : Int32) (t : Nat) (d : Nat) (hm : my t = nI d) (ht : t < 6) (hd : d ≤ 4) : wk_ki l y_LoopRankerModel_empty (Cond.code y_LoopRankerModel_empty b_LoopRankerModel_empty 2 (some .boolean) :: BW) rm_LoopRankerModel_empty D cls (kT cI cJ cS) nz [.ref h, .int (nI t)] (mW cI h m1 p1 q1 r1 w1 o1 f1 s1 nc my fp fq fr up sm top bot lv ol fi se x y fd) (fun wz => ∃ sm2 t2 b2, wz = mW cI h m1 p1 q1 r1 w1 o1 f1 s1 nc my fp fq fr up sm2 t2 b2 lv ol fi se x y fd) (m_emp fp fq fr (4 * t) d) := by
  refine ws_z (plainFor_of_name (by decide)) (Nat.le_of_ble_eq_true rfl) ?_
  intro p e s m below meth c A ls Q X hret hl hP hD hS
  obtain ⟨H, hH⟩ : ∃ H, H = s.heap := ⟨_, rfl⟩
  obtain ⟨locs, hlo⟩ : ∃ locs : List Loc, locs = [] := ⟨_, rfl⟩
  have hP : va_P D cls (mW cI h m1 p1 q1 r1 w1 o1 f1 s1 nc my fp fq fr up sm top bot lv ol fi se x y fd) H := by rw [hH]; exact hP
  have hS : va_S A s.heap H locs := by rw [hH, hlo]; exact hS
  suffices hgo : W p l e rm_LoopRankerModel_empty s m ([.ref h, .int (nI t)] : List Value).toArray below meth c H locs 0 0 Q (F0 m 0 ls ([])) by rw [hH, hlo] at hgo; exact hgo
  clear hH hlo
  have hl : lv_has ls 2 [(0, .ref h), (1, .int (nI t))] := hl
  refine lv_aload_n X.1.1 X.1.2.1 d_LoopRankerModel_empty_0 rfl (lv_at hl 0 rfl) ?_
  refine lv_iload_n X.1.1 X.1.2.1 d_LoopRankerModel_empty_1 rfl (lv_at hl 1 rfl) ?_
  refine lv_iconst (v := (0 : Int32)) X.1.1 X.1.2.1 d_LoopRankerModel_empty_2 (by decide) ?_
  refine lv_iconst (v := (0 : Int32)) X.1.1 X.1.2.1 d_LoopRankerModel_empty_3 (by decide) ?_
  refine wc_Vv [.int (nI t), .int (0 : Int32), .int (0 : Int32)] 4 0 X nz_nest (c_LoopRankerModel_look h m1 p1 q1 r1 w1 o1 f1 s1 nc my fp fq fr up sm top bot lv ol fi se x y fd t (0 : Int32) (0 : Int32) d hm ht hd) (cw_LoopRankerModel_65 X.1.2.2.2.2 X.2.2.1 (by decide)) ([]) ([]) (rfl) hP hD hS rfl rfl rfl rfl hl.1 (Nat.le_of_ble_eq_true rfl) (by decide) d_LoopRankerModel_empty_4 (fun H locs wn hwn hP hD hS => ?_)
  subst hwn
  have hP : va_P D cls (mW cI h m1 p1 q1 r1 w1 o1 f1 s1 nc my fp fq fr up ((m_lk fp fq fr (4 * t) d (0 : Int32) (0 : Int32)).1) ((m_lk fp fq fr (4 * t) d (0 : Int32) (0 : Int32)).2.1) ((m_lk fp fq fr (4 * t) d (0 : Int32) (0 : Int32)).2.2) lv ol fi se x y fd) H := hP
  have hD : va_D A (mW cI h m1 p1 q1 r1 w1 o1 f1 s1 nc my fp fq fr up ((m_lk fp fq fr (4 * t) d (0 : Int32) (0 : Int32)).1) ((m_lk fp fq fr (4 * t) d (0 : Int32) (0 : Int32)).2.1) ((m_lk fp fq fr (4 * t) d (0 : Int32) (0 : Int32)).2.2) lv ol fi se x y fd) := hD
  refine lv_aload_n X.1.1 X.1.2.1 d_LoopRankerModel_empty_7 rfl (lv_at hl 0 rfl) ?_
  refine fg_LoopRankerModel_46 X hP 0 rfl rfl d_LoopRankerModel_empty_8 ?_
  refine wi0_ne (tgt := 18) X.1.1 X.1.2.1 d_LoopRankerModel_empty_11 (by decide) (fun h11 => ?_) (fun h11 => ?_)
  · refine lv_iconst (v := (0 : Int32)) X.1.1 X.1.2.1 d_LoopRankerModel_empty_18 (by decide) ?_
    exact hret 19 H locs ls _ _ hP hD hS d_LoopRankerModel_empty_19 (Or.inl rfl) (by first | (simp only [m_emp, if_neg h11]; done) | simp [m_emp, h11]) (⟨_, _, _, rfl⟩)
  · refine lv_iconst (v := (1 : Int32)) X.1.1 X.1.2.1 d_LoopRankerModel_empty_14 (by decide) ?_
    refine lv_goto (tgt := 19) X.1.1 X.1.2.1 d_LoopRankerModel_empty_15 (by decide) ?_
    exact hret 19 H locs ls _ _ hP hD hS d_LoopRankerModel_empty_19 (Or.inr rfl) (by first | (simp only [m_emp, if_pos h11]; done) | simp [m_emp, h11]) (⟨_, _, _, rfl⟩)
set_option maxHeartbeats 4000000 in
set_option maxRecDepth 100000 in
theorem c_LoopRankerModel_said (h m1 p1 q1 r1 w1 o1 f1 s1 : Nat) (nc : Nat) (my fp fq fr up : Nat → Int32) (sm : Int32) (top bot : Int64) (lv : Nat) (ol fi se : Nat → Int32) (x y : Int64) (fd : Int32) (t : Nat) (u v : Int32) (d : Nat) (hm : my t = nI d) (ht : t < 6) (hd : d ≤ 4) : wk_ki l y_LoopRankerModel_said (Cond.code y_LoopRankerModel_said b_LoopRankerModel_said 4 (some .boolean) :: BW) rm_LoopRankerModel_said D cls (kT cI cJ cS) nz [.ref h, .int (nI t), .int u, .int v] (mW cI h m1 p1 q1 r1 w1 o1 f1 s1 nc my fp fq fr up sm top bot lv ol fi se x y fd) (fun wz => wz = mW cI h m1 p1 q1 r1 w1 o1 f1 s1 nc my fp fq fr up ((m_lk fp fq fr (4 * t) d u v).1) ((m_lk fp fq fr (4 * t) d u v).2.1) ((m_lk fp fq fr (4 * t) d u v).2.2) lv ol fi se x y fd) (m_said fp fq (4 * t) d u v) := by
  refine ws_z (plainFor_of_name (by decide)) (Nat.le_of_ble_eq_true rfl) ?_
  intro p e s m below meth c A ls Q X hret hl hP hD hS
  obtain ⟨H, hH⟩ : ∃ H, H = s.heap := ⟨_, rfl⟩
  obtain ⟨locs, hlo⟩ : ∃ locs : List Loc, locs = [] := ⟨_, rfl⟩
  have hP : va_P D cls (mW cI h m1 p1 q1 r1 w1 o1 f1 s1 nc my fp fq fr up sm top bot lv ol fi se x y fd) H := by rw [hH]; exact hP
  have hS : va_S A s.heap H locs := by rw [hH, hlo]; exact hS
  suffices hgo : W p l e rm_LoopRankerModel_said s m ([.ref h, .int (nI t), .int u, .int v] : List Value).toArray below meth c H locs 0 0 Q (F0 m 0 ls ([])) by rw [hH, hlo] at hgo; exact hgo
  clear hH hlo
  have hl : lv_has ls 4 [(0, .ref h), (1, .int (nI t)), (2, .int u), (3, .int v)] := hl
  refine lv_aload_n X.1.1 X.1.2.1 d_LoopRankerModel_said_0 rfl (lv_at hl 0 rfl) ?_
  refine lv_iload_n X.1.1 X.1.2.1 d_LoopRankerModel_said_1 rfl (lv_at hl 1 rfl) ?_
  refine lv_iload_n X.1.1 X.1.2.1 d_LoopRankerModel_said_2 rfl (lv_at hl 2 rfl) ?_
  refine lv_iload_n X.1.1 X.1.2.1 d_LoopRankerModel_said_3 rfl (lv_at hl 3 rfl) ?_
  refine wc_Vv [.int (nI t), .int u, .int v] 4 0 X nz_nest (c_LoopRankerModel_look h m1 p1 q1 r1 w1 o1 f1 s1 nc my fp fq fr up sm top bot lv ol fi se x y fd t u v d hm ht hd) (cw_LoopRankerModel_65 X.1.2.2.2.2 X.2.2.1 (by decide)) ([]) ([]) (rfl) hP hD hS rfl rfl rfl rfl hl.1 (Nat.le_of_ble_eq_true rfl) (by decide) d_LoopRankerModel_said_4 (fun H locs wn hwn hP hD hS => ?_)
  subst hwn
  have hP : va_P D cls (mW cI h m1 p1 q1 r1 w1 o1 f1 s1 nc my fp fq fr up ((m_lk fp fq fr (4 * t) d u v).1) ((m_lk fp fq fr (4 * t) d u v).2.1) ((m_lk fp fq fr (4 * t) d u v).2.2) lv ol fi se x y fd) H := hP
  have hD : va_D A (mW cI h m1 p1 q1 r1 w1 o1 f1 s1 nc my fp fq fr up ((m_lk fp fq fr (4 * t) d u v).1) ((m_lk fp fq fr (4 * t) d u v).2.1) ((m_lk fp fq fr (4 * t) d u v).2.2) lv ol fi se x y fd) := hD
  refine lv_aload_n X.1.1 X.1.2.1 d_LoopRankerModel_said_7 rfl (lv_at hl 0 rfl) ?_
  refine lv_iload_n X.1.1 X.1.2.1 d_LoopRankerModel_said_8 rfl (lv_at hl 1 rfl) ?_
  refine lv_iload_n X.1.1 X.1.2.1 d_LoopRankerModel_said_9 rfl (lv_at hl 2 rfl) ?_
  refine lv_iload_n X.1.1 X.1.2.1 d_LoopRankerModel_said_10 rfl (lv_at hl 3 rfl) ?_
  refine wc_Vi [.int (nI t), .int u, .int v] 4 0 X nz_nest (c_LoopRankerModel_endless h m1 p1 q1 r1 w1 o1 f1 s1 nc my fp fq fr up ((m_lk fp fq fr (4 * t) d u v).1) ((m_lk fp fq fr (4 * t) d u v).2.1) ((m_lk fp fq fr (4 * t) d u v).2.2) lv ol fi se x y fd t u v d hm ht hd) (cw_LoopRankerModel_69 X.1.2.2.2.2 X.2.2.1 (by decide)) ([]) ([]) (rfl) hP hD hS rfl rfl rfl rfl hl.1 (Nat.le_of_ble_eq_true rfl) (by decide) d_LoopRankerModel_said_11 (fun H locs wn hwn hP hD hS => ?_)
  subst hwn
  have hP : va_P D cls (mW cI h m1 p1 q1 r1 w1 o1 f1 s1 nc my fp fq fr up ((m_lk fp fq fr (4 * t) d u v).1) ((m_lk fp fq fr (4 * t) d u v).2.1) ((m_lk fp fq fr (4 * t) d u v).2.2) lv ol fi se x y fd) H := hP
  have hD : va_D A (mW cI h m1 p1 q1 r1 w1 o1 f1 s1 nc my fp fq fr up ((m_lk fp fq fr (4 * t) d u v).1) ((m_lk fp fq fr (4 * t) d u v).2.1) ((m_lk fp fq fr (4 * t) d u v).2.2) lv ol fi se x y fd) := hD
  refine wi0_ne (tgt := 21) X.1.1 X.1.2.1 d_LoopRankerModel_said_14 (by decide) (fun h14 => ?_) (fun h14 => ?_)
  · refine lv_iconst (v := (0 : Int32)) X.1.1 X.1.2.1 d_LoopRankerModel_said_21 (by decide) ?_
    exact hret 22 H locs ls _ _ hP hD hS d_LoopRankerModel_said_22 (Or.inl rfl) (by first | (simp only [m_said, if_neg h14]; done) | simp [m_said, h14]) (rfl)
  · refine lv_iconst (v := (1 : Int32)) X.1.1 X.1.2.1 d_LoopRankerModel_said_17 (by decide) ?_
    refine lv_goto (tgt := 22) X.1.1 X.1.2.1 d_LoopRankerModel_said_18 (by decide) ?_
    exact hret 22 H locs ls _ _ hP hD hS d_LoopRankerModel_said_22 (Or.inr rfl) (by first | (simp only [m_said, if_pos h14]; done) | simp [m_said, h14]) (rfl)
set_option maxHeartbeats 4000000 in
set_option maxRecDepth 100000 in
theorem c_LoopRankerModel_never (h m1 p1 q1 r1 w1 o1 f1 s1 : Nat) (nc : Nat) (my fp fq fr up : Nat → Int32) (sm : Int32) (top bot : Int64) (lv : Nat) (ol fi se : Nat → Int32) (x y : Int64) (fd : Int32) (t : Nat) (u v w : Int32) (d : Nat) (hm : my t = nI d) (ht : t < 6) (hd : d ≤ 4) : wk_ki l y_LoopRankerModel_never (Cond.code y_LoopRankerModel_never b_LoopRankerModel_never 5 (some .boolean) :: BW) rm_LoopRankerModel_never D cls (kT cI cJ cS) nz [.ref h, .int (nI t), .int u, .int v, .int w] (mW cI h m1 p1 q1 r1 w1 o1 f1 s1 nc my fp fq fr up sm top bot lv ol fi se x y fd) (fun wz => ∃ sm2 t2 b2, wz = mW cI h m1 p1 q1 r1 w1 o1 f1 s1 nc my fp fq fr up sm2 t2 b2 lv ol fi se x y fd) (m_nev fp fq fr (4 * t) d u v w) := by
  refine ws_z (plainFor_of_name (by decide)) (Nat.le_of_ble_eq_true rfl) ?_
  intro p e s m below meth c A ls Q X hret hl hP hD hS
  obtain ⟨H, hH⟩ : ∃ H, H = s.heap := ⟨_, rfl⟩
  obtain ⟨locs, hlo⟩ : ∃ locs : List Loc, locs = [] := ⟨_, rfl⟩
  have hP : va_P D cls (mW cI h m1 p1 q1 r1 w1 o1 f1 s1 nc my fp fq fr up sm top bot lv ol fi se x y fd) H := by rw [hH]; exact hP
  have hS : va_S A s.heap H locs := by rw [hH, hlo]; exact hS
  suffices hgo : W p l e rm_LoopRankerModel_never s m ([.ref h, .int (nI t), .int u, .int v, .int w] : List Value).toArray below meth c H locs 0 0 Q (F0 m 0 ls ([])) by rw [hH, hlo] at hgo; exact hgo
  clear hH hlo
  have hl : lv_has ls 5 [(0, .ref h), (1, .int (nI t)), (2, .int u), (3, .int v), (4, .int w)] := hl
  refine lv_aload_n X.1.1 X.1.2.1 d_LoopRankerModel_never_0 rfl (lv_at hl 0 rfl) ?_
  refine lv_iload_n X.1.1 X.1.2.1 d_LoopRankerModel_never_1 rfl (lv_at hl 1 rfl) ?_
  refine wc_Vi [.int (nI t)] 4 0 X nz_nest (c_LoopRankerModel_empty h m1 p1 q1 r1 w1 o1 f1 s1 nc my fp fq fr up sm top bot lv ol fi se x y fd t d hm ht hd) (cw_LoopRankerModel_75 X.1.2.2.2.2 X.2.2.1 (by decide)) ([]) ([]) (rfl) hP hD hS rfl rfl rfl rfl hl.1 (Nat.le_of_ble_eq_true rfl) (by decide) d_LoopRankerModel_never_2 (fun H locs wn hwn hP hD hS => ?_)
  obtain ⟨sm1, top1, bot1, rfl⟩ := hwn
  have hP : va_P D cls (mW cI h m1 p1 q1 r1 w1 o1 f1 s1 nc my fp fq fr up sm1 top1 bot1 lv ol fi se x y fd) H := hP
  have hD : va_D A (mW cI h m1 p1 q1 r1 w1 o1 f1 s1 nc my fp fq fr up sm1 top1 bot1 lv ol fi se x y fd) := hD
  refine wi0_ne (tgt := 35) X.1.1 X.1.2.1 d_LoopRankerModel_never_5 (by decide) (fun h5 => ?_) (fun h5 => ?_)
  · refine lv_iconst (v := (1 : Int32)) X.1.1 X.1.2.1 d_LoopRankerModel_never_35 (by decide) ?_
    refine lv_goto (tgt := 40) X.1.1 X.1.2.1 d_LoopRankerModel_never_36 (by decide) ?_
    exact hret 40 H locs ls _ _ hP hD hS d_LoopRankerModel_never_40 (Or.inr rfl) (by first | (simp only [m_nev, if_neg h5]; done) | simp [m_nev, h5]) (⟨_, _, _, rfl⟩)
  · refine lv_aload_n X.1.1 X.1.2.1 d_LoopRankerModel_never_8 rfl (lv_at hl 0 rfl) ?_
    refine lv_iload_n X.1.1 X.1.2.1 d_LoopRankerModel_never_9 rfl (lv_at hl 1 rfl) ?_
    refine lv_iload_n X.1.1 X.1.2.1 d_LoopRankerModel_never_10 rfl (lv_at hl 2 rfl) ?_
    refine lv_iload_n X.1.1 X.1.2.1 d_LoopRankerModel_never_11 rfl (lv_at hl 3 rfl) ?_
    refine wc_Vi [.int (nI t), .int u, .int v] 4 0 X nz_nest (c_LoopRankerModel_said h m1 p1 q1 r1 w1 o1 f1 s1 nc my fp fq fr up sm1 top1 bot1 lv ol fi se x y fd t u v d hm ht hd) (cw_LoopRankerModel_80 X.1.2.2.2.2 X.2.2.1 (by decide)) ([]) ([]) (rfl) hP hD hS rfl rfl rfl rfl hl.1 (Nat.le_of_ble_eq_true rfl) (by decide) d_LoopRankerModel_never_12 (fun H locs wn hwn hP hD hS => ?_)
    subst hwn
    have hP : va_P D cls (mW cI h m1 p1 q1 r1 w1 o1 f1 s1 nc my fp fq fr up ((m_lk fp fq fr (4 * t) d u v).1) ((m_lk fp fq fr (4 * t) d u v).2.1) ((m_lk fp fq fr (4 * t) d u v).2.2) lv ol fi se x y fd) H := hP
    have hD : va_D A (mW cI h m1 p1 q1 r1 w1 o1 f1 s1 nc my fp fq fr up ((m_lk fp fq fr (4 * t) d u v).1) ((m_lk fp fq fr (4 * t) d u v).2.1) ((m_lk fp fq fr (4 * t) d u v).2.2) lv ol fi se x y fd) := hD
    refine wi0_eq (tgt := 39) X.1.1 X.1.2.1 d_LoopRankerModel_never_15 (by decide) (fun h15 => ?_) (fun h15 => ?_)
    · refine lv_iconst (v := (0 : Int32)) X.1.1 X.1.2.1 d_LoopRankerModel_never_39 (by decide) ?_
      exact hret 40 H locs ls _ _ hP hD hS d_LoopRankerModel_never_40 (Or.inl rfl) (by first | (simp only [m_nev, if_pos h5, if_pos h15]; done) | simp [m_nev, h5, h15]) (⟨_, _, _, rfl⟩)
    · refine lv_aload_n X.1.1 X.1.2.1 d_LoopRankerModel_never_18 rfl (lv_at hl 0 rfl) ?_
      refine fg_LoopRankerModel_54 X hP 0 rfl rfl d_LoopRankerModel_never_19 ?_
      refine lv_iload X.1.1 X.1.2.1 d_LoopRankerModel_never_22 (lv_at hl 4 rfl) ?_
      refine lv_ineg X.1.1 X.1.2.1 d_LoopRankerModel_never_24 ?_
      refine lv_i2l X.1.1 X.1.2.1 d_LoopRankerModel_never_25 rfl ?_
      refine lv_aload_n X.1.1 X.1.2.1 d_LoopRankerModel_never_26 rfl (lv_at hl 0 rfl) ?_
      refine fg_LoopRankerModel_50 X hP 0 rfl rfl d_LoopRankerModel_never_27 ?_
      refine lv_lmul X.1.1 X.1.2.1 d_LoopRankerModel_never_30 ?_
      refine wl_gt (tgt := 39) X.1.1 X.1.2.1 d_LoopRankerModel_never_31 d_LoopRankerModel_never_32 (by decide) (fun h31 => ?_) (fun h31 => ?_)
      · refine lv_iconst (v := (0 : Int32)) X.1.1 X.1.2.1 d_LoopRankerModel_never_39 (by decide) ?_
        exact hret 40 H locs ls _ _ hP hD hS d_LoopRankerModel_never_40 (Or.inl rfl) (by first | (simp only [m_nev, if_pos h5, if_neg h15, if_pos h31]; done) | simp [m_nev, h5, h15, h31]) (⟨_, _, _, rfl⟩)
      · refine lv_iconst (v := (1 : Int32)) X.1.1 X.1.2.1 d_LoopRankerModel_never_35 (by decide) ?_
        refine lv_goto (tgt := 40) X.1.1 X.1.2.1 d_LoopRankerModel_never_36 (by decide) ?_
        exact hret 40 H locs ls _ _ hP hD hS d_LoopRankerModel_never_40 (Or.inr rfl) (by first | (simp only [m_nev, if_pos h5, if_neg h15, if_neg h31]; done) | simp [m_nev, h5, h15, h31]) (⟨_, _, _, rfl⟩)
set_option maxHeartbeats 4000000 in
set_option maxRecDepth 100000 in
theorem c_LoopRankerModel_has (h m1 p1 q1 r1 w1 o1 f1 s1 : Nat) (nc : Nat) (my fp fq fr up : Nat → Int32) (sm : Int32) (top bot : Int64) (lv : Nat) (ol fi se : Nat → Int32) (x y : Int64) (fd : Int32) (t : Nat) (u v what : Int32) (d : Nat) (hm : my t = nI d) (ht : t < 6) (hd : d ≤ 4) : wk_ki l y_LoopRankerModel_has (Cond.code y_LoopRankerModel_has b_LoopRankerModel_has 9 (some .boolean) :: BW) rm_LoopRankerModel_has D cls (kT cI cJ cS) nz [.ref h, .int (nI t), .int u, .int v, .int what] (mW cI h m1 p1 q1 r1 w1 o1 f1 s1 nc my fp fq fr up sm top bot lv ol fi se x y fd) (fun wz => ∃ sm2 t2 b2, wz = mW cI h m1 p1 q1 r1 w1 o1 f1 s1 nc my fp fq fr up sm2 t2 b2 lv ol fi se x y fd) (m_has fp fq fr up t d u v what) := by
  refine ws_z (plainFor_of_name (by decide)) (Nat.le_of_ble_eq_true rfl) ?_
  intro p e s m below meth c A ls Q X hret hl hP hD hS
  obtain ⟨H, hH⟩ : ∃ H, H = s.heap := ⟨_, rfl⟩
  obtain ⟨locs, hlo⟩ : ∃ locs : List Loc, locs = [] := ⟨_, rfl⟩
  have hP : va_P D cls (mW cI h m1 p1 q1 r1 w1 o1 f1 s1 nc my fp fq fr up sm top bot lv ol fi se x y fd) H := by rw [hH]; exact hP
  have hS : va_S A s.heap H locs := by rw [hH, hlo]; exact hS
  suffices hgo : W p l e rm_LoopRankerModel_has s m ([.ref h, .int (nI t), .int u, .int v, .int what] : List Value).toArray below meth c H locs 0 0 Q (F0 m 0 ls ([])) by rw [hH, hlo] at hgo; exact hgo
  clear hH hlo
  have hl : lv_has ls 9 [(0, .ref h), (1, .int (nI t)), (2, .int u), (3, .int v), (4, .int what)] := hl
  refine lv_iload X.1.1 X.1.2.1 d_LoopRankerModel_has_0 (lv_at hl 4 rfl) ?_
  refine lv_iconst (v := (2 : Int32)) X.1.1 X.1.2.1 d_LoopRankerModel_has_2 (by decide) ?_
  refine wi_ne (tgt := 32) X.1.1 X.1.2.1 d_LoopRankerModel_has_3 (by decide) (fun h3 => ?_) (fun h3 => ?_)
  · refine lv_bipush (v := (6 : Int32)) X.1.1 X.1.2.1 d_LoopRankerModel_has_32 (by decide) ?_
    refine lv_iload_n X.1.1 X.1.2.1 d_LoopRankerModel_has_34 rfl (lv_at hl 1 rfl) ?_
    refine wn_mul (a := 6) (b := t) X.1.1 X.1.2.1 d_LoopRankerModel_has_35 ?_
    refine lv_istore X.1.1 X.1.2.1 d_LoopRankerModel_has_36 hl (by decide) rfl (fun ls hl => ?_)
    have hl : lv_has ls 9 [(5, .int (nI (6 * t))), (0, .ref h), (1, .int (nI t)), (2, .int u), (3, .int v), (4, .int what)] := hl
    refine lv_iload_n X.1.1 X.1.2.1 d_LoopRankerModel_has_38 rfl (lv_at hl 3 rfl) ?_
    refine lv_aload_n X.1.1 X.1.2.1 d_LoopRankerModel_has_39 rfl (lv_at hl 1 rfl) ?_
    refine fg_LoopRankerModel_22 X hP 0 rfl rfl d_LoopRankerModel_has_40 ?_
    refine lv_iload X.1.1 X.1.2.1 d_LoopRankerModel_has_43 (lv_at hl 0 rfl) ?_
    refine wa_ild X.1.1 X.1.2.1 X.2.1 hP 5 0 rfl rfl (6 * t) rfl (by omega) (by decide) d_LoopRankerModel_has_45 ?_
    refine lv_imul X.1.1 X.1.2.1 d_LoopRankerModel_has_46 ?_
    refine lv_iload_n X.1.1 X.1.2.1 d_LoopRankerModel_has_47 rfl (lv_at hl 4 rfl) ?_
    refine lv_aload_n X.1.1 X.1.2.1 d_LoopRankerModel_has_48 rfl (lv_at hl 1 rfl) ?_
    refine fg_LoopRankerModel_22 X hP 0 rfl rfl d_LoopRankerModel_has_49 ?_
    refine lv_iload X.1.1 X.1.2.1 d_LoopRankerModel_has_52 (lv_at hl 0 rfl) ?_
    refine lv_iconst (v := (3 : Int32)) X.1.1 X.1.2.1 d_LoopRankerModel_has_54 (by decide) ?_
    refine wn_add (a := 6 * t) (b := 3) X.1.1 X.1.2.1 d_LoopRankerModel_has_55 ?_
    refine wa_ild X.1.1 X.1.2.1 X.2.1 hP 5 0 rfl rfl (6 * t + 3) rfl (by omega) (by decide) d_LoopRankerModel_has_56 ?_
    refine lv_imul X.1.1 X.1.2.1 d_LoopRankerModel_has_57 ?_
    refine lv_iadd X.1.1 X.1.2.1 d_LoopRankerModel_has_58 ?_
    refine lv_iload_n X.1.1 X.1.2.1 d_LoopRankerModel_has_59 rfl (lv_at hl 3 rfl) ?_
    refine lv_isub X.1.1 X.1.2.1 d_LoopRankerModel_has_60 ?_
    refine lv_istore X.1.1 X.1.2.1 d_LoopRankerModel_has_61 hl (by decide) rfl (fun ls hl => ?_)
    have hl : lv_has ls 9 [(6, .int (((u * (up (6 * t))) + (v * (up (6 * t + 3)))) - u)), (5, .int (nI (6 * t))), (0, .ref h), (1, .int (nI t)), (2, .int u), (3, .int v), (4, .int what)] := hl
    refine lv_iload_n X.1.1 X.1.2.1 d_LoopRankerModel_has_63 rfl (lv_at hl 4 rfl) ?_
    refine lv_aload_n X.1.1 X.1.2.1 d_LoopRankerModel_has_64 rfl (lv_at hl 2 rfl) ?_
    refine fg_LoopRankerModel_22 X hP 0 rfl rfl d_LoopRankerModel_has_65 ?_
    refine lv_iload X.1.1 X.1.2.1 d_LoopRankerModel_has_68 (lv_at hl 1 rfl) ?_
    refine lv_iconst (v := (1 : Int32)) X.1.1 X.1.2.1 d_LoopRankerModel_has_70 (by decide) ?_
    refine wn_add (a := 6 * t) (b := 1) X.1.1 X.1.2.1 d_LoopRankerModel_has_71 ?_
    refine wa_ild X.1.1 X.1.2.1 X.2.1 hP 5 0 rfl rfl (6 * t + 1) rfl (by omega) (by decide) d_LoopRankerModel_has_72 ?_
    refine lv_imul X.1.1 X.1.2.1 d_LoopRankerModel_has_73 ?_
    refine lv_iload_n X.1.1 X.1.2.1 d_LoopRankerModel_has_74 rfl (lv_at hl 5 rfl) ?_
    refine lv_aload_n X.1.1 X.1.2.1 d_LoopRankerModel_has_75 rfl (lv_at hl 2 rfl) ?_
    refine fg_LoopRankerModel_22 X hP 0 rfl rfl d_LoopRankerModel_has_76 ?_
    refine lv_iload X.1.1 X.1.2.1 d_LoopRankerModel_has_79 (lv_at hl 1 rfl) ?_
    refine lv_iconst (v := (4 : Int32)) X.1.1 X.1.2.1 d_LoopRankerModel_has_81 (by decide) ?_
    refine wn_add (a := 6 * t) (b := 4) X.1.1 X.1.2.1 d_LoopRankerModel_has_82 ?_
    refine wa_ild X.1.1 X.1.2.1 X.2.1 hP 5 0 rfl rfl (6 * t + 4) rfl (by omega) (by decide) d_LoopRankerModel_has_83 ?_
    refine lv_imul X.1.1 X.1.2.1 d_LoopRankerModel_has_84 ?_
    refine lv_iadd X.1.1 X.1.2.1 d_LoopRankerModel_has_85 ?_
    refine lv_iload_n X.1.1 X.1.2.1 d_LoopRankerModel_has_86 rfl (lv_at hl 5 rfl) ?_
    refine lv_isub X.1.1 X.1.2.1 d_LoopRankerModel_has_87 ?_
    refine lv_istore X.1.1 X.1.2.1 d_LoopRankerModel_has_88 hl (by decide) rfl (fun ls hl => ?_)
    have hl : lv_has ls 9 [(7, .int (((u * (up (6 * t + 1))) + (v * (up (6 * t + 4)))) - v)), (6, .int (((u * (up (6 * t))) + (v * (up (6 * t + 3)))) - u)), (5, .int (nI (6 * t))), (0, .ref h), (1, .int (nI t)), (2, .int u), (3, .int v), (4, .int what)] := hl
    refine lv_iload_n X.1.1 X.1.2.1 d_LoopRankerModel_has_90 rfl (lv_at hl 5 rfl) ?_
    refine lv_aload_n X.1.1 X.1.2.1 d_LoopRankerModel_has_91 rfl (lv_at hl 3 rfl) ?_
    refine fg_LoopRankerModel_22 X hP 0 rfl rfl d_LoopRankerModel_has_92 ?_
    refine lv_iload X.1.1 X.1.2.1 d_LoopRankerModel_has_95 (lv_at hl 2 rfl) ?_
    refine lv_iconst (v := (2 : Int32)) X.1.1 X.1.2.1 d_LoopRankerModel_has_97 (by decide) ?_
    refine wn_add (a := 6 * t) (b := 2) X.1.1 X.1.2.1 d_LoopRankerModel_has_98 ?_
    refine wa_ild X.1.1 X.1.2.1 X.2.1 hP 5 0 rfl rfl (6 * t + 2) rfl (by omega) (by decide) d_LoopRankerModel_has_99 ?_
    refine lv_imul X.1.1 X.1.2.1 d_LoopRankerModel_has_100 ?_
    refine lv_iload_n X.1.1 X.1.2.1 d_LoopRankerModel_has_101 rfl (lv_at hl 6 rfl) ?_
    refine lv_aload_n X.1.1 X.1.2.1 d_LoopRankerModel_has_102 rfl (lv_at hl 3 rfl) ?_
    refine fg_LoopRankerModel_22 X hP 0 rfl rfl d_LoopRankerModel_has_103 ?_
    refine lv_iload X.1.1 X.1.2.1 d_LoopRankerModel_has_106 (lv_at hl 2 rfl) ?_
    refine lv_iconst (v := (5 : Int32)) X.1.1 X.1.2.1 d_LoopRankerModel_has_108 (by decide) ?_
    refine wn_add (a := 6 * t) (b := 5) X.1.1 X.1.2.1 d_LoopRankerModel_has_109 ?_
    refine wa_ild X.1.1 X.1.2.1 X.2.1 hP 5 0 rfl rfl (6 * t + 5) rfl (by omega) (by decide) d_LoopRankerModel_has_110 ?_
    refine lv_imul X.1.1 X.1.2.1 d_LoopRankerModel_has_111 ?_
    refine lv_iadd X.1.1 X.1.2.1 d_LoopRankerModel_has_112 ?_
    refine lv_istore X.1.1 X.1.2.1 d_LoopRankerModel_has_113 hl (by decide) rfl (fun ls hl => ?_)
    have hl : lv_has ls 9 [(8, .int ((u * (up (6 * t + 2))) + (v * (up (6 * t + 5))))), (7, .int (((u * (up (6 * t + 1))) + (v * (up (6 * t + 4)))) - v)), (6, .int (((u * (up (6 * t))) + (v * (up (6 * t + 3)))) - u)), (5, .int (nI (6 * t))), (0, .ref h), (1, .int (nI t)), (2, .int u), (3, .int v), (4, .int what)] := hl
    refine lv_aload_n X.1.1 X.1.2.1 d_LoopRankerModel_has_115 rfl (lv_at hl 4 rfl) ?_
    refine lv_iload_n X.1.1 X.1.2.1 d_LoopRankerModel_has_116 rfl (lv_at hl 5 rfl) ?_
    refine lv_iload X.1.1 X.1.2.1 d_LoopRankerModel_has_117 (lv_at hl 2 rfl) ?_
    refine lv_iload X.1.1 X.1.2.1 d_LoopRankerModel_has_119 (lv_at hl 1 rfl) ?_
    refine lv_iload X.1.1 X.1.2.1 d_LoopRankerModel_has_121 (lv_at hl 8 rfl) ?_
    refine wi0_ne (tgt := 131) X.1.1 X.1.2.1 d_LoopRankerModel_has_123 (by decide) (fun h123 => ?_) (fun h123 => ?_)
    · refine lv_iload X.1.1 X.1.2.1 d_LoopRankerModel_has_131 (lv_at hl 0 rfl) ?_
      refine lv_iconst (v := (1 : Int32)) X.1.1 X.1.2.1 d_LoopRankerModel_has_133 (by decide) ?_
      refine lv_iadd X.1.1 X.1.2.1 d_LoopRankerModel_has_134 ?_
      refine wc_Vi [.int (nI t), .int (((u * (up (6 * t))) + (v * (up (6 * t + 3)))) - u), .int (((u * (up (6 * t + 1))) + (v * (up (6 * t + 4)))) - v), .int (((u * (up (6 * t + 2))) + (v * (up (6 * t + 5)))) + (1 : Int32))] 4 0 X nz_nest (c_LoopRankerModel_never h m1 p1 q1 r1 w1 o1 f1 s1 nc my fp fq fr up sm top bot lv ol fi se x y fd t (((u * (up (6 * t))) + (v * (up (6 * t + 3)))) - u) (((u * (up (6 * t + 1))) + (v * (up (6 * t + 4)))) - v) (((u * (up (6 * t + 2))) + (v * (up (6 * t + 5)))) + (1 : Int32)) d hm ht hd) (cw_LoopRankerModel_87 X.1.2.2.2.2 X.2.2.1 (by decide)) ([]) ([]) (rfl) hP hD hS rfl rfl rfl rfl hl.1 (Nat.le_of_ble_eq_true rfl) (by decide) d_LoopRankerModel_has_135 (fun H locs wn hwn hP hD hS => ?_)
      obtain ⟨sm1, top1, bot1, rfl⟩ := hwn
      have hP : va_P D cls (mW cI h m1 p1 q1 r1 w1 o1 f1 s1 nc my fp fq fr up sm1 top1 bot1 lv ol fi se x y fd) H := hP
      have hD : va_D A (mW cI h m1 p1 q1 r1 w1 o1 f1 s1 nc my fp fq fr up sm1 top1 bot1 lv ol fi se x y fd) := hD
      exact hret 138 H locs ls _ _ hP hD hS d_LoopRankerModel_has_138 (m_nev_01 _ _ _ _ _ _ _ _) (by first | (simp only [m_has, m_bd, if_neg h3, if_neg h123]; done) | simp [m_has, m_bd, h3, h123]) (⟨_, _, _, rfl⟩)
    · refine lv_iload X.1.1 X.1.2.1 d_LoopRankerModel_has_126 (lv_at hl 0 rfl) ?_
      refine lv_goto (tgt := 135) X.1.1 X.1.2.1 d_LoopRankerModel_has_128 (by decide) ?_
      refine wc_Vi [.int (nI t), .int (((u * (up (6 * t))) + (v * (up (6 * t + 3)))) - u), .int (((u * (up (6 * t + 1))) + (v * (up (6 * t + 4)))) - v), .int ((u * (up (6 * t + 2))) + (v * (up (6 * t + 5))))] 4 0 X nz_nest (c_LoopRankerModel_never h m1 p1 q1 r1 w1 o1 f1 s1 nc my fp fq fr up sm top bot lv ol fi se x y fd t (((u * (up (6 * t))) + (v * (up (6 * t + 3)))) - u) (((u * (up (6 * t + 1))) + (v * (up (6 * t + 4)))) - v) ((u * (up (6 * t + 2))) + (v * (up (6 * t + 5)))) d hm ht hd) (cw_LoopRankerModel_87 X.1.2.2.2.2 X.2.2.1 (by decide)) ([]) ([]) (rfl) hP hD hS rfl rfl rfl rfl hl.1 (Nat.le_of_ble_eq_true rfl) (by decide) d_LoopRankerModel_has_135 (fun H locs wn hwn hP hD hS => ?_)
      obtain ⟨sm2, top2, bot2, rfl⟩ := hwn
      have hP : va_P D cls (mW cI h m1 p1 q1 r1 w1 o1 f1 s1 nc my fp fq fr up sm2 top2 bot2 lv ol fi se x y fd) H := hP
      have hD : va_D A (mW cI h m1 p1 q1 r1 w1 o1 f1 s1 nc my fp fq fr up sm2 top2 bot2 lv ol fi se x y fd) := hD
      exact hret 138 H locs ls _ _ hP hD hS d_LoopRankerModel_has_138 (m_nev_01 _ _ _ _ _ _ _ _) (by first | (simp only [m_has, m_bd, if_neg h3, if_pos h123]; done) | simp [m_has, m_bd, h3, h123]) (⟨_, _, _, rfl⟩)
  · refine lv_aload_n X.1.1 X.1.2.1 d_LoopRankerModel_has_6 rfl (lv_at hl 0 rfl) ?_
    refine lv_iload_n X.1.1 X.1.2.1 d_LoopRankerModel_has_7 rfl (lv_at hl 1 rfl) ?_
    refine wc_Vi [.int (nI t)] 4 0 X nz_nest (c_LoopRankerModel_empty h m1 p1 q1 r1 w1 o1 f1 s1 nc my fp fq fr up sm top bot lv ol fi se x y fd t d hm ht hd) (cw_LoopRankerModel_75 X.1.2.2.2.2 X.2.2.1 (by decide)) ([]) ([]) (rfl) hP hD hS rfl rfl rfl rfl hl.1 (Nat.le_of_ble_eq_true rfl) (by decide) d_LoopRankerModel_has_8 (fun H locs wn hwn hP hD hS => ?_)
    obtain ⟨sm3, top3, bot3, rfl⟩ := hwn
    have hP : va_P D cls (mW cI h m1 p1 q1 r1 w1 o1 f1 s1 nc my fp fq fr up sm3 top3 bot3 lv ol fi se x y fd) H := hP
    have hD : va_D A (mW cI h m1 p1 q1 r1 w1 o1 f1 s1 nc my fp fq fr up sm3 top3 bot3 lv ol fi se x y fd) := hD
    refine wi0_ne (tgt := 26) X.1.1 X.1.2.1 d_LoopRankerModel_has_11 (by decide) (fun h11 => ?_) (fun h11 => ?_)
    · refine lv_iconst (v := (1 : Int32)) X.1.1 X.1.2.1 d_LoopRankerModel_has_26 (by decide) ?_
      refine lv_goto (tgt := 31) X.1.1 X.1.2.1 d_LoopRankerModel_has_27 (by decide) ?_
      exact hret 31 H locs ls _ _ hP hD hS d_LoopRankerModel_has_31 (Or.inr rfl) (by first | (simp only [m_has, m_bd, if_pos h3, if_neg h11]; done) | simp [m_has, m_bd, h3, h11]) (⟨_, _, _, rfl⟩)
    · refine lv_aload_n X.1.1 X.1.2.1 d_LoopRankerModel_has_14 rfl (lv_at hl 0 rfl) ?_
      refine lv_iload_n X.1.1 X.1.2.1 d_LoopRankerModel_has_15 rfl (lv_at hl 1 rfl) ?_
      refine lv_iload_n X.1.1 X.1.2.1 d_LoopRankerModel_has_16 rfl (lv_at hl 2 rfl) ?_
      refine lv_ineg X.1.1 X.1.2.1 d_LoopRankerModel_has_17 ?_
      refine lv_iload_n X.1.1 X.1.2.1 d_LoopRankerModel_has_18 rfl (lv_at hl 3 rfl) ?_
      refine lv_ineg X.1.1 X.1.2.1 d_LoopRankerModel_has_19 ?_
      refine wc_Vi [.int (nI t), .int (-u), .int (-v)] 4 0 X nz_nest (c_LoopRankerModel_said h m1 p1 q1 r1 w1 o1 f1 s1 nc my fp fq fr up sm3 top3 bot3 lv ol fi se x y fd t (-u) (-v) d hm ht hd) (cw_LoopRankerModel_80 X.1.2.2.2.2 X.2.2.1 (by decide)) ([]) ([]) (rfl) hP hD hS rfl rfl rfl rfl hl.1 (Nat.le_of_ble_eq_true rfl) (by decide) d_LoopRankerModel_has_20 (fun H locs wn hwn hP hD hS => ?_)
      subst hwn
      have hP : va_P D cls (mW cI h m1 p1 q1 r1 w1 o1 f1 s1 nc my fp fq fr up ((m_lk fp fq fr (4 * t) d (-u) (-v)).1) ((m_lk fp fq fr (4 * t) d (-u) (-v)).2.1) ((m_lk fp fq fr (4 * t) d (-u) (-v)).2.2) lv ol fi se x y fd) H := hP
      have hD : va_D A (mW cI h m1 p1 q1 r1 w1 o1 f1 s1 nc my fp fq fr up ((m_lk fp fq fr (4 * t) d (-u) (-v)).1) ((m_lk fp fq fr (4 * t) d (-u) (-v)).2.1) ((m_lk fp fq fr (4 * t) d (-u) (-v)).2.2) lv ol fi se x y fd) := hD
      refine wi0_eq (tgt := 30) X.1.1 X.1.2.1 d_LoopRankerModel_has_23 (by decide) (fun h23 => ?_) (fun h23 => ?_)
      · refine lv_iconst (v := (0 : Int32)) X.1.1 X.1.2.1 d_LoopRankerModel_has_30 (by decide) ?_
        exact hret 31 H locs ls _ _ hP hD hS d_LoopRankerModel_has_31 (Or.inl rfl) (by first | (simp only [m_has, m_bd, if_pos h3, if_pos h11, if_pos h23]; done) | simp [m_has, m_bd, h3, h11, h23]) (⟨_, _, _, rfl⟩)
      · refine lv_iconst (v := (1 : Int32)) X.1.1 X.1.2.1 d_LoopRankerModel_has_26 (by decide) ?_
        refine lv_goto (tgt := 31) X.1.1 X.1.2.1 d_LoopRankerModel_has_27 (by decide) ?_
        exact hret 31 H locs ls _ _ hP hD hS d_LoopRankerModel_has_31 (Or.inr rfl) (by first | (simp only [m_has, m_bd, if_pos h3, if_pos h11, if_neg h23]; done) | simp [m_has, m_bd, h3, h11, h23]) (⟨_, _, _, rfl⟩)
end CT
