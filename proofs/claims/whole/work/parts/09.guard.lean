section CT
variable {l : Launch} {D : va_G} {cI cJ cS : ClassId}
set_option maxHeartbeats 4000000 in
set_option maxRecDepth 100000 in
theorem c_Math_floorDiv (x y : Int64) (hne : ¬ y = 0) : wk_kl l y_Math_floorDiv (Cond.code y_Math_floorDiv b_Math_floorDiv 6 (some .long) :: BW) rm_Math_floorDiv D cls (kT cI cJ cS) nz [.long x, .long y] ([]) (fun wz => wz = []) (g_fd x y) := by
  refine ws_l (by decide +kernel) (Nat.le_of_ble_eq_true rfl) ?_
  intro p e s m below meth c A ls Q X hret hl hP hD hS
  obtain ⟨H, hH⟩ : ∃ H, H = s.heap := ⟨_, rfl⟩
  obtain ⟨locs, hlo⟩ : ∃ locs : List Loc, locs = [] := ⟨_, rfl⟩
  have hP : va_P D cls ([]) H := by rw [hH]; exact hP
  have hS : va_S A s.heap H locs := by rw [hH, hlo]; exact hS
  suffices hgo : W p l e rm_Math_floorDiv s m ([.long x, .long y] : List Value).toArray below meth c H locs 0 0 Q (F0 m 0 ls ([])) by rw [hH, hlo] at hgo; exact hgo
  clear hH hlo
  have hl : lv_has ls 6 [(0, .long x), (2, .long y)] := hl
  refine lv_lload_n X.1.1 X.1.2.1 d_Math_floorDiv_0 rfl (lv_at hl 0 rfl) ?_
  refine lv_lload_n X.1.1 X.1.2.1 d_Math_floorDiv_1 rfl (lv_at hl 1 rfl) ?_
  refine lv_ldiv X.1.1 X.1.2.1 d_Math_floorDiv_2 hne ?_
  refine lv_lstore X.1.1 X.1.2.1 d_Math_floorDiv_3 hl (by decide) rfl (fun ls hl => ?_)
  have hl : lv_has ls 6 [(4, .long (x / y)), (0, .long x), (2, .long y)] := hl
  refine lv_lload_n X.1.1 X.1.2.1 d_Math_floorDiv_5 rfl (lv_at hl 1 rfl) ?_
  refine lv_lload_n X.1.1 X.1.2.1 d_Math_floorDiv_6 rfl (lv_at hl 2 rfl) ?_
  refine lv_lxor X.1.1 X.1.2.1 d_Math_floorDiv_7 ?_
  refine lv_lconst (v := 0) X.1.1 X.1.2.1 d_Math_floorDiv_8 (by decide) ?_
  refine wl_ge (tgt := 27) X.1.1 X.1.2.1 d_Math_floorDiv_9 d_Math_floorDiv_10 (by decide) (fun h9 => ?_) (fun h9 => ?_)
  · refine lv_lload X.1.1 X.1.2.1 d_Math_floorDiv_27 (lv_at hl 0 rfl) ?_
    exact hret 29 H locs ls _ _ hP hD hS d_Math_floorDiv_29 (by first | (simp only [g_fd, if_neg h9]; done) | simp [g_fd, h9]) (rfl)
  · refine lv_lload X.1.1 X.1.2.1 d_Math_floorDiv_13 (lv_at hl 0 rfl) ?_
    refine lv_lload_n X.1.1 X.1.2.1 d_Math_floorDiv_15 rfl (lv_at hl 2 rfl) ?_
    refine lv_lmul X.1.1 X.1.2.1 d_Math_floorDiv_16 ?_
    refine lv_lload_n X.1.1 X.1.2.1 d_Math_floorDiv_17 rfl (lv_at hl 1 rfl) ?_
    refine wl_eq (tgt := 27) X.1.1 X.1.2.1 d_Math_floorDiv_18 d_Math_floorDiv_19 (by decide) (fun h18 => ?_) (fun h18 => ?_)
    · refine lv_lload X.1.1 X.1.2.1 d_Math_floorDiv_27 (lv_at hl 0 rfl) ?_
      exact hret 29 H locs ls _ _ hP hD hS d_Math_floorDiv_29 (by first | (simp only [g_fd, if_pos h9, if_pos h18]; done) | simp [g_fd, h9, h18]) (rfl)
    · refine lv_lload X.1.1 X.1.2.1 d_Math_floorDiv_22 (lv_at hl 0 rfl) ?_
      refine lv_lconst (v := 1) X.1.1 X.1.2.1 d_Math_floorDiv_24 (by decide) ?_
      refine lv_lsub X.1.1 X.1.2.1 d_Math_floorDiv_25 ?_
      exact hret 26 H locs ls _ _ hP hD hS d_Math_floorDiv_26 (by first | (simp only [g_fd, if_pos h9, if_neg h18]; done) | simp [g_fd, h9, h18]) (rfl)
set_option maxHeartbeats 4000000 in
set_option maxRecDepth 100000 in
theorem c_Guard_cross (x1 x2 x3 x4 : Int64) : wk_kl l y_Guard_cross (Cond.code y_Guard_cross b_Guard_cross 8 (some .long) :: BW) rm_Guard_cross D cls (kT cI cJ cS) nz [.long x1, .long x2, .long x3, .long x4] ([]) (fun wz => wz = []) (g_cross x1 x2 x3 x4) := by
  refine ws_l (plainFor_of_name (by decide)) (Nat.le_of_ble_eq_true rfl) ?_
  intro p e s m below meth c A ls Q X hret hl hP hD hS
  obtain ⟨H, hH⟩ : ∃ H, H = s.heap := ⟨_, rfl⟩
  obtain ⟨locs, hlo⟩ : ∃ locs : List Loc, locs = [] := ⟨_, rfl⟩
  have hP : va_P D cls ([]) H := by rw [hH]; exact hP
  have hS : va_S A s.heap H locs := by rw [hH, hlo]; exact hS
  suffices hgo : W p l e rm_Guard_cross s m ([.long x1, .long x2, .long x3, .long x4] : List Value).toArray below meth c H locs 0 0 Q (F0 m 0 ls ([])) by rw [hH, hlo] at hgo; exact hgo
  clear hH hlo
  have hl : lv_has ls 8 [(0, .long x1), (2, .long x2), (4, .long x3), (6, .long x4)] := hl
  refine lv_lload_n X.1.1 X.1.2.1 d_Guard_cross_0 rfl (lv_at hl 0 rfl) ?_
  refine lv_lload X.1.1 X.1.2.1 d_Guard_cross_1 (lv_at hl 3 rfl) ?_
  refine lv_lmul X.1.1 X.1.2.1 d_Guard_cross_3 ?_
  refine lv_lload_n X.1.1 X.1.2.1 d_Guard_cross_4 rfl (lv_at hl 1 rfl) ?_
  refine lv_lload X.1.1 X.1.2.1 d_Guard_cross_5 (lv_at hl 2 rfl) ?_
  refine lv_lmul X.1.1 X.1.2.1 d_Guard_cross_7 ?_
  refine lv_lsub X.1.1 X.1.2.1 d_Guard_cross_8 ?_
  exact hret 9 H locs ls _ _ hP hD hS d_Guard_cross_9 (rfl) (rfl)
set_option maxHeartbeats 4000000 in
set_option maxRecDepth 100000 in
theorem c_Guard_lowerTo (g a1 a2 a3 : Nat) (fp fq fr : Nat → Int32) (n : Nat) (em : Int32) (top bot : Int64) (t d : Int64) : wk_kv l y_Guard_lowerTo (Cond.code y_Guard_lowerTo b_Guard_lowerTo 5 none :: BW) rm_Guard_lowerTo D cls (kT cI cJ cS) nz [.ref g, .long t, .long d] (gW cI g a1 a2 a3 fp fq fr n em top bot) (fun wz => wz = gW cI g a1 a2 a3 fp fq fr n em (g_lo (top, bot) t d).1 (g_lo (top, bot) t d).2) := by
  refine ws_v (plainFor_of_name (by decide)) (Nat.le_of_ble_eq_true rfl) ?_
  intro p e s m below meth c A ls Q X hret hl hP hD hS
  obtain ⟨H, hH⟩ : ∃ H, H = s.heap := ⟨_, rfl⟩
  obtain ⟨locs, hlo⟩ : ∃ locs : List Loc, locs = [] := ⟨_, rfl⟩
  have hP : va_P D cls (gW cI g a1 a2 a3 fp fq fr n em top bot) H := by rw [hH]; exact hP
  have hS : va_S A s.heap H locs := by rw [hH, hlo]; exact hS
  suffices hgo : W p l e rm_Guard_lowerTo s m ([.ref g, .long t, .long d] : List Value).toArray below meth c H locs 0 0 Q (F0 m 0 ls ([])) by rw [hH, hlo] at hgo; exact hgo
  clear hH hlo
  have hl : lv_has ls 5 [(0, .ref g), (1, .long t), (3, .long d)] := hl
  refine lv_aload_n X.1.1 X.1.2.1 d_Guard_lowerTo_0 rfl (lv_at hl 0 rfl) ?_
  refine fg_Guard_36 X hP 0 rfl rfl d_Guard_lowerTo_1 ?_
  refine lv_lconst (v := 0) X.1.1 X.1.2.1 d_Guard_lowerTo_4 (by decide) ?_
  refine wl_eq (tgt := 25) X.1.1 X.1.2.1 d_Guard_lowerTo_5 d_Guard_lowerTo_6 (by decide) (fun h5 => ?_) (fun h5 => ?_)
  · refine lv_aload_n X.1.1 X.1.2.1 d_Guard_lowerTo_25 rfl (lv_at hl 0 rfl) ?_
    refine lv_lload_n X.1.1 X.1.2.1 d_Guard_lowerTo_26 rfl (lv_at hl 1 rfl) ?_
    refine fp_Guard_32 X hP hD hS 0 rfl rfl rfl rfl d_Guard_lowerTo_27 (fun H locs hP hD hS => ?_)
    have hP : va_P D cls (gW cI g a1 a2 a3 fp fq fr n em t bot) H := hP
    have hD : va_D A (gW cI g a1 a2 a3 fp fq fr n em t bot) := hD
    refine lv_aload_n X.1.1 X.1.2.1 d_Guard_lowerTo_30 rfl (lv_at hl 0 rfl) ?_
    refine lv_lload_n X.1.1 X.1.2.1 d_Guard_lowerTo_31 rfl (lv_at hl 2 rfl) ?_
    refine fp_Guard_36 X hP hD hS 0 rfl rfl rfl rfl d_Guard_lowerTo_32 (fun H locs hP hD hS => ?_)
    have hP : va_P D cls (gW cI g a1 a2 a3 fp fq fr n em t d) H := hP
    have hD : va_D A (gW cI g a1 a2 a3 fp fq fr n em t d) := hD
    exact hret 35 H locs ls _ hP hD hS d_Guard_lowerTo_35 (by first | (simp only [g_lo, if_pos h5]; done) | simp [g_lo, h5])
  · refine lv_lload_n X.1.1 X.1.2.1 d_Guard_lowerTo_9 rfl (lv_at hl 1 rfl) ?_
    refine lv_aload_n X.1.1 X.1.2.1 d_Guard_lowerTo_10 rfl (lv_at hl 0 rfl) ?_
    refine fg_Guard_36 X hP 0 rfl rfl d_Guard_lowerTo_11 ?_
    refine lv_lmul X.1.1 X.1.2.1 d_Guard_lowerTo_14 ?_
    refine lv_aload_n X.1.1 X.1.2.1 d_Guard_lowerTo_15 rfl (lv_at hl 0 rfl) ?_
    refine fg_Guard_32 X hP 0 rfl rfl d_Guard_lowerTo_16 ?_
    refine lv_lload_n X.1.1 X.1.2.1 d_Guard_lowerTo_19 rfl (lv_at hl 2 rfl) ?_
    refine lv_lmul X.1.1 X.1.2.1 d_Guard_lowerTo_20 ?_
    refine wl_ge (tgt := 35) X.1.1 X.1.2.1 d_Guard_lowerTo_21 d_Guard_lowerTo_22 (by decide) (fun h21 => ?_) (fun h21 => ?_)
    · exact hret 35 H locs ls _ hP hD hS d_Guard_lowerTo_35 (by first | (simp only [g_lo, if_neg h5, if_neg h21]; done) | simp [g_lo, h5, h21])
    · refine lv_aload_n X.1.1 X.1.2.1 d_Guard_lowerTo_25 rfl (lv_at hl 0 rfl) ?_
      refine lv_lload_n X.1.1 X.1.2.1 d_Guard_lowerTo_26 rfl (lv_at hl 1 rfl) ?_
      refine fp_Guard_32 X hP hD hS 0 rfl rfl rfl rfl d_Guard_lowerTo_27 (fun H locs hP hD hS => ?_)
      have hP : va_P D cls (gW cI g a1 a2 a3 fp fq fr n em t bot) H := hP
      have hD : va_D A (gW cI g a1 a2 a3 fp fq fr n em t bot) := hD
      refine lv_aload_n X.1.1 X.1.2.1 d_Guard_lowerTo_30 rfl (lv_at hl 0 rfl) ?_
      refine lv_lload_n X.1.1 X.1.2.1 d_Guard_lowerTo_31 rfl (lv_at hl 2 rfl) ?_
      refine fp_Guard_36 X hP hD hS 0 rfl rfl rfl rfl d_Guard_lowerTo_32 (fun H locs hP hD hS => ?_)
      have hP : va_P D cls (gW cI g a1 a2 a3 fp fq fr n em t d) H := hP
      have hD : va_D A (gW cI g a1 a2 a3 fp fq fr n em t d) := hD
      exact hret 35 H locs ls _ hP hD hS d_Guard_lowerTo_35 (by first | (simp only [g_lo, if_neg h5, if_pos h21]; done) | simp [g_lo, h5, h21])
set_option maxHeartbeats 4000000 in
set_option maxRecDepth 100000 in
theorem c_Guard_boundByRow (g a1 a2 a3 : Nat) (fp fq fr : Nat → Int32) (n : Nat) (em : Int32) (top bot : Int64) (i : Nat) (a b : Int32) (hi : i < n) (hn : n ≤ 4) : wk_kv l y_Guard_boundByRow (Cond.code y_Guard_boundByRow b_Guard_boundByRow 5 none :: BW) rm_Guard_boundByRow D cls (kT cI cJ cS) nz [.ref g, .int (nI i), .int a, .int b] (gW cI g a1 a2 a3 fp fq fr n em top bot) (fun wz => wz = gW cI g a1 a2 a3 fp fq fr n em (g_row fp fq fr a b i (top, bot)).1 (g_row fp fq fr a b i (top, bot)).2) := by
  refine ws_v (plainFor_of_name (by decide)) (Nat.le_of_ble_eq_true rfl) ?_
  intro p e s m below meth c A ls Q X hret hl hP hD hS
  obtain ⟨H, hH⟩ : ∃ H, H = s.heap := ⟨_, rfl⟩
  obtain ⟨locs, hlo⟩ : ∃ locs : List Loc, locs = [] := ⟨_, rfl⟩
  have hP : va_P D cls (gW cI g a1 a2 a3 fp fq fr n em top bot) H := by rw [hH]; exact hP
  have hS : va_S A s.heap H locs := by rw [hH, hlo]; exact hS
  suffices hgo : W p l e rm_Guard_boundByRow s m ([.ref g, .int (nI i), .int a, .int b] : List Value).toArray below meth c H locs 0 0 Q (F0 m 0 ls ([])) by rw [hH, hlo] at hgo; exact hgo
  clear hH hlo
  have hl : lv_has ls 5 [(0, .ref g), (1, .int (nI i)), (2, .int a), (3, .int b)] := hl
  refine lv_aload_n X.1.1 X.1.2.1 d_Guard_boundByRow_0 rfl (lv_at hl 0 rfl) ?_
  refine fg_Guard_9 X hP 0 rfl rfl d_Guard_boundByRow_1 ?_
  refine lv_iload_n X.1.1 X.1.2.1 d_Guard_boundByRow_4 rfl (lv_at hl 1 rfl) ?_
  refine wa_ild X.1.1 X.1.2.1 X.2.1 hP 1 0 rfl rfl i rfl (by omega) (by decide) d_Guard_boundByRow_5 ?_
  refine lv_i2l X.1.1 X.1.2.1 d_Guard_boundByRow_6 rfl ?_
  refine lv_aload_n X.1.1 X.1.2.1 d_Guard_boundByRow_7 rfl (lv_at hl 0 rfl) ?_
  refine fg_Guard_15 X hP 0 rfl rfl d_Guard_boundByRow_8 ?_
  refine lv_iload_n X.1.1 X.1.2.1 d_Guard_boundByRow_11 rfl (lv_at hl 1 rfl) ?_
  refine wa_ild X.1.1 X.1.2.1 X.2.1 hP 2 0 rfl rfl i rfl (by omega) (by decide) d_Guard_boundByRow_12 ?_
  refine lv_i2l X.1.1 X.1.2.1 d_Guard_boundByRow_13 rfl ?_
  refine lv_iload_n X.1.1 X.1.2.1 d_Guard_boundByRow_14 rfl (lv_at hl 2 rfl) ?_
  refine lv_i2l X.1.1 X.1.2.1 d_Guard_boundByRow_15 rfl ?_
  refine lv_iload_n X.1.1 X.1.2.1 d_Guard_boundByRow_16 rfl (lv_at hl 3 rfl) ?_
  refine lv_i2l X.1.1 X.1.2.1 d_Guard_boundByRow_17 rfl ?_
  refine wc_Sl [.long ((fp i).toInt64), .long ((fq i).toInt64), .long a.toInt64, .long b.toInt64] X nz_nest (c_Guard_cross ((fp i).toInt64) ((fq i).toInt64) a.toInt64 b.toInt64) (cw_Guard_51 X.1.2.2.2.2 X.2.2.1 (by decide)) (gW cI g a1 a2 a3 fp fq fr n em top bot) ([]) (rfl) hP hD hS rfl rfl hl.1 (Nat.le_of_ble_eq_true rfl) (by decide) d_Guard_boundByRow_18 (fun H locs wn hwn hP hD hS => ?_)
  subst hwn
  have hP : va_P D cls (gW cI g a1 a2 a3 fp fq fr n em top bot) H := hP
  have hD : va_D A (gW cI g a1 a2 a3 fp fq fr n em top bot) := hD
  refine lv_lconst (v := 0) X.1.1 X.1.2.1 d_Guard_boundByRow_21 (by decide) ?_
  refine wl_ne (tgt := 50) X.1.1 X.1.2.1 d_Guard_boundByRow_22 d_Guard_boundByRow_23 (by decide) (fun h22 => ?_) (fun h22 => ?_)
  · refine lv_iconst (v := (0 : Int32)) X.1.1 X.1.2.1 d_Guard_boundByRow_50 (by decide) ?_
    refine lv_istore X.1.1 X.1.2.1 d_Guard_boundByRow_51 hl (by decide) rfl (fun ls hl => ?_)
    have hl : lv_has ls 5 [(4, .int (0 : Int32)), (0, .ref g), (1, .int (nI i)), (2, .int a), (3, .int b)] := hl
    refine lv_iload X.1.1 X.1.2.1 d_Guard_boundByRow_53 (lv_at hl 0 rfl) ?_
    refine wi0_eq (tgt := 100) X.1.1 X.1.2.1 d_Guard_boundByRow_55 (by decide) (fun _ => ?_) (fun z => absurd z (by decide))
    exact hret 100 H locs ls _ hP hD hS d_Guard_boundByRow_100 (by first | (simp only [g_row, if_neg h22]; done) | simp [g_row, h22])
  · refine lv_aload_n X.1.1 X.1.2.1 d_Guard_boundByRow_26 rfl (lv_at hl 0 rfl) ?_
    refine fg_Guard_9 X hP 0 rfl rfl d_Guard_boundByRow_27 ?_
    refine lv_iload_n X.1.1 X.1.2.1 d_Guard_boundByRow_30 rfl (lv_at hl 1 rfl) ?_
    refine wa_ild X.1.1 X.1.2.1 X.2.1 hP 1 0 rfl rfl i rfl (by omega) (by decide) d_Guard_boundByRow_31 ?_
    refine lv_iload_n X.1.1 X.1.2.1 d_Guard_boundByRow_32 rfl (lv_at hl 2 rfl) ?_
    refine lv_imul X.1.1 X.1.2.1 d_Guard_boundByRow_33 ?_
    refine lv_aload_n X.1.1 X.1.2.1 d_Guard_boundByRow_34 rfl (lv_at hl 0 rfl) ?_
    refine fg_Guard_15 X hP 0 rfl rfl d_Guard_boundByRow_35 ?_
    refine lv_iload_n X.1.1 X.1.2.1 d_Guard_boundByRow_38 rfl (lv_at hl 1 rfl) ?_
    refine wa_ild X.1.1 X.1.2.1 X.2.1 hP 2 0 rfl rfl i rfl (by omega) (by decide) d_Guard_boundByRow_39 ?_
    refine lv_iload_n X.1.1 X.1.2.1 d_Guard_boundByRow_40 rfl (lv_at hl 3 rfl) ?_
    refine lv_imul X.1.1 X.1.2.1 d_Guard_boundByRow_41 ?_
    refine lv_iadd X.1.1 X.1.2.1 d_Guard_boundByRow_42 ?_
    refine wi0_le (tgt := 50) X.1.1 X.1.2.1 d_Guard_boundByRow_43 (by decide) (fun h43 => ?_) (fun h43 => ?_)
    · refine lv_iconst (v := (0 : Int32)) X.1.1 X.1.2.1 d_Guard_boundByRow_50 (by decide) ?_
      refine lv_istore X.1.1 X.1.2.1 d_Guard_boundByRow_51 hl (by decide) rfl (fun ls hl => ?_)
      have hl : lv_has ls 5 [(4, .int (0 : Int32)), (0, .ref g), (1, .int (nI i)), (2, .int a), (3, .int b)] := hl
      refine lv_iload X.1.1 X.1.2.1 d_Guard_boundByRow_53 (lv_at hl 0 rfl) ?_
      refine wi0_eq (tgt := 100) X.1.1 X.1.2.1 d_Guard_boundByRow_55 (by decide) (fun _ => ?_) (fun z => absurd z (by decide))
      exact hret 100 H locs ls _ hP hD hS d_Guard_boundByRow_100 (by first | (simp only [g_row, if_pos h22, if_neg h43]; done) | simp [g_row, h22, h43])
    · refine lv_iconst (v := (1 : Int32)) X.1.1 X.1.2.1 d_Guard_boundByRow_46 (by decide) ?_
      refine lv_goto (tgt := 51) X.1.1 X.1.2.1 d_Guard_boundByRow_47 (by decide) ?_
      refine lv_istore X.1.1 X.1.2.1 d_Guard_boundByRow_51 hl (by decide) rfl (fun ls hl => ?_)
      have hl : lv_has ls 5 [(4, .int (1 : Int32)), (0, .ref g), (1, .int (nI i)), (2, .int a), (3, .int b)] := hl
      refine lv_iload X.1.1 X.1.2.1 d_Guard_boundByRow_53 (lv_at hl 0 rfl) ?_
      refine wi0_eq (tgt := 100) X.1.1 X.1.2.1 d_Guard_boundByRow_55 (by decide) (fun z => absurd z (by decide)) (fun _ => ?_)
      refine lv_aload_n X.1.1 X.1.2.1 d_Guard_boundByRow_58 rfl (lv_at hl 1 rfl) ?_
      refine lv_aload_n X.1.1 X.1.2.1 d_Guard_boundByRow_59 rfl (lv_at hl 1 rfl) ?_
      refine fg_Guard_18 X hP 0 rfl rfl d_Guard_boundByRow_60 ?_
      refine lv_iload_n X.1.1 X.1.2.1 d_Guard_boundByRow_63 rfl (lv_at hl 2 rfl) ?_
      refine wa_ild X.1.1 X.1.2.1 X.2.1 hP 3 0 rfl rfl i rfl (by omega) (by decide) d_Guard_boundByRow_64 ?_
      refine lv_i2l X.1.1 X.1.2.1 d_Guard_boundByRow_65 rfl ?_
      refine lv_iload_n X.1.1 X.1.2.1 d_Guard_boundByRow_66 rfl (lv_at hl 3 rfl) ?_
      refine wm_abs_Guard_55 X hl.1 (by decide) (Nat.le_of_ble_eq_true rfl) (by decide) d_Guard_boundByRow_67 ?_
      refine lv_iload_n X.1.1 X.1.2.1 d_Guard_boundByRow_70 rfl (lv_at hl 4 rfl) ?_
      refine wm_abs_Guard_55 X hl.1 (by decide) (Nat.le_of_ble_eq_true rfl) (by decide) d_Guard_boundByRow_71 ?_
      refine lv_iadd X.1.1 X.1.2.1 d_Guard_boundByRow_74 ?_
      refine lv_i2l X.1.1 X.1.2.1 d_Guard_boundByRow_75 rfl ?_
      refine lv_lmul X.1.1 X.1.2.1 d_Guard_boundByRow_76 ?_
      refine lv_aload_n X.1.1 X.1.2.1 d_Guard_boundByRow_77 rfl (lv_at hl 1 rfl) ?_
      refine fg_Guard_9 X hP 0 rfl rfl d_Guard_boundByRow_78 ?_
      refine lv_iload_n X.1.1 X.1.2.1 d_Guard_boundByRow_81 rfl (lv_at hl 2 rfl) ?_
      refine wa_ild X.1.1 X.1.2.1 X.2.1 hP 1 0 rfl rfl i rfl (by omega) (by decide) d_Guard_boundByRow_82 ?_
      refine wm_abs_Guard_55 X hl.1 (by decide) (Nat.le_of_ble_eq_true rfl) (by decide) d_Guard_boundByRow_83 ?_
      refine lv_aload_n X.1.1 X.1.2.1 d_Guard_boundByRow_86 rfl (lv_at hl 1 rfl) ?_
      refine fg_Guard_15 X hP 0 rfl rfl d_Guard_boundByRow_87 ?_
      refine lv_iload_n X.1.1 X.1.2.1 d_Guard_boundByRow_90 rfl (lv_at hl 2 rfl) ?_
      refine wa_ild X.1.1 X.1.2.1 X.2.1 hP 2 0 rfl rfl i rfl (by omega) (by decide) d_Guard_boundByRow_91 ?_
      refine wm_abs_Guard_55 X hl.1 (by decide) (Nat.le_of_ble_eq_true rfl) (by decide) d_Guard_boundByRow_92 ?_
      refine lv_iadd X.1.1 X.1.2.1 d_Guard_boundByRow_95 ?_
      refine lv_i2l X.1.1 X.1.2.1 d_Guard_boundByRow_96 rfl ?_
      refine wc_Vv [.long (((fr i).toInt64) * (((g_abs a) + (g_abs b)).toInt64)), .long (((g_abs (fp i)) + (g_abs (fq i))).toInt64)] 0 0 X nz_nest (c_Guard_lowerTo g a1 a2 a3 fp fq fr n em top bot (((fr i).toInt64) * (((g_abs a) + (g_abs b)).toInt64)) (((g_abs (fp i)) + (g_abs (fq i))).toInt64) ) (cw_Guard_61 X.1.2.2.2.2 X.2.2.1 (by decide)) ([]) ([]) (rfl) hP hD hS rfl rfl rfl rfl hl.1 (Nat.le_of_ble_eq_true rfl) (by decide) d_Guard_boundByRow_97 (fun H locs wn hwn hP hD hS => ?_)
      subst hwn
      have hP : va_P D cls (gW cI g a1 a2 a3 fp fq fr n em ((g_lo (top, bot) (((fr i).toInt64) * (((g_abs a) + (g_abs b)).toInt64)) (((g_abs (fp i)) + (g_abs (fq i))).toInt64)).1) ((g_lo (top, bot) (((fr i).toInt64) * (((g_abs a) + (g_abs b)).toInt64)) (((g_abs (fp i)) + (g_abs (fq i))).toInt64)).2)) H := hP
      have hD : va_D A (gW cI g a1 a2 a3 fp fq fr n em ((g_lo (top, bot) (((fr i).toInt64) * (((g_abs a) + (g_abs b)).toInt64)) (((g_abs (fp i)) + (g_abs (fq i))).toInt64)).1) ((g_lo (top, bot) (((fr i).toInt64) * (((g_abs a) + (g_abs b)).toInt64)) (((g_abs (fp i)) + (g_abs (fq i))).toInt64)).2)) := hD
      exact hret 100 H locs ls _ hP hD hS d_Guard_boundByRow_100 (by first | (simp only [g_row, if_pos h22, if_pos h43]; done) | simp [g_row, h22, h43])
set_option maxHeartbeats 4000000 in
set_option maxRecDepth 100000 in
theorem c_Guard_boundByPair (g a1 a2 a3 : Nat) (fp fq fr : Nat → Int32) (n : Nat) (em : Int32) (top bot : Int64) (i j : Nat) (a b : Int32) (hi : i < n) (hj : j < n) (hn : n ≤ 4) : wk_kv l y_Guard_boundByPair (Cond.code y_Guard_boundByPair b_Guard_boundByPair 13 none :: BW) rm_Guard_boundByPair D cls (kT cI cJ cS) nz [.ref g, .int (nI i), .int (nI j), .int a, .int b] (gW cI g a1 a2 a3 fp fq fr n em top bot) (fun wz => wz = gW cI g a1 a2 a3 fp fq fr n em (g_pair fp fq fr a b i j (top, bot)).1 (g_pair fp fq fr a b i j (top, bot)).2) := by
  refine ws_v (plainFor_of_name (by decide)) (Nat.le_of_ble_eq_true rfl) ?_
  intro p e s m below meth c A ls Q X hret hl hP hD hS
  obtain ⟨H, hH⟩ : ∃ H, H = s.heap := ⟨_, rfl⟩
  obtain ⟨locs, hlo⟩ : ∃ locs : List Loc, locs = [] := ⟨_, rfl⟩
  have hP : va_P D cls (gW cI g a1 a2 a3 fp fq fr n em top bot) H := by rw [hH]; exact hP
  have hS : va_S A s.heap H locs := by rw [hH, hlo]; exact hS
  suffices hgo : W p l e rm_Guard_boundByPair s m ([.ref g, .int (nI i), .int (nI j), .int a, .int b] : List Value).toArray below meth c H locs 0 0 Q (F0 m 0 ls ([])) by rw [hH, hlo] at hgo; exact hgo
  clear hH hlo
  have hl : lv_has ls 13 [(0, .ref g), (1, .int (nI i)), (2, .int (nI j)), (3, .int a), (4, .int b)] := hl
  refine lv_aload_n X.1.1 X.1.2.1 d_Guard_boundByPair_0 rfl (lv_at hl 0 rfl) ?_
  refine fg_Guard_9 X hP 0 rfl rfl d_Guard_boundByPair_1 ?_
  refine lv_iload_n X.1.1 X.1.2.1 d_Guard_boundByPair_4 rfl (lv_at hl 1 rfl) ?_
  refine wa_ild X.1.1 X.1.2.1 X.2.1 hP 1 0 rfl rfl i rfl (by omega) (by decide) d_Guard_boundByPair_5 ?_
  refine lv_i2l X.1.1 X.1.2.1 d_Guard_boundByPair_6 rfl ?_
  refine lv_aload_n X.1.1 X.1.2.1 d_Guard_boundByPair_7 rfl (lv_at hl 0 rfl) ?_
  refine fg_Guard_15 X hP 0 rfl rfl d_Guard_boundByPair_8 ?_
  refine lv_iload_n X.1.1 X.1.2.1 d_Guard_boundByPair_11 rfl (lv_at hl 1 rfl) ?_
  refine wa_ild X.1.1 X.1.2.1 X.2.1 hP 2 0 rfl rfl i rfl (by omega) (by decide) d_Guard_boundByPair_12 ?_
  refine lv_i2l X.1.1 X.1.2.1 d_Guard_boundByPair_13 rfl ?_
  refine lv_aload_n X.1.1 X.1.2.1 d_Guard_boundByPair_14 rfl (lv_at hl 0 rfl) ?_
  refine fg_Guard_9 X hP 0 rfl rfl d_Guard_boundByPair_15 ?_
  refine lv_iload_n X.1.1 X.1.2.1 d_Guard_boundByPair_18 rfl (lv_at hl 2 rfl) ?_
  refine wa_ild X.1.1 X.1.2.1 X.2.1 hP 1 0 rfl rfl j rfl (by omega) (by decide) d_Guard_boundByPair_19 ?_
  refine lv_i2l X.1.1 X.1.2.1 d_Guard_boundByPair_20 rfl ?_
  refine lv_aload_n X.1.1 X.1.2.1 d_Guard_boundByPair_21 rfl (lv_at hl 0 rfl) ?_
  refine fg_Guard_15 X hP 0 rfl rfl d_Guard_boundByPair_22 ?_
  refine lv_iload_n X.1.1 X.1.2.1 d_Guard_boundByPair_25 rfl (lv_at hl 2 rfl) ?_
  refine wa_ild X.1.1 X.1.2.1 X.2.1 hP 2 0 rfl rfl j rfl (by omega) (by decide) d_Guard_boundByPair_26 ?_
  refine lv_i2l X.1.1 X.1.2.1 d_Guard_boundByPair_27 rfl ?_
  refine wc_Sl [.long ((fp i).toInt64), .long ((fq i).toInt64), .long ((fp j).toInt64), .long ((fq j).toInt64)] X nz_nest (c_Guard_cross ((fp i).toInt64) ((fq i).toInt64) ((fp j).toInt64) ((fq j).toInt64)) (cw_Guard_51 X.1.2.2.2.2 X.2.2.1 (by decide)) (gW cI g a1 a2 a3 fp fq fr n em top bot) ([]) (rfl) hP hD hS rfl rfl hl.1 (Nat.le_of_ble_eq_true rfl) (by decide) d_Guard_boundByPair_28 (fun H locs wn hwn hP hD hS => ?_)
  subst hwn
  have hP : va_P D cls (gW cI g a1 a2 a3 fp fq fr n em top bot) H := hP
  have hD : va_D A (gW cI g a1 a2 a3 fp fq fr n em top bot) := hD
  refine lv_lstore X.1.1 X.1.2.1 d_Guard_boundByPair_31 hl (by decide) rfl (fun ls hl => ?_)
  have hl : lv_has ls 13 [(5, .long (g_cross ((fp i).toInt64) ((fq i).toInt64) ((fp j).toInt64) ((fq j).toInt64))), (0, .ref g), (1, .int (nI i)), (2, .int (nI j)), (3, .int a), (4, .int b)] := hl
  refine lv_lload X.1.1 X.1.2.1 d_Guard_boundByPair_33 (lv_at hl 0 rfl) ?_
  refine lv_lconst (v := 0) X.1.1 X.1.2.1 d_Guard_boundByPair_35 (by decide) ?_
  have jn47 : ∀ (sg : Int64) (H : Heap) (locs : List Loc), sg = (g_sg (g_cross (fp i).toInt64 (fq i).toInt64 (fp j).toInt64 (fq j).toInt64)) → va_P D cls (gW cI g a1 a2 a3 fp fq fr n em top bot) H → va_S A s.heap H locs → W p l e rm_Guard_boundByPair s m ([.ref g, .int (nI i), .int (nI j), .int a, .int b] : List Value).toArray below meth c H locs 0 0 Q (F0 m 47 ls (.long sg :: [])) := by
    intro sg H locs esg hP hS
    refine lv_lstore X.1.1 X.1.2.1 d_Guard_boundByPair_47 hl (by decide) rfl (fun ls hl => ?_)
    have hl : lv_has ls 13 [(7, .long sg), (5, .long (g_cross ((fp i).toInt64) ((fq i).toInt64) ((fp j).toInt64) ((fq j).toInt64))), (0, .ref g), (1, .int (nI i)), (2, .int (nI j)), (3, .int a), (4, .int b)] := hl
    refine lv_lload X.1.1 X.1.2.1 d_Guard_boundByPair_49 (lv_at hl 0 rfl) ?_
    refine lv_iload_n X.1.1 X.1.2.1 d_Guard_boundByPair_51 rfl (lv_at hl 5 rfl) ?_
    refine lv_i2l X.1.1 X.1.2.1 d_Guard_boundByPair_52 rfl ?_
    refine lv_iload X.1.1 X.1.2.1 d_Guard_boundByPair_53 (lv_at hl 6 rfl) ?_
    refine lv_i2l X.1.1 X.1.2.1 d_Guard_boundByPair_55 rfl ?_
    refine lv_aload_n X.1.1 X.1.2.1 d_Guard_boundByPair_56 rfl (lv_at hl 2 rfl) ?_
    refine fg_Guard_9 X hP 0 rfl rfl d_Guard_boundByPair_57 ?_
    refine lv_iload_n X.1.1 X.1.2.1 d_Guard_boundByPair_60 rfl (lv_at hl 4 rfl) ?_
    refine wa_ild X.1.1 X.1.2.1 X.2.1 hP 1 0 rfl rfl j rfl (by omega) (by decide) d_Guard_boundByPair_61 ?_
    refine lv_i2l X.1.1 X.1.2.1 d_Guard_boundByPair_62 rfl ?_
    refine lv_aload_n X.1.1 X.1.2.1 d_Guard_boundByPair_63 rfl (lv_at hl 2 rfl) ?_
    refine fg_Guard_15 X hP 0 rfl rfl d_Guard_boundByPair_64 ?_
    refine lv_iload_n X.1.1 X.1.2.1 d_Guard_boundByPair_67 rfl (lv_at hl 4 rfl) ?_
    refine wa_ild X.1.1 X.1.2.1 X.2.1 hP 2 0 rfl rfl j rfl (by omega) (by decide) d_Guard_boundByPair_68 ?_
    refine lv_i2l X.1.1 X.1.2.1 d_Guard_boundByPair_69 rfl ?_
    refine wc_Sl [.long a.toInt64, .long b.toInt64, .long ((fp j).toInt64), .long ((fq j).toInt64)] X nz_nest (c_Guard_cross a.toInt64 b.toInt64 ((fp j).toInt64) ((fq j).toInt64)) (cw_Guard_51 X.1.2.2.2.2 X.2.2.1 (by decide)) (gW cI g a1 a2 a3 fp fq fr n em top bot) ([]) (rfl) hP hD hS rfl rfl hl.1 (Nat.le_of_ble_eq_true rfl) (by decide) d_Guard_boundByPair_70 (fun H locs wn hwn hP hD hS => ?_)
    subst hwn
    have hP : va_P D cls (gW cI g a1 a2 a3 fp fq fr n em top bot) H := hP
    have hD : va_D A (gW cI g a1 a2 a3 fp fq fr n em top bot) := hD
    refine lv_lmul X.1.1 X.1.2.1 d_Guard_boundByPair_73 ?_
    refine lv_lstore X.1.1 X.1.2.1 d_Guard_boundByPair_74 hl (by decide) rfl (fun ls hl => ?_)
    have hl : lv_has ls 13 [(9, .long (sg * (g_cross a.toInt64 b.toInt64 ((fp j).toInt64) ((fq j).toInt64)))), (7, .long sg), (5, .long (g_cross ((fp i).toInt64) ((fq i).toInt64) ((fp j).toInt64) ((fq j).toInt64))), (0, .ref g), (1, .int (nI i)), (2, .int (nI j)), (3, .int a), (4, .int b)] := hl
    refine lv_lload X.1.1 X.1.2.1 d_Guard_boundByPair_76 (lv_at hl 1 rfl) ?_
    refine lv_aload_n X.1.1 X.1.2.1 d_Guard_boundByPair_78 rfl (lv_at hl 3 rfl) ?_
    refine fg_Guard_9 X hP 0 rfl rfl d_Guard_boundByPair_79 ?_
    refine lv_iload_n X.1.1 X.1.2.1 d_Guard_boundByPair_82 rfl (lv_at hl 4 rfl) ?_
    refine wa_ild X.1.1 X.1.2.1 X.2.1 hP 1 0 rfl rfl i rfl (by omega) (by decide) d_Guard_boundByPair_83 ?_
    refine lv_i2l X.1.1 X.1.2.1 d_Guard_boundByPair_84 rfl ?_
    refine lv_aload_n X.1.1 X.1.2.1 d_Guard_boundByPair_85 rfl (lv_at hl 3 rfl) ?_
    refine fg_Guard_15 X hP 0 rfl rfl d_Guard_boundByPair_86 ?_
    refine lv_iload_n X.1.1 X.1.2.1 d_Guard_boundByPair_89 rfl (lv_at hl 4 rfl) ?_
    refine wa_ild X.1.1 X.1.2.1 X.2.1 hP 2 0 rfl rfl i rfl (by omega) (by decide) d_Guard_boundByPair_90 ?_
    refine lv_i2l X.1.1 X.1.2.1 d_Guard_boundByPair_91 rfl ?_
    refine lv_iload_n X.1.1 X.1.2.1 d_Guard_boundByPair_92 rfl (lv_at hl 6 rfl) ?_
    refine lv_i2l X.1.1 X.1.2.1 d_Guard_boundByPair_93 rfl ?_
    refine lv_iload X.1.1 X.1.2.1 d_Guard_boundByPair_94 (lv_at hl 7 rfl) ?_
    refine lv_i2l X.1.1 X.1.2.1 d_Guard_boundByPair_96 rfl ?_
    refine wc_Sl [.long ((fp i).toInt64), .long ((fq i).toInt64), .long a.toInt64, .long b.toInt64] X nz_nest (c_Guard_cross ((fp i).toInt64) ((fq i).toInt64) a.toInt64 b.toInt64) (cw_Guard_51 X.1.2.2.2.2 X.2.2.1 (by decide)) (gW cI g a1 a2 a3 fp fq fr n em top bot) ([]) (rfl) hP hD hS rfl rfl hl.1 (Nat.le_of_ble_eq_true rfl) (by decide) d_Guard_boundByPair_97 (fun H locs wn hwn hP hD hS => ?_)
    subst hwn
    have hP : va_P D cls (gW cI g a1 a2 a3 fp fq fr n em top bot) H := hP
    have hD : va_D A (gW cI g a1 a2 a3 fp fq fr n em top bot) := hD
    refine lv_lmul X.1.1 X.1.2.1 d_Guard_boundByPair_100 ?_
    refine lv_lstore X.1.1 X.1.2.1 d_Guard_boundByPair_101 hl (by decide) rfl (fun ls hl => ?_)
    have hl : lv_has ls 13 [(11, .long (sg * (g_cross ((fp i).toInt64) ((fq i).toInt64) a.toInt64 b.toInt64))), (9, .long (sg * (g_cross a.toInt64 b.toInt64 ((fp j).toInt64) ((fq j).toInt64)))), (7, .long sg), (5, .long (g_cross ((fp i).toInt64) ((fq i).toInt64) ((fp j).toInt64) ((fq j).toInt64))), (0, .ref g), (1, .int (nI i)), (2, .int (nI j)), (3, .int a), (4, .int b)] := hl
    refine lv_lload X.1.1 X.1.2.1 d_Guard_boundByPair_103 (lv_at hl 3 rfl) ?_
    refine lv_lconst (v := 0) X.1.1 X.1.2.1 d_Guard_boundByPair_105 (by decide) ?_
    refine wl_eq (tgt := 154) X.1.1 X.1.2.1 d_Guard_boundByPair_106 d_Guard_boundByPair_107 (by decide) (fun h106 => ?_) (fun h106 => ?_)
    · exact hret 154 H locs ls _ hP hD hS d_Guard_boundByPair_154 (by subst esg; simp [g_pair, h106])
    · refine lv_lload X.1.1 X.1.2.1 d_Guard_boundByPair_110 (lv_at hl 1 rfl) ?_
      refine lv_lconst (v := 0) X.1.1 X.1.2.1 d_Guard_boundByPair_112 (by decide) ?_
      refine wl_lt (tgt := 154) X.1.1 X.1.2.1 d_Guard_boundByPair_113 d_Guard_boundByPair_114 (by decide) (fun h113 => ?_) (fun h113 => ?_)
      · exact hret 154 H locs ls _ hP hD hS d_Guard_boundByPair_154 (by subst esg; simp [g_pair, h106, h113])
      · refine lv_lload X.1.1 X.1.2.1 d_Guard_boundByPair_117 (lv_at hl 0 rfl) ?_
        refine lv_lconst (v := 0) X.1.1 X.1.2.1 d_Guard_boundByPair_119 (by decide) ?_
        refine wl_lt (tgt := 154) X.1.1 X.1.2.1 d_Guard_boundByPair_120 d_Guard_boundByPair_121 (by decide) (fun h120 => ?_) (fun h120 => ?_)
        · exact hret 154 H locs ls _ hP hD hS d_Guard_boundByPair_154 (by subst esg; simp [g_pair, h106, h113, h120])
        · refine lv_aload_n X.1.1 X.1.2.1 d_Guard_boundByPair_124 rfl (lv_at hl 4 rfl) ?_
          refine lv_aload_n X.1.1 X.1.2.1 d_Guard_boundByPair_125 rfl (lv_at hl 4 rfl) ?_
          refine fg_Guard_18 X hP 0 rfl rfl d_Guard_boundByPair_126 ?_
          refine lv_iload_n X.1.1 X.1.2.1 d_Guard_boundByPair_129 rfl (lv_at hl 5 rfl) ?_
          refine wa_ild X.1.1 X.1.2.1 X.2.1 hP 3 0 rfl rfl i rfl (by omega) (by decide) d_Guard_boundByPair_130 ?_
          refine lv_i2l X.1.1 X.1.2.1 d_Guard_boundByPair_131 rfl ?_
          refine lv_lload X.1.1 X.1.2.1 d_Guard_boundByPair_132 (lv_at hl 1 rfl) ?_
          refine lv_lmul X.1.1 X.1.2.1 d_Guard_boundByPair_134 ?_
          refine lv_aload_n X.1.1 X.1.2.1 d_Guard_boundByPair_135 rfl (lv_at hl 4 rfl) ?_
          refine fg_Guard_18 X hP 0 rfl rfl d_Guard_boundByPair_136 ?_
          refine lv_iload_n X.1.1 X.1.2.1 d_Guard_boundByPair_139 rfl (lv_at hl 6 rfl) ?_
          refine wa_ild X.1.1 X.1.2.1 X.2.1 hP 3 0 rfl rfl j rfl (by omega) (by decide) d_Guard_boundByPair_140 ?_
          refine lv_i2l X.1.1 X.1.2.1 d_Guard_boundByPair_141 rfl ?_
          refine lv_lload X.1.1 X.1.2.1 d_Guard_boundByPair_142 (lv_at hl 0 rfl) ?_
          refine lv_lmul X.1.1 X.1.2.1 d_Guard_boundByPair_144 ?_
          refine lv_ladd X.1.1 X.1.2.1 d_Guard_boundByPair_145 ?_
          refine lv_lload X.1.1 X.1.2.1 d_Guard_boundByPair_146 (lv_at hl 2 rfl) ?_
          refine lv_lload X.1.1 X.1.2.1 d_Guard_boundByPair_148 (lv_at hl 3 rfl) ?_
          refine lv_lmul X.1.1 X.1.2.1 d_Guard_boundByPair_150 ?_
          refine wc_Vv [.long ((((fr i).toInt64) * (sg * (g_cross a.toInt64 b.toInt64 ((fp j).toInt64) ((fq j).toInt64)))) + (((fr j).toInt64) * (sg * (g_cross ((fp i).toInt64) ((fq i).toInt64) a.toInt64 b.toInt64)))), .long (sg * (g_cross ((fp i).toInt64) ((fq i).toInt64) ((fp j).toInt64) ((fq j).toInt64)))] 0 0 X nz_nest (c_Guard_lowerTo g a1 a2 a3 fp fq fr n em top bot ((((fr i).toInt64) * (sg * (g_cross a.toInt64 b.toInt64 ((fp j).toInt64) ((fq j).toInt64)))) + (((fr j).toInt64) * (sg * (g_cross ((fp i).toInt64) ((fq i).toInt64) a.toInt64 b.toInt64)))) (sg * (g_cross ((fp i).toInt64) ((fq i).toInt64) ((fp j).toInt64) ((fq j).toInt64))) ) (cw_Guard_61 X.1.2.2.2.2 X.2.2.1 (by decide)) ([]) ([]) (rfl) hP hD hS rfl rfl rfl rfl hl.1 (Nat.le_of_ble_eq_true rfl) (by decide) d_Guard_boundByPair_151 (fun H locs wn hwn hP hD hS => ?_)
          subst hwn
          have hP : va_P D cls (gW cI g a1 a2 a3 fp fq fr n em ((g_lo (top, bot) ((((fr i).toInt64) * (sg * (g_cross a.toInt64 b.toInt64 ((fp j).toInt64) ((fq j).toInt64)))) + (((fr j).toInt64) * (sg * (g_cross ((fp i).toInt64) ((fq i).toInt64) a.toInt64 b.toInt64)))) (sg * (g_cross ((fp i).toInt64) ((fq i).toInt64) ((fp j).toInt64) ((fq j).toInt64)))).1) ((g_lo (top, bot) ((((fr i).toInt64) * (sg * (g_cross a.toInt64 b.toInt64 ((fp j).toInt64) ((fq j).toInt64)))) + (((fr j).toInt64) * (sg * (g_cross ((fp i).toInt64) ((fq i).toInt64) a.toInt64 b.toInt64)))) (sg * (g_cross ((fp i).toInt64) ((fq i).toInt64) ((fp j).toInt64) ((fq j).toInt64)))).2)) H := hP
          have hD : va_D A (gW cI g a1 a2 a3 fp fq fr n em ((g_lo (top, bot) ((((fr i).toInt64) * (sg * (g_cross a.toInt64 b.toInt64 ((fp j).toInt64) ((fq j).toInt64)))) + (((fr j).toInt64) * (sg * (g_cross ((fp i).toInt64) ((fq i).toInt64) a.toInt64 b.toInt64)))) (sg * (g_cross ((fp i).toInt64) ((fq i).toInt64) ((fp j).toInt64) ((fq j).toInt64)))).1) ((g_lo (top, bot) ((((fr i).toInt64) * (sg * (g_cross a.toInt64 b.toInt64 ((fp j).toInt64) ((fq j).toInt64)))) + (((fr j).toInt64) * (sg * (g_cross ((fp i).toInt64) ((fq i).toInt64) a.toInt64 b.toInt64)))) (sg * (g_cross ((fp i).toInt64) ((fq i).toInt64) ((fp j).toInt64) ((fq j).toInt64)))).2)) := hD
          exact hret 154 H locs ls _ hP hD hS d_Guard_boundByPair_154 (by subst esg; simp [g_pair, h106, h113, h120])
  refine wl_ge (tgt := 46) X.1.1 X.1.2.1 d_Guard_boundByPair_36 d_Guard_boundByPair_37 (by decide) (fun h36 => ?_) (fun h36 => ?_)
  · refine lv_lconst (v := 1) X.1.1 X.1.2.1 d_Guard_boundByPair_46 (by decide) ?_
    exact jn47 _ H locs (by simp [g_sg, h36]) hP hS
  · refine lv_ldc2 (v := -1) X.1.1 X.1.2.1 X.1.2.2.2.1 (X.1.2.2.2.2 _ kc_Guard_65) d_Guard_boundByPair_40 ?_
    refine lv_goto (tgt := 47) X.1.1 X.1.2.1 d_Guard_boundByPair_43 (by decide) ?_
    exact jn47 _ H locs (by simp [g_sg, h36]) hP hS
set_option maxHeartbeats 4000000 in
set_option maxRecDepth 100000 in
theorem c_Guard_maximise (g a1 a2 a3 : Nat) (fp fq fr : Nat → Int32) (n : Nat) (em : Int32) (top bot : Int64) (a b : Int32) (hn : n ≤ 4) : wk_kv l y_Guard_maximise (Cond.code y_Guard_maximise b_Guard_maximise 5 none :: BW) rm_Guard_maximise D cls (kT cI cJ cS) nz [.ref g, .int a, .int b] (gW cI g a1 a2 a3 fp fq fr n em top bot) (fun wz => wz = gW cI g a1 a2 a3 fp fq fr n em (g_max fp fq fr n a b).1 (g_max fp fq fr n a b).2) := by
  refine ws_v (plainFor_of_name (by decide)) (Nat.le_of_ble_eq_true rfl) ?_
  intro p e s m below meth c A ls Q X hret hl hP hD hS
  obtain ⟨H, hH⟩ : ∃ H, H = s.heap := ⟨_, rfl⟩
  obtain ⟨locs, hlo⟩ : ∃ locs : List Loc, locs = [] := ⟨_, rfl⟩
  have hP : va_P D cls (gW cI g a1 a2 a3 fp fq fr n em top bot) H := by rw [hH]; exact hP
  have hS : va_S A s.heap H locs := by rw [hH, hlo]; exact hS
  suffices hgo : W p l e rm_Guard_maximise s m ([.ref g, .int a, .int b] : List Value).toArray below meth c H locs 0 0 Q (F0 m 0 ls ([])) by rw [hH, hlo] at hgo; exact hgo
  clear hH hlo
  have hl : lv_has ls 5 [(0, .ref g), (1, .int a), (2, .int b)] := hl
  have lp26 : ∀ (k26 : Nat) (i : Nat) (top : Int64) (bot : Int64) (ls : Array Slot) (H : Heap) (locs : List Loc), i + k26 = n → g_out fp fq fr a b k26 i (top, bot) = g_max fp fq fr n a b → lv_has ls 5 [(3, .int (nI i)), (0, .ref g), (1, .int a), (2, .int b)] → va_P D cls (gW cI g a1 a2 a3 fp fq fr n em top bot) H → va_D A (gW cI g a1 a2 a3 fp fq fr n em top bot) → va_S A s.heap H locs → W p l e rm_Guard_maximise s m ([.ref g, .int a, .int b] : List Value).toArray below meth c H locs 0 0 Q (F0 m 26 ls ([])) := by
    intro k26
    induction k26 with
    | zero =>
      intro i top bot ls H locs hik hE hl hP hD hS
      refine lv_iload_n X.1.1 X.1.2.1 d_Guard_maximise_26 rfl (lv_at hl 0 rfl) ?_
      refine lv_aload_n X.1.1 X.1.2.1 d_Guard_maximise_27 rfl (lv_at hl 1 rfl) ?_
      refine fg_Guard_24 X hP 0 rfl rfl d_Guard_maximise_28 ?_
      refine wn_ge (a := i) (b := n) (tgt := 76) X.1.1 X.1.2.1 d_Guard_maximise_31 (by decide) (by omega) (by omega) (fun h31 => ?_) (fun h31 => by exfalso; omega)
      exact hret 76 H locs ls _ hP hD hS d_Guard_maximise_76 (by show _ = _; rw [← hE]; rfl)
    | succ k26 ih26 =>
      intro i top bot ls H locs hik hE hl hP hD hS
      refine lv_iload_n X.1.1 X.1.2.1 d_Guard_maximise_26 rfl (lv_at hl 0 rfl) ?_
      refine lv_aload_n X.1.1 X.1.2.1 d_Guard_maximise_27 rfl (lv_at hl 1 rfl) ?_
      refine fg_Guard_24 X hP 0 rfl rfl d_Guard_maximise_28 ?_
      refine wn_ge (a := i) (b := n) (tgt := 76) X.1.1 X.1.2.1 d_Guard_maximise_31 (by decide) (by omega) (by omega) (fun h31 => by exfalso; omega) (fun h31 => ?_)
      refine lv_aload_n X.1.1 X.1.2.1 d_Guard_maximise_34 rfl (lv_at hl 1 rfl) ?_
      refine lv_iload_n X.1.1 X.1.2.1 d_Guard_maximise_35 rfl (lv_at hl 0 rfl) ?_
      refine lv_iload_n X.1.1 X.1.2.1 d_Guard_maximise_36 rfl (lv_at hl 2 rfl) ?_
      refine lv_iload_n X.1.1 X.1.2.1 d_Guard_maximise_37 rfl (lv_at hl 3 rfl) ?_
      refine wc_Vv [.int (nI i), .int a, .int b] 0 0 X nz_nest (c_Guard_boundByRow g a1 a2 a3 fp fq fr n em top bot i a b (by omega) (by omega)) (cw_Guard_43 X.1.2.2.2.2 X.2.2.1 (by decide)) ([]) ([]) (rfl) hP hD hS rfl rfl rfl rfl hl.1 (Nat.le_of_ble_eq_true rfl) (by decide) d_Guard_maximise_38 (fun H locs wn hwn hP hD hS => ?_)
      subst hwn
      have hP : va_P D cls (gW cI g a1 a2 a3 fp fq fr n em ((g_row fp fq fr a b i (top, bot)).1) ((g_row fp fq fr a b i (top, bot)).2)) H := hP
      have hD : va_D A (gW cI g a1 a2 a3 fp fq fr n em ((g_row fp fq fr a b i (top, bot)).1) ((g_row fp fq fr a b i (top, bot)).2)) := hD
      refine lv_iload_n X.1.1 X.1.2.1 d_Guard_maximise_41 rfl (lv_at hl 0 rfl) ?_
      refine lv_iconst (v := (1 : Int32)) X.1.1 X.1.2.1 d_Guard_maximise_42 (by decide) ?_
      refine wn_add (a := i) (b := 1) X.1.1 X.1.2.1 d_Guard_maximise_43 ?_
      refine lv_istore X.1.1 X.1.2.1 d_Guard_maximise_44 hl (by decide) rfl (fun ls hl => ?_)
      have hl : lv_has ls 5 [(4, .int (nI (i + 1))), (3, .int (nI i)), (0, .ref g), (1, .int a), (2, .int b)] := hl
      have lp46 : ∀ (k46 : Nat) (j : Nat) (t2 : Int64) (b2 : Int64) (ls : Array Slot) (H : Heap) (locs : List Loc), j + k46 = n → g_in fp fq fr a b i k46 j (t2, b2) = g_in fp fq fr a b i k26 (i + 1) (g_row fp fq fr a b i (top, bot)) → lv_has ls 5 [(4, .int (nI j)), (3, .int (nI i)), (0, .ref g), (1, .int a), (2, .int b)] → va_P D cls (gW cI g a1 a2 a3 fp fq fr n em t2 b2) H → va_D A (gW cI g a1 a2 a3 fp fq fr n em t2 b2) → va_S A s.heap H locs → W p l e rm_Guard_maximise s m ([.ref g, .int a, .int b] : List Value).toArray below meth c H locs 0 0 Q (F0 m 46 ls ([])) := by
        intro k46
        induction k46 with
        | zero =>
          intro j t2 b2 ls H locs hjk hE2 hl hP hD hS
          refine lv_iload X.1.1 X.1.2.1 d_Guard_maximise_46 (lv_at hl 0 rfl) ?_
          refine lv_aload_n X.1.1 X.1.2.1 d_Guard_maximise_48 rfl (lv_at hl 2 rfl) ?_
          refine fg_Guard_24 X hP 0 rfl rfl d_Guard_maximise_49 ?_
          refine wn_ge (a := j) (b := n) (tgt := 70) X.1.1 X.1.2.1 d_Guard_maximise_52 (by decide) (by omega) (by omega) (fun h52 => ?_) (fun h52 => by exfalso; omega)
          refine lv_iinc (k := 1) (v := nI (i + 1)) X.1.1 X.1.2.1 d_Guard_maximise_70 hl rfl (nI_1 i) (by decide) rfl (fun ls hl => ?_)
          have hl : lv_has ls 5 [(3, .int (nI (i + 1))), (4, .int (nI j)), (0, .ref g), (1, .int a), (2, .int b)] := hl
          refine lv_goto (tgt := 26) X.1.1 X.1.2.1 d_Guard_maximise_73 (by decide) ?_
          exact ih26 (i + 1) t2 b2 ls H locs (by omega) (by rw [show (t2, b2) = _ from hE2]; exact hE) (lv_sub hl [0, 2, 3, 4] rfl) hP hD hS
        | succ k46 ih46 =>
          intro j t2 b2 ls H locs hjk hE2 hl hP hD hS
          refine lv_iload X.1.1 X.1.2.1 d_Guard_maximise_46 (lv_at hl 0 rfl) ?_
          refine lv_aload_n X.1.1 X.1.2.1 d_Guard_maximise_48 rfl (lv_at hl 2 rfl) ?_
          refine fg_Guard_24 X hP 0 rfl rfl d_Guard_maximise_49 ?_
          refine wn_ge (a := j) (b := n) (tgt := 70) X.1.1 X.1.2.1 d_Guard_maximise_52 (by decide) (by omega) (by omega) (fun h52 => by exfalso; omega) (fun h52 => ?_)
          refine lv_aload_n X.1.1 X.1.2.1 d_Guard_maximise_55 rfl (lv_at hl 2 rfl) ?_
          refine lv_iload_n X.1.1 X.1.2.1 d_Guard_maximise_56 rfl (lv_at hl 1 rfl) ?_
          refine lv_iload X.1.1 X.1.2.1 d_Guard_maximise_57 (lv_at hl 0 rfl) ?_
          refine lv_iload_n X.1.1 X.1.2.1 d_Guard_maximise_59 rfl (lv_at hl 3 rfl) ?_
          refine lv_iload_n X.1.1 X.1.2.1 d_Guard_maximise_60 rfl (lv_at hl 4 rfl) ?_
          refine wc_Vv [.int (nI i), .int (nI j), .int a, .int b] 0 0 X nz_nest (c_Guard_boundByPair g a1 a2 a3 fp fq fr n em t2 b2 i j a b (by omega) (by omega) (by omega)) (cw_Guard_47 X.1.2.2.2.2 X.2.2.1 (by decide)) ([]) ([]) (rfl) hP hD hS rfl rfl rfl rfl hl.1 (Nat.le_of_ble_eq_true rfl) (by decide) d_Guard_maximise_61 (fun H locs wn hwn hP hD hS => ?_)
          subst hwn
          have hP : va_P D cls (gW cI g a1 a2 a3 fp fq fr n em ((g_pair fp fq fr a b i j (t2, b2)).1) ((g_pair fp fq fr a b i j (t2, b2)).2)) H := hP
          have hD : va_D A (gW cI g a1 a2 a3 fp fq fr n em ((g_pair fp fq fr a b i j (t2, b2)).1) ((g_pair fp fq fr a b i j (t2, b2)).2)) := hD
          refine lv_iinc (k := 0) (v := nI (j + 1)) X.1.1 X.1.2.1 d_Guard_maximise_64 hl rfl (nI_1 j) (by decide) rfl (fun ls hl => ?_)
          have hl : lv_has ls 5 [(4, .int (nI (j + 1))), (3, .int (nI i)), (0, .ref g), (1, .int a), (2, .int b)] := hl
          refine lv_goto (tgt := 46) X.1.1 X.1.2.1 d_Guard_maximise_67 (by decide) ?_
          exact ih46 (j + 1) _ _ ls H locs (by omega) (hE2) (lv_sub hl [0, 1, 2, 3, 4] rfl) hP hD hS
      exact lp46 k26 (i + 1) ((g_row fp fq fr a b i (top, bot)).1) ((g_row fp fq fr a b i (top, bot)).2) ls H locs (by omega) (rfl) (lv_sub hl [0, 1, 2, 3, 4] rfl) hP hD hS
  refine lv_aload_n X.1.1 X.1.2.1 d_Guard_maximise_0 rfl (lv_at hl 0 rfl) ?_
  refine lv_lconst (v := 0) X.1.1 X.1.2.1 d_Guard_maximise_1 (by decide) ?_
  refine fp_Guard_32 X hP hD hS 0 rfl rfl rfl rfl d_Guard_maximise_2 (fun H locs hP hD hS => ?_)
  have hP : va_P D cls (gW cI g a1 a2 a3 fp fq fr n em (0 : Int64) bot) H := hP
  have hD : va_D A (gW cI g a1 a2 a3 fp fq fr n em (0 : Int64) bot) := hD
  refine lv_aload_n X.1.1 X.1.2.1 d_Guard_maximise_5 rfl (lv_at hl 0 rfl) ?_
  refine lv_lconst (v := 0) X.1.1 X.1.2.1 d_Guard_maximise_6 (by decide) ?_
  refine fp_Guard_36 X hP hD hS 0 rfl rfl rfl rfl d_Guard_maximise_7 (fun H locs hP hD hS => ?_)
  have hP : va_P D cls (gW cI g a1 a2 a3 fp fq fr n em (0 : Int64) (0 : Int64)) H := hP
  have hD : va_D A (gW cI g a1 a2 a3 fp fq fr n em (0 : Int64) (0 : Int64)) := hD
  refine lv_iload_n X.1.1 X.1.2.1 d_Guard_maximise_10 rfl (lv_at hl 1 rfl) ?_
  refine wi0_ne (tgt := 24) X.1.1 X.1.2.1 d_Guard_maximise_11 (by decide) (fun h11 => ?_) (fun h11 => ?_)
  · refine lv_iconst (v := (0 : Int32)) X.1.1 X.1.2.1 d_Guard_maximise_24 (by decide) ?_
    refine lv_istore_n X.1.1 X.1.2.1 d_Guard_maximise_25 rfl hl (by decide) rfl (fun ls hl => ?_)
    have hl : lv_has ls 5 [(3, .int (0 : Int32)), (0, .ref g), (1, .int a), (2, .int b)] := hl
    exact lp26 n 0 0 0 ls H locs (by omega) (by first | (simp only [g_max, if_neg h11]; done) | simp [g_max, h11]) (lv_sub hl [0, 1, 2, 3] rfl) hP hD hS
  · refine lv_iload_n X.1.1 X.1.2.1 d_Guard_maximise_14 rfl (lv_at hl 2 rfl) ?_
    refine wi0_ne (tgt := 24) X.1.1 X.1.2.1 d_Guard_maximise_15 (by decide) (fun h15 => ?_) (fun h15 => ?_)
    · refine lv_iconst (v := (0 : Int32)) X.1.1 X.1.2.1 d_Guard_maximise_24 (by decide) ?_
      refine lv_istore_n X.1.1 X.1.2.1 d_Guard_maximise_25 rfl hl (by decide) rfl (fun ls hl => ?_)
      have hl : lv_has ls 5 [(3, .int (0 : Int32)), (0, .ref g), (1, .int a), (2, .int b)] := hl
      exact lp26 n 0 0 0 ls H locs (by omega) (by first | (simp only [g_max, if_pos h11, if_neg h15]; done) | simp [g_max, h11, h15]) (lv_sub hl [0, 1, 2, 3] rfl) hP hD hS
    · refine lv_aload_n X.1.1 X.1.2.1 d_Guard_maximise_18 rfl (lv_at hl 0 rfl) ?_
      refine lv_lconst (v := 1) X.1.1 X.1.2.1 d_Guard_maximise_19 (by decide) ?_
      refine fp_Guard_36 X hP hD hS 0 rfl rfl rfl rfl d_Guard_maximise_20 (fun H locs hP hD hS => ?_)
      have hP : va_P D cls (gW cI g a1 a2 a3 fp fq fr n em (0 : Int64) (1 : Int64)) H := hP
      have hD : va_D A (gW cI g a1 a2 a3 fp fq fr n em (0 : Int64) (1 : Int64)) := hD
      exact hret 23 H locs ls _ hP hD hS d_Guard_maximise_23 (by first | (simp only [g_max, if_pos h11, if_pos h15]; done) | simp [g_max, h11, h15])
set_option maxHeartbeats 4000000 in
set_option maxRecDepth 100000 in
theorem c_Guard_hasMaximum (g a1 a2 a3 : Nat) (fp fq fr : Nat → Int32) (n : Nat) (em : Int32) (top bot : Int64) : wk_ki l y_Guard_hasMaximum (Cond.code y_Guard_hasMaximum b_Guard_hasMaximum 1 (some .boolean) :: BW) rm_Guard_hasMaximum D cls (kT cI cJ cS) nz [.ref g] (gW cI g a1 a2 a3 fp fq fr n em top bot) (fun wz => wz = gW cI g a1 a2 a3 fp fq fr n em top bot) (g_has bot) := by
  refine ws_z (plainFor_of_name (by decide)) (Nat.le_of_ble_eq_true rfl) ?_
  intro p e s m below meth c A ls Q X hret hl hP hD hS
  obtain ⟨H, hH⟩ : ∃ H, H = s.heap := ⟨_, rfl⟩
  obtain ⟨locs, hlo⟩ : ∃ locs : List Loc, locs = [] := ⟨_, rfl⟩
  have hP : va_P D cls (gW cI g a1 a2 a3 fp fq fr n em top bot) H := by rw [hH]; exact hP
  have hS : va_S A s.heap H locs := by rw [hH, hlo]; exact hS
  suffices hgo : W p l e rm_Guard_hasMaximum s m ([.ref g] : List Value).toArray below meth c H locs 0 0 Q (F0 m 0 ls ([])) by rw [hH, hlo] at hgo; exact hgo
  clear hH hlo
  have hl : lv_has ls 1 [(0, .ref g)] := hl
  refine lv_aload_n X.1.1 X.1.2.1 d_Guard_hasMaximum_0 rfl (lv_at hl 0 rfl) ?_
  refine fg_Guard_36 X hP 0 rfl rfl d_Guard_hasMaximum_1 ?_
  refine lv_lconst (v := 0) X.1.1 X.1.2.1 d_Guard_hasMaximum_4 (by decide) ?_
  refine wl_eq (tgt := 13) X.1.1 X.1.2.1 d_Guard_hasMaximum_5 d_Guard_hasMaximum_6 (by decide) (fun h5 => ?_) (fun h5 => ?_)
  · refine lv_iconst (v := (0 : Int32)) X.1.1 X.1.2.1 d_Guard_hasMaximum_13 (by decide) ?_
    exact hret 14 H locs ls _ _ hP hD hS d_Guard_hasMaximum_14 (Or.inl rfl) (by first | (simp only [g_has, if_pos h5]; done) | simp [g_has, h5]) (rfl)
  · refine lv_iconst (v := (1 : Int32)) X.1.1 X.1.2.1 d_Guard_hasMaximum_9 (by decide) ?_
    refine lv_goto (tgt := 14) X.1.1 X.1.2.1 d_Guard_hasMaximum_10 (by decide) ?_
    exact hret 14 H locs ls _ _ hP hD hS d_Guard_hasMaximum_14 (Or.inr rfl) (by first | (simp only [g_has, if_neg h5]; done) | simp [g_has, h5]) (rfl)
set_option maxHeartbeats 4000000 in
set_option maxRecDepth 100000 in
theorem c_Guard_maximumIsAtMost (g a1 a2 a3 : Nat) (fp fq fr : Nat → Int32) (n : Nat) (em : Int32) (top bot : Int64) (x : Int64) : wk_ki l y_Guard_maximumIsAtMost (Cond.code y_Guard_maximumIsAtMost b_Guard_maximumIsAtMost 3 (some .boolean) :: BW) rm_Guard_maximumIsAtMost D cls (kT cI cJ cS) nz [.ref g, .long x] (gW cI g a1 a2 a3 fp fq fr n em top bot) (fun wz => wz = gW cI g a1 a2 a3 fp fq fr n em top bot) (g_atm top bot x) := by
  refine ws_z (plainFor_of_name (by decide)) (Nat.le_of_ble_eq_true rfl) ?_
  intro p e s m below meth c A ls Q X hret hl hP hD hS
  obtain ⟨H, hH⟩ : ∃ H, H = s.heap := ⟨_, rfl⟩
  obtain ⟨locs, hlo⟩ : ∃ locs : List Loc, locs = [] := ⟨_, rfl⟩
  have hP : va_P D cls (gW cI g a1 a2 a3 fp fq fr n em top bot) H := by rw [hH]; exact hP
  have hS : va_S A s.heap H locs := by rw [hH, hlo]; exact hS
  suffices hgo : W p l e rm_Guard_maximumIsAtMost s m ([.ref g, .long x] : List Value).toArray below meth c H locs 0 0 Q (F0 m 0 ls ([])) by rw [hH, hlo] at hgo; exact hgo
  clear hH hlo
  have hl : lv_has ls 3 [(0, .ref g), (1, .long x)] := hl
  refine lv_aload_n X.1.1 X.1.2.1 d_Guard_maximumIsAtMost_0 rfl (lv_at hl 0 rfl) ?_
  refine fg_Guard_36 X hP 0 rfl rfl d_Guard_maximumIsAtMost_1 ?_
  refine lv_lconst (v := 0) X.1.1 X.1.2.1 d_Guard_maximumIsAtMost_4 (by decide) ?_
  refine wl_eq (tgt := 27) X.1.1 X.1.2.1 d_Guard_maximumIsAtMost_5 d_Guard_maximumIsAtMost_6 (by decide) (fun h5 => ?_) (fun h5 => ?_)
  · refine lv_iconst (v := (0 : Int32)) X.1.1 X.1.2.1 d_Guard_maximumIsAtMost_27 (by decide) ?_
    exact hret 28 H locs ls _ _ hP hD hS d_Guard_maximumIsAtMost_28 (Or.inl rfl) (by first | (simp only [g_atm, if_pos h5]; done) | simp [g_atm, h5]) (rfl)
  · refine lv_aload_n X.1.1 X.1.2.1 d_Guard_maximumIsAtMost_9 rfl (lv_at hl 0 rfl) ?_
    refine fg_Guard_32 X hP 0 rfl rfl d_Guard_maximumIsAtMost_10 ?_
    refine lv_lload_n X.1.1 X.1.2.1 d_Guard_maximumIsAtMost_13 rfl (lv_at hl 1 rfl) ?_
    refine lv_aload_n X.1.1 X.1.2.1 d_Guard_maximumIsAtMost_14 rfl (lv_at hl 0 rfl) ?_
    refine fg_Guard_36 X hP 0 rfl rfl d_Guard_maximumIsAtMost_15 ?_
    refine lv_lmul X.1.1 X.1.2.1 d_Guard_maximumIsAtMost_18 ?_
    refine wl_gt (tgt := 27) X.1.1 X.1.2.1 d_Guard_maximumIsAtMost_19 d_Guard_maximumIsAtMost_20 (by decide) (fun h19 => ?_) (fun h19 => ?_)
    · refine lv_iconst (v := (0 : Int32)) X.1.1 X.1.2.1 d_Guard_maximumIsAtMost_27 (by decide) ?_
      exact hret 28 H locs ls _ _ hP hD hS d_Guard_maximumIsAtMost_28 (Or.inl rfl) (by first | (simp only [g_atm, if_neg h5, if_pos h19]; done) | simp [g_atm, h5, h19]) (rfl)
    · refine lv_iconst (v := (1 : Int32)) X.1.1 X.1.2.1 d_Guard_maximumIsAtMost_23 (by decide) ?_
      refine lv_goto (tgt := 28) X.1.1 X.1.2.1 d_Guard_maximumIsAtMost_24 (by decide) ?_
      exact hret 28 H locs ls _ _ hP hD hS d_Guard_maximumIsAtMost_28 (Or.inr rfl) (by first | (simp only [g_atm, if_neg h5, if_neg h19]; done) | simp [g_atm, h5, h19]) (rfl)
set_option maxHeartbeats 4000000 in
set_option maxRecDepth 100000 in
theorem c_Guard_maximumRoundedDown (g a1 a2 a3 : Nat) (fp fq fr : Nat → Int32) (n : Nat) (em : Int32) (top bot : Int64) : wk_kl l y_Guard_maximumRoundedDown (Cond.code y_Guard_maximumRoundedDown b_Guard_maximumRoundedDown 1 (some .long) :: BW) rm_Guard_maximumRoundedDown D cls (kT cI cJ cS) nz [.ref g] (gW cI g a1 a2 a3 fp fq fr n em top bot) (fun wz => wz = gW cI g a1 a2 a3 fp fq fr n em top bot) (g_rnd top bot) := by
  refine ws_l (plainFor_of_name (by decide)) (Nat.le_of_ble_eq_true rfl) ?_
  intro p e s m below meth c A ls Q X hret hl hP hD hS
  obtain ⟨H, hH⟩ : ∃ H, H = s.heap := ⟨_, rfl⟩
  obtain ⟨locs, hlo⟩ : ∃ locs : List Loc, locs = [] := ⟨_, rfl⟩
  have hP : va_P D cls (gW cI g a1 a2 a3 fp fq fr n em top bot) H := by rw [hH]; exact hP
  have hS : va_S A s.heap H locs := by rw [hH, hlo]; exact hS
  suffices hgo : W p l e rm_Guard_maximumRoundedDown s m ([.ref g] : List Value).toArray below meth c H locs 0 0 Q (F0 m 0 ls ([])) by rw [hH, hlo] at hgo; exact hgo
  clear hH hlo
  have hl : lv_has ls 1 [(0, .ref g)] := hl
  refine lv_aload_n X.1.1 X.1.2.1 d_Guard_maximumRoundedDown_0 rfl (lv_at hl 0 rfl) ?_
  refine fg_Guard_36 X hP 0 rfl rfl d_Guard_maximumRoundedDown_1 ?_
  refine lv_lconst (v := 0) X.1.1 X.1.2.1 d_Guard_maximumRoundedDown_4 (by decide) ?_
  refine wl_ne (tgt := 15) X.1.1 X.1.2.1 d_Guard_maximumRoundedDown_5 d_Guard_maximumRoundedDown_6 (by decide) (fun h5 => ?_) (fun h5 => ?_)
  · refine lv_aload_n X.1.1 X.1.2.1 d_Guard_maximumRoundedDown_15 rfl (lv_at hl 0 rfl) ?_
    refine fg_Guard_32 X hP 0 rfl rfl d_Guard_maximumRoundedDown_16 ?_
    refine lv_aload_n X.1.1 X.1.2.1 d_Guard_maximumRoundedDown_19 rfl (lv_at hl 0 rfl) ?_
    refine fg_Guard_36 X hP 0 rfl rfl d_Guard_maximumRoundedDown_20 ?_
    refine wc_Sl [.long top, .long bot] X nz_nest (c_Math_floorDiv top bot h5) (cw_Guard_69 X.1.2.2.2.2 X.2.2.1 (by decide)) (gW cI g a1 a2 a3 fp fq fr n em top bot) [] rfl hP hD hS rfl rfl hl.1 (Nat.le_of_ble_eq_true rfl) (by decide) d_Guard_maximumRoundedDown_23 (fun H locs wn hwn hP hD hS => ?_)
    subst hwn
    have hP : va_P D cls (gW cI g a1 a2 a3 fp fq fr n em top bot) H := hP
    have hD : va_D A (gW cI g a1 a2 a3 fp fq fr n em top bot) := hD
    exact hret 26 H locs ls _ _ hP hD hS d_Guard_maximumRoundedDown_26 (by first | (simp only [g_rnd, if_neg h5]; done) | simp [g_rnd, h5]) (rfl)
  · refine lv_ldc2 (v := 4611686018427387904) X.1.1 X.1.2.1 X.1.2.2.2.1 (X.1.2.2.2.2 _ kc_Guard_67) d_Guard_maximumRoundedDown_9 ?_
    refine lv_goto (tgt := 26) X.1.1 X.1.2.1 d_Guard_maximumRoundedDown_12 (by decide) ?_
    exact hret 26 H locs ls _ _ hP hD hS d_Guard_maximumRoundedDown_26 (by first | (simp only [g_rnd, if_pos h5]; done) | simp [g_rnd, h5]) (rfl)
set_option maxHeartbeats 4000000 in
set_option maxRecDepth 100000 in
theorem c_Guard_clear (g a1 a2 a3 : Nat) (fp fq fr : Nat → Int32) (n : Nat) (em : Int32) (top bot : Int64) : wk_kv l y_Guard_clear (Cond.code y_Guard_clear b_Guard_clear 1 none :: BW) rm_Guard_clear D cls (kT cI cJ cS) nz [.ref g] (gW cI g a1 a2 a3 fp fq fr n em top bot) (fun wz => wz = gW cI g a1 a2 a3 fp fq fr 0 0 0 0) := by
  refine ws_v (plainFor_of_name (by decide)) (Nat.le_of_ble_eq_true rfl) ?_
  intro p e s m below meth c A ls Q X hret hl hP hD hS
  obtain ⟨H, hH⟩ : ∃ H, H = s.heap := ⟨_, rfl⟩
  obtain ⟨locs, hlo⟩ : ∃ locs : List Loc, locs = [] := ⟨_, rfl⟩
  have hP : va_P D cls (gW cI g a1 a2 a3 fp fq fr n em top bot) H := by rw [hH]; exact hP
  have hS : va_S A s.heap H locs := by rw [hH, hlo]; exact hS
  suffices hgo : W p l e rm_Guard_clear s m ([.ref g] : List Value).toArray below meth c H locs 0 0 Q (F0 m 0 ls ([])) by rw [hH, hlo] at hgo; exact hgo
  clear hH hlo
  have hl : lv_has ls 1 [(0, .ref g)] := hl
  refine lv_aload_n X.1.1 X.1.2.1 d_Guard_clear_0 rfl (lv_at hl 0 rfl) ?_
  refine lv_iconst (v := (0 : Int32)) X.1.1 X.1.2.1 d_Guard_clear_1 (by decide) ?_
  refine fp_Guard_24 X hP hD hS 0 rfl rfl rfl rfl d_Guard_clear_2 (fun H locs hP hD hS => ?_)
  have hP : va_P D cls (gW cI g a1 a2 a3 fp fq fr 0 em top bot) H := hP
  have hD : va_D A (gW cI g a1 a2 a3 fp fq fr 0 em top bot) := hD
  refine lv_aload_n X.1.1 X.1.2.1 d_Guard_clear_5 rfl (lv_at hl 0 rfl) ?_
  refine lv_iconst (v := (0 : Int32)) X.1.1 X.1.2.1 d_Guard_clear_6 (by decide) ?_
  refine fp_Guard_28 X hP hD hS 0 rfl rfl rfl rfl d_Guard_clear_7 (fun H locs hP hD hS => ?_)
  have hP : va_P D cls (gW cI g a1 a2 a3 fp fq fr 0 (0 : Int32) top bot) H := hP
  have hD : va_D A (gW cI g a1 a2 a3 fp fq fr 0 (0 : Int32) top bot) := hD
  refine lv_aload_n X.1.1 X.1.2.1 d_Guard_clear_10 rfl (lv_at hl 0 rfl) ?_
  refine lv_lconst (v := 0) X.1.1 X.1.2.1 d_Guard_clear_11 (by decide) ?_
  refine fp_Guard_32 X hP hD hS 0 rfl rfl rfl rfl d_Guard_clear_12 (fun H locs hP hD hS => ?_)
  have hP : va_P D cls (gW cI g a1 a2 a3 fp fq fr 0 (0 : Int32) (0 : Int64) bot) H := hP
  have hD : va_D A (gW cI g a1 a2 a3 fp fq fr 0 (0 : Int32) (0 : Int64) bot) := hD
  refine lv_aload_n X.1.1 X.1.2.1 d_Guard_clear_15 rfl (lv_at hl 0 rfl) ?_
  refine lv_lconst (v := 0) X.1.1 X.1.2.1 d_Guard_clear_16 (by decide) ?_
  refine fp_Guard_36 X hP hD hS 0 rfl rfl rfl rfl d_Guard_clear_17 (fun H locs hP hD hS => ?_)
  have hP : va_P D cls (gW cI g a1 a2 a3 fp fq fr 0 (0 : Int32) (0 : Int64) (0 : Int64)) H := hP
  have hD : va_D A (gW cI g a1 a2 a3 fp fq fr 0 (0 : Int32) (0 : Int64) (0 : Int64)) := hD
  exact hret 20 H locs ls _ hP hD hS d_Guard_clear_20 (rfl)
set_option maxHeartbeats 4000000 in
set_option maxRecDepth 100000 in
theorem c_Guard_allows (g a1 a2 a3 : Nat) (fp fq fr : Nat → Int32) (n : Nat) (em : Int32) (top bot : Int64) (x y : Int64) (hn : n ≤ 4) : wk_ki l y_Guard_allows (Cond.code y_Guard_allows b_Guard_allows 6 (some .boolean) :: BW) rm_Guard_allows D cls (kT cI cJ cS) nz [.ref g, .long x, .long y] (gW cI g a1 a2 a3 fp fq fr n em top bot) (fun wz => wz = gW cI g a1 a2 a3 fp fq fr n em top bot) (g_al fp fq fr x y n 0) := by
  refine ws_z (plainFor_of_name (by decide)) (Nat.le_of_ble_eq_true rfl) ?_
  intro p e s m below meth c A ls Q X hret hl hP hD hS
  obtain ⟨H, hH⟩ : ∃ H, H = s.heap := ⟨_, rfl⟩
  obtain ⟨locs, hlo⟩ : ∃ locs : List Loc, locs = [] := ⟨_, rfl⟩
  have hP : va_P D cls (gW cI g a1 a2 a3 fp fq fr n em top bot) H := by rw [hH]; exact hP
  have hS : va_S A s.heap H locs := by rw [hH, hlo]; exact hS
  suffices hgo : W p l e rm_Guard_allows s m ([.ref g, .long x, .long y] : List Value).toArray below meth c H locs 0 0 Q (F0 m 0 ls ([])) by rw [hH, hlo] at hgo; exact hgo
  clear hH hlo
  have hl : lv_has ls 6 [(0, .ref g), (1, .long x), (3, .long y)] := hl
  refine lv_iconst (v := (0 : Int32)) X.1.1 X.1.2.1 d_Guard_allows_0 (by decide) ?_
  refine lv_istore X.1.1 X.1.2.1 d_Guard_allows_1 hl (by decide) rfl (fun ls hl => ?_)
  have hl : lv_has ls 6 [(5, .int (0 : Int32)), (0, .ref g), (1, .long x), (3, .long y)] := hl
  have lp3 : ∀ (k3 : Nat) (i : Nat) (ls : Array Slot) (H : Heap) (locs : List Loc), i + k3 = n → g_al fp fq fr x y k3 i = g_al fp fq fr x y n 0 → lv_has ls 6 [(5, .int (nI i)), (0, .ref g), (1, .long x), (3, .long y)] → va_P D cls (gW cI g a1 a2 a3 fp fq fr n em top bot) H → va_D A (gW cI g a1 a2 a3 fp fq fr n em top bot) → va_S A s.heap H locs → W p l e rm_Guard_allows s m ([.ref g, .long x, .long y] : List Value).toArray below meth c H locs 0 0 Q (F0 m 3 ls ([])) := by
    intro k3
    induction k3 with
    | zero =>
      intro i ls H locs hik hE hl hP hD hS
      refine lv_iload X.1.1 X.1.2.1 d_Guard_allows_3 (lv_at hl 0 rfl) ?_
      refine lv_aload_n X.1.1 X.1.2.1 d_Guard_allows_5 rfl (lv_at hl 1 rfl) ?_
      refine fg_Guard_24 X hP 0 rfl rfl d_Guard_allows_6 ?_
      refine wn_ge (a := i) (b := n) (tgt := 53) X.1.1 X.1.2.1 d_Guard_allows_9 (by decide) (by omega) (by omega) (fun h9 => ?_) (fun h9 => by exfalso; omega)
      refine lv_iconst (v := (1 : Int32)) X.1.1 X.1.2.1 d_Guard_allows_53 (by decide) ?_
      exact hret 54 H locs ls _ _ hP hD hS d_Guard_allows_54 (Or.inr rfl) (by rw [← hE]; first | rfl | exact (if_pos h9).symm) (rfl)
    | succ k3 ih3 =>
      intro i ls H locs hik hE hl hP hD hS
      refine lv_iload X.1.1 X.1.2.1 d_Guard_allows_3 (lv_at hl 0 rfl) ?_
      refine lv_aload_n X.1.1 X.1.2.1 d_Guard_allows_5 rfl (lv_at hl 1 rfl) ?_
      refine fg_Guard_24 X hP 0 rfl rfl d_Guard_allows_6 ?_
      refine wn_ge (a := i) (b := n) (tgt := 53) X.1.1 X.1.2.1 d_Guard_allows_9 (by decide) (by omega) (by omega) (fun h9 => by exfalso; omega) (fun h9 => ?_)
      refine lv_aload_n X.1.1 X.1.2.1 d_Guard_allows_12 rfl (lv_at hl 1 rfl) ?_
      refine fg_Guard_9 X hP 0 rfl rfl d_Guard_allows_13 ?_
      refine lv_iload X.1.1 X.1.2.1 d_Guard_allows_16 (lv_at hl 0 rfl) ?_
      refine wa_ild X.1.1 X.1.2.1 X.2.1 hP 1 0 rfl rfl i rfl (by omega) (by decide) d_Guard_allows_18 ?_
      refine lv_i2l X.1.1 X.1.2.1 d_Guard_allows_19 rfl ?_
      refine lv_lload_n X.1.1 X.1.2.1 d_Guard_allows_20 rfl (lv_at hl 2 rfl) ?_
      refine lv_lmul X.1.1 X.1.2.1 d_Guard_allows_21 ?_
      refine lv_aload_n X.1.1 X.1.2.1 d_Guard_allows_22 rfl (lv_at hl 1 rfl) ?_
      refine fg_Guard_15 X hP 0 rfl rfl d_Guard_allows_23 ?_
      refine lv_iload X.1.1 X.1.2.1 d_Guard_allows_26 (lv_at hl 0 rfl) ?_
      refine wa_ild X.1.1 X.1.2.1 X.2.1 hP 2 0 rfl rfl i rfl (by omega) (by decide) d_Guard_allows_28 ?_
      refine lv_i2l X.1.1 X.1.2.1 d_Guard_allows_29 rfl ?_
      refine lv_lload_n X.1.1 X.1.2.1 d_Guard_allows_30 rfl (lv_at hl 3 rfl) ?_
      refine lv_lmul X.1.1 X.1.2.1 d_Guard_allows_31 ?_
      refine lv_ladd X.1.1 X.1.2.1 d_Guard_allows_32 ?_
      refine lv_aload_n X.1.1 X.1.2.1 d_Guard_allows_33 rfl (lv_at hl 1 rfl) ?_
      refine fg_Guard_18 X hP 0 rfl rfl d_Guard_allows_34 ?_
      refine lv_iload X.1.1 X.1.2.1 d_Guard_allows_37 (lv_at hl 0 rfl) ?_
      refine wa_ild X.1.1 X.1.2.1 X.2.1 hP 3 0 rfl rfl i rfl (by omega) (by decide) d_Guard_allows_39 ?_
      refine lv_i2l X.1.1 X.1.2.1 d_Guard_allows_40 rfl ?_
      refine wl_le (tgt := 47) X.1.1 X.1.2.1 d_Guard_allows_41 d_Guard_allows_42 (by decide) (fun h41 => ?_) (fun h41 => ?_)
      · refine lv_iinc (k := 0) (v := nI (i + 1)) X.1.1 X.1.2.1 d_Guard_allows_47 hl rfl (nI_1 i) (by decide) rfl (fun ls hl => ?_)
        have hl : lv_has ls 6 [(5, .int (nI (i + 1))), (0, .ref g), (1, .long x), (3, .long y)] := hl
        refine lv_goto (tgt := 3) X.1.1 X.1.2.1 d_Guard_allows_50 (by decide) ?_
        exact ih3 (i + 1) ls H locs (by omega) (by rw [← hE]; exact (if_neg h41).symm) (lv_sub hl [0, 1, 2, 3] rfl) hP hD hS
      · refine lv_iconst (v := (0 : Int32)) X.1.1 X.1.2.1 d_Guard_allows_45 (by decide) ?_
        exact hret 46 H locs ls _ _ hP hD hS d_Guard_allows_46 (Or.inl rfl) (by rw [← hE]; first | rfl | exact (if_pos h41).symm) (rfl)
  exact lp3 n 0 ls H locs (by omega) (rfl) (lv_sub hl [0, 1, 2, 3] rfl) hP hD hS
set_option maxHeartbeats 4000000 in
set_option maxRecDepth 100000 in
theorem c_Guard_add (g a1 a2 a3 : Nat) (fp fq fr : Nat → Int32) (n : Nat) (em : Int32) (top bot : Int64) (np nq nr : Int32) (hn : n < 4) : wk_kv l y_Guard_add (Cond.code y_Guard_add b_Guard_add 4 none :: BW) rm_Guard_add D cls (kT cI cJ cS) nz [.ref g, .int np, .int nq, .int nr] (gW cI g a1 a2 a3 fp fq fr n em top bot) (fun wz => ∃ t b, wz = gW cI g a1 a2 a3 (upd fp n np) (upd fq n nq) (upd fr n nr) (n + 1) (g_em fp fq fr n em np nq nr) t b) := by
  refine ws_v (plainFor_of_name (by decide)) (Nat.le_of_ble_eq_true rfl) ?_
  intro p e s m below meth c A ls Q X hret hl hP hD hS
  obtain ⟨H, hH⟩ : ∃ H, H = s.heap := ⟨_, rfl⟩
  obtain ⟨locs, hlo⟩ : ∃ locs : List Loc, locs = [] := ⟨_, rfl⟩
  have hP : va_P D cls (gW cI g a1 a2 a3 fp fq fr n em top bot) H := by rw [hH]; exact hP
  have hS : va_S A s.heap H locs := by rw [hH, hlo]; exact hS
  suffices hgo : W p l e rm_Guard_add s m ([.ref g, .int np, .int nq, .int nr] : List Value).toArray below meth c H locs 0 0 Q (F0 m 0 ls ([])) by rw [hH, hlo] at hgo; exact hgo
  clear hH hlo
  have hl : lv_has ls 4 [(0, .ref g), (1, .int np), (2, .int nq), (3, .int nr)] := hl
  refine lv_aload_n X.1.1 X.1.2.1 d_Guard_add_0 rfl (lv_at hl 0 rfl) ?_
  refine fg_Guard_24 X hP 0 rfl rfl d_Guard_add_1 ?_
  refine lv_iconst (v := (4 : Int32)) X.1.1 X.1.2.1 d_Guard_add_4 (by decide) ?_
  refine wn_lt (a := n) (b := 4) (tgt := 9) X.1.1 X.1.2.1 d_Guard_add_5 (by decide) (by omega) (by omega) (fun h5 => ?_) (fun h5 => by exfalso; omega)
  refine lv_aload_n X.1.1 X.1.2.1 d_Guard_add_9 rfl (lv_at hl 0 rfl) ?_
  refine fg_Guard_28 X hP 0 rfl rfl d_Guard_add_10 ?_
  refine wi0_ne (tgt := 58) X.1.1 X.1.2.1 d_Guard_add_13 (by decide) (fun h13 => ?_) (fun h13 => ?_)
  · refine lv_aload_n X.1.1 X.1.2.1 d_Guard_add_58 rfl (lv_at hl 0 rfl) ?_
    refine fg_Guard_9 X hP 0 rfl rfl d_Guard_add_59 ?_
    refine lv_aload_n X.1.1 X.1.2.1 d_Guard_add_62 rfl (lv_at hl 0 rfl) ?_
    refine fg_Guard_24 X hP 0 rfl rfl d_Guard_add_63 ?_
    refine lv_iload_n X.1.1 X.1.2.1 d_Guard_add_66 rfl (lv_at hl 1 rfl) ?_
    refine wa_ist X.1.1 X.1.2.1 X.2.1 hP hD hS 1 0 rfl rfl n rfl (by omega) (by decide) d_Guard_add_67 (fun H locs hP hD hS => ?_)
    have hP : va_P D cls (gW cI g a1 a2 a3 (upd fp n np) fq fr n em top bot) H := hP
    have hD : va_D A (gW cI g a1 a2 a3 (upd fp n np) fq fr n em top bot) := hD
    refine lv_aload_n X.1.1 X.1.2.1 d_Guard_add_68 rfl (lv_at hl 0 rfl) ?_
    refine fg_Guard_15 X hP 0 rfl rfl d_Guard_add_69 ?_
    refine lv_aload_n X.1.1 X.1.2.1 d_Guard_add_72 rfl (lv_at hl 0 rfl) ?_
    refine fg_Guard_24 X hP 0 rfl rfl d_Guard_add_73 ?_
    refine lv_iload_n X.1.1 X.1.2.1 d_Guard_add_76 rfl (lv_at hl 2 rfl) ?_
    refine wa_ist X.1.1 X.1.2.1 X.2.1 hP hD hS 2 0 rfl rfl n rfl (by omega) (by decide) d_Guard_add_77 (fun H locs hP hD hS => ?_)
    have hP : va_P D cls (gW cI g a1 a2 a3 (upd fp n np) (upd fq n nq) fr n em top bot) H := hP
    have hD : va_D A (gW cI g a1 a2 a3 (upd fp n np) (upd fq n nq) fr n em top bot) := hD
    refine lv_aload_n X.1.1 X.1.2.1 d_Guard_add_78 rfl (lv_at hl 0 rfl) ?_
    refine fg_Guard_18 X hP 0 rfl rfl d_Guard_add_79 ?_
    refine lv_aload_n X.1.1 X.1.2.1 d_Guard_add_82 rfl (lv_at hl 0 rfl) ?_
    refine fg_Guard_24 X hP 0 rfl rfl d_Guard_add_83 ?_
    refine lv_iload_n X.1.1 X.1.2.1 d_Guard_add_86 rfl (lv_at hl 3 rfl) ?_
    refine wa_ist X.1.1 X.1.2.1 X.2.1 hP hD hS 3 0 rfl rfl n rfl (by omega) (by decide) d_Guard_add_87 (fun H locs hP hD hS => ?_)
    have hP : va_P D cls (gW cI g a1 a2 a3 (upd fp n np) (upd fq n nq) (upd fr n nr) n em top bot) H := hP
    have hD : va_D A (gW cI g a1 a2 a3 (upd fp n np) (upd fq n nq) (upd fr n nr) n em top bot) := hD
    refine lv_aload_n X.1.1 X.1.2.1 d_Guard_add_88 rfl (lv_at hl 0 rfl) ?_
    refine lv_dup X.1.1 X.1.2.1 d_Guard_add_89 rfl ?_
    refine fg_Guard_24 X hP 0 rfl rfl d_Guard_add_90 ?_
    refine lv_iconst (v := (1 : Int32)) X.1.1 X.1.2.1 d_Guard_add_93 (by decide) ?_
    refine wn_add (a := n) (b := 1) X.1.1 X.1.2.1 d_Guard_add_94 ?_
    refine fp_Guard_24 X hP hD hS 0 rfl rfl rfl rfl d_Guard_add_95 (fun H locs hP hD hS => ?_)
    have hP : va_P D cls (gW cI g a1 a2 a3 (upd fp n np) (upd fq n nq) (upd fr n nr) (n + 1) em top bot) H := hP
    have hD : va_D A (gW cI g a1 a2 a3 (upd fp n np) (upd fq n nq) (upd fr n nr) (n + 1) em top bot) := hD
    exact hret 98 H locs ls _ hP hD hS d_Guard_add_98 (⟨top, bot, by simp [g_em, h5, h13]⟩)
  · refine lv_aload_n X.1.1 X.1.2.1 d_Guard_add_16 rfl (lv_at hl 0 rfl) ?_
    refine lv_iload_n X.1.1 X.1.2.1 d_Guard_add_17 rfl (lv_at hl 1 rfl) ?_
    refine lv_ineg X.1.1 X.1.2.1 d_Guard_add_18 ?_
    refine lv_iload_n X.1.1 X.1.2.1 d_Guard_add_19 rfl (lv_at hl 2 rfl) ?_
    refine lv_ineg X.1.1 X.1.2.1 d_Guard_add_20 ?_
    refine wc_Vv [.int (-np), .int (-nq)] 0 0 X nz_nest (c_Guard_maximise g a1 a2 a3 fp fq fr n em top bot (-np) (-nq) (by omega)) (cw_Guard_39 X.1.2.2.2.2 X.2.2.1 (by decide)) ([]) ([]) (rfl) hP hD hS rfl rfl rfl rfl hl.1 (Nat.le_of_ble_eq_true rfl) (by decide) d_Guard_add_21 (fun H locs wn hwn hP hD hS => ?_)
    subst hwn
    have hP : va_P D cls (gW cI g a1 a2 a3 fp fq fr n em ((g_max fp fq fr n (-np) (-nq)).1) ((g_max fp fq fr n (-np) (-nq)).2)) H := hP
    have hD : va_D A (gW cI g a1 a2 a3 fp fq fr n em ((g_max fp fq fr n (-np) (-nq)).1) ((g_max fp fq fr n (-np) (-nq)).2)) := hD
    refine lv_aload_n X.1.1 X.1.2.1 d_Guard_add_24 rfl (lv_at hl 0 rfl) ?_
    refine lv_aload_n X.1.1 X.1.2.1 d_Guard_add_25 rfl (lv_at hl 0 rfl) ?_
    refine fg_Guard_36 X hP 0 rfl rfl d_Guard_add_26 ?_
    refine lv_lconst (v := 0) X.1.1 X.1.2.1 d_Guard_add_29 (by decide) ?_
    refine wl_eq (tgt := 54) X.1.1 X.1.2.1 d_Guard_add_30 d_Guard_add_31 (by decide) (fun h30 => ?_) (fun h30 => ?_)
    · refine lv_iconst (v := (0 : Int32)) X.1.1 X.1.2.1 d_Guard_add_54 (by decide) ?_
      refine fp_Guard_28 X hP hD hS 0 rfl rfl rfl rfl d_Guard_add_55 (fun H locs hP hD hS => ?_)
      have hP : va_P D cls (gW cI g a1 a2 a3 fp fq fr n (0 : Int32) ((g_max fp fq fr n (-np) (-nq)).1) ((g_max fp fq fr n (-np) (-nq)).2)) H := hP
      have hD : va_D A (gW cI g a1 a2 a3 fp fq fr n (0 : Int32) ((g_max fp fq fr n (-np) (-nq)).1) ((g_max fp fq fr n (-np) (-nq)).2)) := hD
      refine lv_aload_n X.1.1 X.1.2.1 d_Guard_add_58 rfl (lv_at hl 0 rfl) ?_
      refine fg_Guard_9 X hP 0 rfl rfl d_Guard_add_59 ?_
      refine lv_aload_n X.1.1 X.1.2.1 d_Guard_add_62 rfl (lv_at hl 0 rfl) ?_
      refine fg_Guard_24 X hP 0 rfl rfl d_Guard_add_63 ?_
      refine lv_iload_n X.1.1 X.1.2.1 d_Guard_add_66 rfl (lv_at hl 1 rfl) ?_
      refine wa_ist X.1.1 X.1.2.1 X.2.1 hP hD hS 1 0 rfl rfl n rfl (by omega) (by decide) d_Guard_add_67 (fun H locs hP hD hS => ?_)
      have hP : va_P D cls (gW cI g a1 a2 a3 (upd fp n np) fq fr n (0 : Int32) ((g_max fp fq fr n (-np) (-nq)).1) ((g_max fp fq fr n (-np) (-nq)).2)) H := hP
      have hD : va_D A (gW cI g a1 a2 a3 (upd fp n np) fq fr n (0 : Int32) ((g_max fp fq fr n (-np) (-nq)).1) ((g_max fp fq fr n (-np) (-nq)).2)) := hD
      refine lv_aload_n X.1.1 X.1.2.1 d_Guard_add_68 rfl (lv_at hl 0 rfl) ?_
      refine fg_Guard_15 X hP 0 rfl rfl d_Guard_add_69 ?_
      refine lv_aload_n X.1.1 X.1.2.1 d_Guard_add_72 rfl (lv_at hl 0 rfl) ?_
      refine fg_Guard_24 X hP 0 rfl rfl d_Guard_add_73 ?_
      refine lv_iload_n X.1.1 X.1.2.1 d_Guard_add_76 rfl (lv_at hl 2 rfl) ?_
      refine wa_ist X.1.1 X.1.2.1 X.2.1 hP hD hS 2 0 rfl rfl n rfl (by omega) (by decide) d_Guard_add_77 (fun H locs hP hD hS => ?_)
      have hP : va_P D cls (gW cI g a1 a2 a3 (upd fp n np) (upd fq n nq) fr n (0 : Int32) ((g_max fp fq fr n (-np) (-nq)).1) ((g_max fp fq fr n (-np) (-nq)).2)) H := hP
      have hD : va_D A (gW cI g a1 a2 a3 (upd fp n np) (upd fq n nq) fr n (0 : Int32) ((g_max fp fq fr n (-np) (-nq)).1) ((g_max fp fq fr n (-np) (-nq)).2)) := hD
      refine lv_aload_n X.1.1 X.1.2.1 d_Guard_add_78 rfl (lv_at hl 0 rfl) ?_
      refine fg_Guard_18 X hP 0 rfl rfl d_Guard_add_79 ?_
      refine lv_aload_n X.1.1 X.1.2.1 d_Guard_add_82 rfl (lv_at hl 0 rfl) ?_
      refine fg_Guard_24 X hP 0 rfl rfl d_Guard_add_83 ?_
      refine lv_iload_n X.1.1 X.1.2.1 d_Guard_add_86 rfl (lv_at hl 3 rfl) ?_
      refine wa_ist X.1.1 X.1.2.1 X.2.1 hP hD hS 3 0 rfl rfl n rfl (by omega) (by decide) d_Guard_add_87 (fun H locs hP hD hS => ?_)
      have hP : va_P D cls (gW cI g a1 a2 a3 (upd fp n np) (upd fq n nq) (upd fr n nr) n (0 : Int32) ((g_max fp fq fr n (-np) (-nq)).1) ((g_max fp fq fr n (-np) (-nq)).2)) H := hP
      have hD : va_D A (gW cI g a1 a2 a3 (upd fp n np) (upd fq n nq) (upd fr n nr) n (0 : Int32) ((g_max fp fq fr n (-np) (-nq)).1) ((g_max fp fq fr n (-np) (-nq)).2)) := hD
      refine lv_aload_n X.1.1 X.1.2.1 d_Guard_add_88 rfl (lv_at hl 0 rfl) ?_
      refine lv_dup X.1.1 X.1.2.1 d_Guard_add_89 rfl ?_
      refine fg_Guard_24 X hP 0 rfl rfl d_Guard_add_90 ?_
      refine lv_iconst (v := (1 : Int32)) X.1.1 X.1.2.1 d_Guard_add_93 (by decide) ?_
      refine wn_add (a := n) (b := 1) X.1.1 X.1.2.1 d_Guard_add_94 ?_
      refine fp_Guard_24 X hP hD hS 0 rfl rfl rfl rfl d_Guard_add_95 (fun H locs hP hD hS => ?_)
      have hP : va_P D cls (gW cI g a1 a2 a3 (upd fp n np) (upd fq n nq) (upd fr n nr) (n + 1) (0 : Int32) ((g_max fp fq fr n (-np) (-nq)).1) ((g_max fp fq fr n (-np) (-nq)).2)) H := hP
      have hD : va_D A (gW cI g a1 a2 a3 (upd fp n np) (upd fq n nq) (upd fr n nr) (n + 1) (0 : Int32) ((g_max fp fq fr n (-np) (-nq)).1) ((g_max fp fq fr n (-np) (-nq)).2)) := hD
      exact hret 98 H locs ls _ hP hD hS d_Guard_add_98 (⟨(g_max fp fq fr n (-np) (-nq)).1, (g_max fp fq fr n (-np) (-nq)).2, by simp [g_em, h5, h13, h30]⟩)
    · refine lv_aload_n X.1.1 X.1.2.1 d_Guard_add_34 rfl (lv_at hl 0 rfl) ?_
      refine fg_Guard_32 X hP 0 rfl rfl d_Guard_add_35 ?_
      refine lv_iload_n X.1.1 X.1.2.1 d_Guard_add_38 rfl (lv_at hl 3 rfl) ?_
      refine lv_ineg X.1.1 X.1.2.1 d_Guard_add_39 ?_
      refine lv_i2l X.1.1 X.1.2.1 d_Guard_add_40 rfl ?_
      refine lv_aload_n X.1.1 X.1.2.1 d_Guard_add_41 rfl (lv_at hl 0 rfl) ?_
      refine fg_Guard_36 X hP 0 rfl rfl d_Guard_add_42 ?_
      refine lv_lmul X.1.1 X.1.2.1 d_Guard_add_45 ?_
      refine wl_ge (tgt := 54) X.1.1 X.1.2.1 d_Guard_add_46 d_Guard_add_47 (by decide) (fun h46 => ?_) (fun h46 => ?_)
      · refine lv_iconst (v := (0 : Int32)) X.1.1 X.1.2.1 d_Guard_add_54 (by decide) ?_
        refine fp_Guard_28 X hP hD hS 0 rfl rfl rfl rfl d_Guard_add_55 (fun H locs hP hD hS => ?_)
        have hP : va_P D cls (gW cI g a1 a2 a3 fp fq fr n (0 : Int32) ((g_max fp fq fr n (-np) (-nq)).1) ((g_max fp fq fr n (-np) (-nq)).2)) H := hP
        have hD : va_D A (gW cI g a1 a2 a3 fp fq fr n (0 : Int32) ((g_max fp fq fr n (-np) (-nq)).1) ((g_max fp fq fr n (-np) (-nq)).2)) := hD
        refine lv_aload_n X.1.1 X.1.2.1 d_Guard_add_58 rfl (lv_at hl 0 rfl) ?_
        refine fg_Guard_9 X hP 0 rfl rfl d_Guard_add_59 ?_
        refine lv_aload_n X.1.1 X.1.2.1 d_Guard_add_62 rfl (lv_at hl 0 rfl) ?_
        refine fg_Guard_24 X hP 0 rfl rfl d_Guard_add_63 ?_
        refine lv_iload_n X.1.1 X.1.2.1 d_Guard_add_66 rfl (lv_at hl 1 rfl) ?_
        refine wa_ist X.1.1 X.1.2.1 X.2.1 hP hD hS 1 0 rfl rfl n rfl (by omega) (by decide) d_Guard_add_67 (fun H locs hP hD hS => ?_)
        have hP : va_P D cls (gW cI g a1 a2 a3 (upd fp n np) fq fr n (0 : Int32) ((g_max fp fq fr n (-np) (-nq)).1) ((g_max fp fq fr n (-np) (-nq)).2)) H := hP
        have hD : va_D A (gW cI g a1 a2 a3 (upd fp n np) fq fr n (0 : Int32) ((g_max fp fq fr n (-np) (-nq)).1) ((g_max fp fq fr n (-np) (-nq)).2)) := hD
        refine lv_aload_n X.1.1 X.1.2.1 d_Guard_add_68 rfl (lv_at hl 0 rfl) ?_
        refine fg_Guard_15 X hP 0 rfl rfl d_Guard_add_69 ?_
        refine lv_aload_n X.1.1 X.1.2.1 d_Guard_add_72 rfl (lv_at hl 0 rfl) ?_
        refine fg_Guard_24 X hP 0 rfl rfl d_Guard_add_73 ?_
        refine lv_iload_n X.1.1 X.1.2.1 d_Guard_add_76 rfl (lv_at hl 2 rfl) ?_
        refine wa_ist X.1.1 X.1.2.1 X.2.1 hP hD hS 2 0 rfl rfl n rfl (by omega) (by decide) d_Guard_add_77 (fun H locs hP hD hS => ?_)
        have hP : va_P D cls (gW cI g a1 a2 a3 (upd fp n np) (upd fq n nq) fr n (0 : Int32) ((g_max fp fq fr n (-np) (-nq)).1) ((g_max fp fq fr n (-np) (-nq)).2)) H := hP
        have hD : va_D A (gW cI g a1 a2 a3 (upd fp n np) (upd fq n nq) fr n (0 : Int32) ((g_max fp fq fr n (-np) (-nq)).1) ((g_max fp fq fr n (-np) (-nq)).2)) := hD
        refine lv_aload_n X.1.1 X.1.2.1 d_Guard_add_78 rfl (lv_at hl 0 rfl) ?_
        refine fg_Guard_18 X hP 0 rfl rfl d_Guard_add_79 ?_
        refine lv_aload_n X.1.1 X.1.2.1 d_Guard_add_82 rfl (lv_at hl 0 rfl) ?_
        refine fg_Guard_24 X hP 0 rfl rfl d_Guard_add_83 ?_
        refine lv_iload_n X.1.1 X.1.2.1 d_Guard_add_86 rfl (lv_at hl 3 rfl) ?_
        refine wa_ist X.1.1 X.1.2.1 X.2.1 hP hD hS 3 0 rfl rfl n rfl (by omega) (by decide) d_Guard_add_87 (fun H locs hP hD hS => ?_)
        have hP : va_P D cls (gW cI g a1 a2 a3 (upd fp n np) (upd fq n nq) (upd fr n nr) n (0 : Int32) ((g_max fp fq fr n (-np) (-nq)).1) ((g_max fp fq fr n (-np) (-nq)).2)) H := hP
        have hD : va_D A (gW cI g a1 a2 a3 (upd fp n np) (upd fq n nq) (upd fr n nr) n (0 : Int32) ((g_max fp fq fr n (-np) (-nq)).1) ((g_max fp fq fr n (-np) (-nq)).2)) := hD
        refine lv_aload_n X.1.1 X.1.2.1 d_Guard_add_88 rfl (lv_at hl 0 rfl) ?_
        refine lv_dup X.1.1 X.1.2.1 d_Guard_add_89 rfl ?_
        refine fg_Guard_24 X hP 0 rfl rfl d_Guard_add_90 ?_
        refine lv_iconst (v := (1 : Int32)) X.1.1 X.1.2.1 d_Guard_add_93 (by decide) ?_
        refine wn_add (a := n) (b := 1) X.1.1 X.1.2.1 d_Guard_add_94 ?_
        refine fp_Guard_24 X hP hD hS 0 rfl rfl rfl rfl d_Guard_add_95 (fun H locs hP hD hS => ?_)
        have hP : va_P D cls (gW cI g a1 a2 a3 (upd fp n np) (upd fq n nq) (upd fr n nr) (n + 1) (0 : Int32) ((g_max fp fq fr n (-np) (-nq)).1) ((g_max fp fq fr n (-np) (-nq)).2)) H := hP
        have hD : va_D A (gW cI g a1 a2 a3 (upd fp n np) (upd fq n nq) (upd fr n nr) (n + 1) (0 : Int32) ((g_max fp fq fr n (-np) (-nq)).1) ((g_max fp fq fr n (-np) (-nq)).2)) := hD
        exact hret 98 H locs ls _ hP hD hS d_Guard_add_98 (⟨(g_max fp fq fr n (-np) (-nq)).1, (g_max fp fq fr n (-np) (-nq)).2, by simp [g_em, h5, h13, h30, h46]⟩)
      · refine lv_iconst (v := (1 : Int32)) X.1.1 X.1.2.1 d_Guard_add_50 (by decide) ?_
        refine lv_goto (tgt := 55) X.1.1 X.1.2.1 d_Guard_add_51 (by decide) ?_
        refine fp_Guard_28 X hP hD hS 0 rfl rfl rfl rfl d_Guard_add_55 (fun H locs hP hD hS => ?_)
        have hP : va_P D cls (gW cI g a1 a2 a3 fp fq fr n (1 : Int32) ((g_max fp fq fr n (-np) (-nq)).1) ((g_max fp fq fr n (-np) (-nq)).2)) H := hP
        have hD : va_D A (gW cI g a1 a2 a3 fp fq fr n (1 : Int32) ((g_max fp fq fr n (-np) (-nq)).1) ((g_max fp fq fr n (-np) (-nq)).2)) := hD
        refine lv_aload_n X.1.1 X.1.2.1 d_Guard_add_58 rfl (lv_at hl 0 rfl) ?_
        refine fg_Guard_9 X hP 0 rfl rfl d_Guard_add_59 ?_
        refine lv_aload_n X.1.1 X.1.2.1 d_Guard_add_62 rfl (lv_at hl 0 rfl) ?_
        refine fg_Guard_24 X hP 0 rfl rfl d_Guard_add_63 ?_
        refine lv_iload_n X.1.1 X.1.2.1 d_Guard_add_66 rfl (lv_at hl 1 rfl) ?_
        refine wa_ist X.1.1 X.1.2.1 X.2.1 hP hD hS 1 0 rfl rfl n rfl (by omega) (by decide) d_Guard_add_67 (fun H locs hP hD hS => ?_)
        have hP : va_P D cls (gW cI g a1 a2 a3 (upd fp n np) fq fr n (1 : Int32) ((g_max fp fq fr n (-np) (-nq)).1) ((g_max fp fq fr n (-np) (-nq)).2)) H := hP
        have hD : va_D A (gW cI g a1 a2 a3 (upd fp n np) fq fr n (1 : Int32) ((g_max fp fq fr n (-np) (-nq)).1) ((g_max fp fq fr n (-np) (-nq)).2)) := hD
        refine lv_aload_n X.1.1 X.1.2.1 d_Guard_add_68 rfl (lv_at hl 0 rfl) ?_
        refine fg_Guard_15 X hP 0 rfl rfl d_Guard_add_69 ?_
        refine lv_aload_n X.1.1 X.1.2.1 d_Guard_add_72 rfl (lv_at hl 0 rfl) ?_
        refine fg_Guard_24 X hP 0 rfl rfl d_Guard_add_73 ?_
        refine lv_iload_n X.1.1 X.1.2.1 d_Guard_add_76 rfl (lv_at hl 2 rfl) ?_
        refine wa_ist X.1.1 X.1.2.1 X.2.1 hP hD hS 2 0 rfl rfl n rfl (by omega) (by decide) d_Guard_add_77 (fun H locs hP hD hS => ?_)
        have hP : va_P D cls (gW cI g a1 a2 a3 (upd fp n np) (upd fq n nq) fr n (1 : Int32) ((g_max fp fq fr n (-np) (-nq)).1) ((g_max fp fq fr n (-np) (-nq)).2)) H := hP
        have hD : va_D A (gW cI g a1 a2 a3 (upd fp n np) (upd fq n nq) fr n (1 : Int32) ((g_max fp fq fr n (-np) (-nq)).1) ((g_max fp fq fr n (-np) (-nq)).2)) := hD
        refine lv_aload_n X.1.1 X.1.2.1 d_Guard_add_78 rfl (lv_at hl 0 rfl) ?_
        refine fg_Guard_18 X hP 0 rfl rfl d_Guard_add_79 ?_
        refine lv_aload_n X.1.1 X.1.2.1 d_Guard_add_82 rfl (lv_at hl 0 rfl) ?_
        refine fg_Guard_24 X hP 0 rfl rfl d_Guard_add_83 ?_
        refine lv_iload_n X.1.1 X.1.2.1 d_Guard_add_86 rfl (lv_at hl 3 rfl) ?_
        refine wa_ist X.1.1 X.1.2.1 X.2.1 hP hD hS 3 0 rfl rfl n rfl (by omega) (by decide) d_Guard_add_87 (fun H locs hP hD hS => ?_)
        have hP : va_P D cls (gW cI g a1 a2 a3 (upd fp n np) (upd fq n nq) (upd fr n nr) n (1 : Int32) ((g_max fp fq fr n (-np) (-nq)).1) ((g_max fp fq fr n (-np) (-nq)).2)) H := hP
        have hD : va_D A (gW cI g a1 a2 a3 (upd fp n np) (upd fq n nq) (upd fr n nr) n (1 : Int32) ((g_max fp fq fr n (-np) (-nq)).1) ((g_max fp fq fr n (-np) (-nq)).2)) := hD
        refine lv_aload_n X.1.1 X.1.2.1 d_Guard_add_88 rfl (lv_at hl 0 rfl) ?_
        refine lv_dup X.1.1 X.1.2.1 d_Guard_add_89 rfl ?_
        refine fg_Guard_24 X hP 0 rfl rfl d_Guard_add_90 ?_
        refine lv_iconst (v := (1 : Int32)) X.1.1 X.1.2.1 d_Guard_add_93 (by decide) ?_
        refine wn_add (a := n) (b := 1) X.1.1 X.1.2.1 d_Guard_add_94 ?_
        refine fp_Guard_24 X hP hD hS 0 rfl rfl rfl rfl d_Guard_add_95 (fun H locs hP hD hS => ?_)
        have hP : va_P D cls (gW cI g a1 a2 a3 (upd fp n np) (upd fq n nq) (upd fr n nr) (n + 1) (1 : Int32) ((g_max fp fq fr n (-np) (-nq)).1) ((g_max fp fq fr n (-np) (-nq)).2)) H := hP
        have hD : va_D A (gW cI g a1 a2 a3 (upd fp n np) (upd fq n nq) (upd fr n nr) (n + 1) (1 : Int32) ((g_max fp fq fr n (-np) (-nq)).1) ((g_max fp fq fr n (-np) (-nq)).2)) := hD
        exact hret 98 H locs ls _ hP hD hS d_Guard_add_98 (⟨(g_max fp fq fr n (-np) (-nq)).1, (g_max fp fq fr n (-np) (-nq)).2, by simp [g_em, h5, h13, h30, h46]⟩)
end CT
