section CT
variable {l : Launch} {D : va_G} {cI cJ cS : ClassId}
set_option maxHeartbeats 4000000 in
set_option maxRecDepth 100000 in
theorem c_Step_setRule (so g a1 a2 a3 a4 a5 : Nat) (fp fq fr : Nat → Int32) (n : Nat) (em : Int32) (top bot : Int64) (ru kd : Nat → Int32) (kf : Int32) (v ka kb kc : Int32) : wk_kv l y_Step_setRule (Cond.code y_Step_setRule b_Step_setRule 6 none :: BW) rm_Step_setRule D cls (kT cI cJ cS) nz [.ref so, .int v, .int ka, .int kb, .int kc] (sW cI so g a1 a2 a3 a4 a5 fp fq fr n em top bot ru kd kf) (fun wz => wz = sW cI so g a1 a2 a3 a4 a5 fp fq fr n em top bot (s_set ru v ka kb kc) kd 0) := by
  refine ws_v (plainFor_of_name (by decide)) (Nat.le_of_ble_eq_true rfl) ?_
  intro p e s m below meth c A ls Q X hret hl hP hD hS
  obtain ⟨H, hH⟩ : ∃ H, H = s.heap := ⟨_, rfl⟩
  obtain ⟨locs, hlo⟩ : ∃ locs : List Loc, locs = [] := ⟨_, rfl⟩
  have hP : va_P D cls (sW cI so g a1 a2 a3 a4 a5 fp fq fr n em top bot ru kd kf) H := by rw [hH]; exact hP
  have hS : va_S A s.heap H locs := by rw [hH, hlo]; exact hS
  suffices hgo : W p l e rm_Step_setRule s m ([.ref so, .int v, .int ka, .int kb, .int kc] : List Value).toArray below meth c H locs 0 0 Q (F0 m 0 ls ([])) by rw [hH, hlo] at hgo; exact hgo
  clear hH hlo
  have hl : lv_has ls 6 [(0, .ref so), (1, .int v), (2, .int ka), (3, .int kb), (4, .int kc)] := hl
  refine lv_iload_n X.1.1 X.1.2.1 d_Step_setRule_0 rfl (lv_at hl 1 rfl) ?_
  refine wi0_ne (tgt := 8) X.1.1 X.1.2.1 d_Step_setRule_1 (by decide) (fun h1 => ?_) (fun h1 => ?_)
  · refine lv_iconst (v := (3 : Int32)) X.1.1 X.1.2.1 d_Step_setRule_8 (by decide) ?_
    refine lv_istore X.1.1 X.1.2.1 d_Step_setRule_9 hl (by decide) rfl (fun ls hl => ?_)
    have hl : lv_has ls 6 [(5, .int (3 : Int32)), (0, .ref so), (1, .int v), (2, .int ka), (3, .int kb), (4, .int kc)] := hl
    refine lv_aload_n X.1.1 X.1.2.1 d_Step_setRule_11 rfl (lv_at hl 1 rfl) ?_
    refine fg_Step_18 X hP 0 rfl rfl d_Step_setRule_12 ?_
    refine lv_iload X.1.1 X.1.2.1 d_Step_setRule_15 (lv_at hl 0 rfl) ?_
    refine lv_iload_n X.1.1 X.1.2.1 d_Step_setRule_17 rfl (lv_at hl 3 rfl) ?_
    refine wa_ist X.1.1 X.1.2.1 X.2.1 hP hD hS 5 0 rfl rfl 3 rfl (by omega) (by decide) d_Step_setRule_18 (fun H locs hP hD hS => ?_)
    have hP : va_P D cls (sW cI so g a1 a2 a3 a4 a5 fp fq fr n em top bot (upd ru 3 ka) kd kf) H := hP
    have hD : va_D A (sW cI so g a1 a2 a3 a4 a5 fp fq fr n em top bot (upd ru 3 ka) kd kf) := hD
    refine lv_aload_n X.1.1 X.1.2.1 d_Step_setRule_19 rfl (lv_at hl 1 rfl) ?_
    refine fg_Step_18 X hP 0 rfl rfl d_Step_setRule_20 ?_
    refine lv_iload X.1.1 X.1.2.1 d_Step_setRule_23 (lv_at hl 0 rfl) ?_
    refine lv_iconst (v := (1 : Int32)) X.1.1 X.1.2.1 d_Step_setRule_25 (by decide) ?_
    refine wn_add (a := 3) (b := 1) X.1.1 X.1.2.1 d_Step_setRule_26 ?_
    refine lv_iload_n X.1.1 X.1.2.1 d_Step_setRule_27 rfl (lv_at hl 4 rfl) ?_
    refine wa_ist X.1.1 X.1.2.1 X.2.1 hP hD hS 5 0 rfl rfl 4 rfl (by omega) (by decide) d_Step_setRule_28 (fun H locs hP hD hS => ?_)
    have hP : va_P D cls (sW cI so g a1 a2 a3 a4 a5 fp fq fr n em top bot (upd (upd ru 3 ka) 4 kb) kd kf) H := hP
    have hD : va_D A (sW cI so g a1 a2 a3 a4 a5 fp fq fr n em top bot (upd (upd ru 3 ka) 4 kb) kd kf) := hD
    refine lv_aload_n X.1.1 X.1.2.1 d_Step_setRule_29 rfl (lv_at hl 1 rfl) ?_
    refine fg_Step_18 X hP 0 rfl rfl d_Step_setRule_30 ?_
    refine lv_iload X.1.1 X.1.2.1 d_Step_setRule_33 (lv_at hl 0 rfl) ?_
    refine lv_iconst (v := (2 : Int32)) X.1.1 X.1.2.1 d_Step_setRule_35 (by decide) ?_
    refine wn_add (a := 3) (b := 2) X.1.1 X.1.2.1 d_Step_setRule_36 ?_
    refine lv_iload X.1.1 X.1.2.1 d_Step_setRule_37 (lv_at hl 5 rfl) ?_
    refine wa_ist X.1.1 X.1.2.1 X.2.1 hP hD hS 5 0 rfl rfl 5 rfl (by omega) (by decide) d_Step_setRule_39 (fun H locs hP hD hS => ?_)
    have hP : va_P D cls (sW cI so g a1 a2 a3 a4 a5 fp fq fr n em top bot (upd (upd (upd ru 3 ka) 4 kb) 5 kc) kd kf) H := hP
    have hD : va_D A (sW cI so g a1 a2 a3 a4 a5 fp fq fr n em top bot (upd (upd (upd ru 3 ka) 4 kb) 5 kc) kd kf) := hD
    refine lv_aload_n X.1.1 X.1.2.1 d_Step_setRule_40 rfl (lv_at hl 1 rfl) ?_
    refine lv_iconst (v := (0 : Int32)) X.1.1 X.1.2.1 d_Step_setRule_41 (by decide) ?_
    refine fp_Step_25 X hP hD hS 0 rfl rfl rfl rfl d_Step_setRule_42 (fun H locs hP hD hS => ?_)
    have hP : va_P D cls (sW cI so g a1 a2 a3 a4 a5 fp fq fr n em top bot (upd (upd (upd ru 3 ka) 4 kb) 5 kc) kd (0 : Int32)) H := hP
    have hD : va_D A (sW cI so g a1 a2 a3 a4 a5 fp fq fr n em top bot (upd (upd (upd ru 3 ka) 4 kb) 5 kc) kd (0 : Int32)) := hD
    exact hret 45 H locs ls _ hP hD hS d_Step_setRule_45 (by first | (simp only [s_set, if_neg h1]; done) | simp [s_set, h1])
  · refine lv_iconst (v := (0 : Int32)) X.1.1 X.1.2.1 d_Step_setRule_4 (by decide) ?_
    refine lv_goto (tgt := 9) X.1.1 X.1.2.1 d_Step_setRule_5 (by decide) ?_
    refine lv_istore X.1.1 X.1.2.1 d_Step_setRule_9 hl (by decide) rfl (fun ls hl => ?_)
    have hl : lv_has ls 6 [(5, .int (0 : Int32)), (0, .ref so), (1, .int v), (2, .int ka), (3, .int kb), (4, .int kc)] := hl
    refine lv_aload_n X.1.1 X.1.2.1 d_Step_setRule_11 rfl (lv_at hl 1 rfl) ?_
    refine fg_Step_18 X hP 0 rfl rfl d_Step_setRule_12 ?_
    refine lv_iload X.1.1 X.1.2.1 d_Step_setRule_15 (lv_at hl 0 rfl) ?_
    refine lv_iload_n X.1.1 X.1.2.1 d_Step_setRule_17 rfl (lv_at hl 3 rfl) ?_
    refine wa_ist X.1.1 X.1.2.1 X.2.1 hP hD hS 5 0 rfl rfl 0 rfl (by omega) (by decide) d_Step_setRule_18 (fun H locs hP hD hS => ?_)
    have hP : va_P D cls (sW cI so g a1 a2 a3 a4 a5 fp fq fr n em top bot (upd ru 0 ka) kd kf) H := hP
    have hD : va_D A (sW cI so g a1 a2 a3 a4 a5 fp fq fr n em top bot (upd ru 0 ka) kd kf) := hD
    refine lv_aload_n X.1.1 X.1.2.1 d_Step_setRule_19 rfl (lv_at hl 1 rfl) ?_
    refine fg_Step_18 X hP 0 rfl rfl d_Step_setRule_20 ?_
    refine lv_iload X.1.1 X.1.2.1 d_Step_setRule_23 (lv_at hl 0 rfl) ?_
    refine lv_iconst (v := (1 : Int32)) X.1.1 X.1.2.1 d_Step_setRule_25 (by decide) ?_
    refine wn_add (a := 0) (b := 1) X.1.1 X.1.2.1 d_Step_setRule_26 ?_
    refine lv_iload_n X.1.1 X.1.2.1 d_Step_setRule_27 rfl (lv_at hl 4 rfl) ?_
    refine wa_ist X.1.1 X.1.2.1 X.2.1 hP hD hS 5 0 rfl rfl 1 rfl (by omega) (by decide) d_Step_setRule_28 (fun H locs hP hD hS => ?_)
    have hP : va_P D cls (sW cI so g a1 a2 a3 a4 a5 fp fq fr n em top bot (upd (upd ru 0 ka) 1 kb) kd kf) H := hP
    have hD : va_D A (sW cI so g a1 a2 a3 a4 a5 fp fq fr n em top bot (upd (upd ru 0 ka) 1 kb) kd kf) := hD
    refine lv_aload_n X.1.1 X.1.2.1 d_Step_setRule_29 rfl (lv_at hl 1 rfl) ?_
    refine fg_Step_18 X hP 0 rfl rfl d_Step_setRule_30 ?_
    refine lv_iload X.1.1 X.1.2.1 d_Step_setRule_33 (lv_at hl 0 rfl) ?_
    refine lv_iconst (v := (2 : Int32)) X.1.1 X.1.2.1 d_Step_setRule_35 (by decide) ?_
    refine wn_add (a := 0) (b := 2) X.1.1 X.1.2.1 d_Step_setRule_36 ?_
    refine lv_iload X.1.1 X.1.2.1 d_Step_setRule_37 (lv_at hl 5 rfl) ?_
    refine wa_ist X.1.1 X.1.2.1 X.2.1 hP hD hS 5 0 rfl rfl 2 rfl (by omega) (by decide) d_Step_setRule_39 (fun H locs hP hD hS => ?_)
    have hP : va_P D cls (sW cI so g a1 a2 a3 a4 a5 fp fq fr n em top bot (upd (upd (upd ru 0 ka) 1 kb) 2 kc) kd kf) H := hP
    have hD : va_D A (sW cI so g a1 a2 a3 a4 a5 fp fq fr n em top bot (upd (upd (upd ru 0 ka) 1 kb) 2 kc) kd kf) := hD
    refine lv_aload_n X.1.1 X.1.2.1 d_Step_setRule_40 rfl (lv_at hl 1 rfl) ?_
    refine lv_iconst (v := (0 : Int32)) X.1.1 X.1.2.1 d_Step_setRule_41 (by decide) ?_
    refine fp_Step_25 X hP hD hS 0 rfl rfl rfl rfl d_Step_setRule_42 (fun H locs hP hD hS => ?_)
    have hP : va_P D cls (sW cI so g a1 a2 a3 a4 a5 fp fq fr n em top bot (upd (upd (upd ru 0 ka) 1 kb) 2 kc) kd (0 : Int32)) H := hP
    have hD : va_D A (sW cI so g a1 a2 a3 a4 a5 fp fq fr n em top bot (upd (upd (upd ru 0 ka) 1 kb) 2 kc) kd (0 : Int32)) := hD
    exact hret 45 H locs ls _ hP hD hS d_Step_setRule_45 (by first | (simp only [s_set, if_pos h1]; done) | simp [s_set, h1])
set_option maxHeartbeats 4000000 in
set_option maxRecDepth 100000 in
theorem c_Step_reset (so g a1 a2 a3 a4 a5 : Nat) (fp fq fr : Nat → Int32) (n : Nat) (em : Int32) (top bot : Int64) (ru kd : Nat → Int32) (kf : Int32) : wk_kv l y_Step_reset (Cond.code y_Step_reset b_Step_reset 1 none :: BW) rm_Step_reset D cls (kT cI cJ cS) nz [.ref so] (sW cI so g a1 a2 a3 a4 a5 fp fq fr n em top bot ru kd kf) (fun wz => wz = sW cI so g a1 a2 a3 a4 a5 fp fq fr 0 0 0 0 (s_set (s_set ru 0 1 0 0) 1 0 1 0) kd 0) := by
  refine ws_v (plainFor_of_name (by decide)) (Nat.le_of_ble_eq_true rfl) ?_
  intro p e s m below meth c A ls Q X hret hl hP hD hS
  obtain ⟨H, hH⟩ : ∃ H, H = s.heap := ⟨_, rfl⟩
  obtain ⟨locs, hlo⟩ : ∃ locs : List Loc, locs = [] := ⟨_, rfl⟩
  have hP : va_P D cls (sW cI so g a1 a2 a3 a4 a5 fp fq fr n em top bot ru kd kf) H := by rw [hH]; exact hP
  have hS : va_S A s.heap H locs := by rw [hH, hlo]; exact hS
  suffices hgo : W p l e rm_Step_reset s m ([.ref so] : List Value).toArray below meth c H locs 0 0 Q (F0 m 0 ls ([])) by rw [hH, hlo] at hgo; exact hgo
  clear hH hlo
  have hl : lv_has ls 1 [(0, .ref so)] := hl
  refine lv_aload_n X.1.1 X.1.2.1 d_Step_reset_0 rfl (lv_at hl 0 rfl) ?_
  refine fg_Step_12 X hP 0 rfl rfl d_Step_reset_1 ?_
  refine wc_Nv [] 0 0 X nz_nest (c_Guard_clear g a1 a2 a3 fp fq fr n em top bot  ) (cw_Step_29 X.1.2.2.2.2 X.2.2.1 (by decide)) ([(so, .inr (1, [.ref g, .ref a4, .ref a5, .int kf]))]) ([(a4, .inl (cI, 6, .inl ru)), (a5, .inl (cI, 80, .inl kd))]) (rfl) hP hD hS rfl rfl rfl rfl hl.1 (Nat.le_of_ble_eq_true rfl) (by decide) d_Step_reset_4 (fun H locs wn hwn hP hD hS => ?_)
  subst hwn
  have hP : va_P D cls (sW cI so g a1 a2 a3 a4 a5 fp fq fr 0 0 0 0 ru kd kf) H := hP
  have hD : va_D A (sW cI so g a1 a2 a3 a4 a5 fp fq fr 0 0 0 0 ru kd kf) := hD
  refine lv_aload_n X.1.1 X.1.2.1 d_Step_reset_7 rfl (lv_at hl 0 rfl) ?_
  refine lv_iconst (v := (0 : Int32)) X.1.1 X.1.2.1 d_Step_reset_8 (by decide) ?_
  refine lv_iconst (v := (1 : Int32)) X.1.1 X.1.2.1 d_Step_reset_9 (by decide) ?_
  refine lv_iconst (v := (0 : Int32)) X.1.1 X.1.2.1 d_Step_reset_10 (by decide) ?_
  refine lv_iconst (v := (0 : Int32)) X.1.1 X.1.2.1 d_Step_reset_11 (by decide) ?_
  refine wc_Vv [.int (0 : Int32), .int (1 : Int32), .int (0 : Int32), .int (0 : Int32)] 1 0 X nz_nest (c_Step_setRule so g a1 a2 a3 a4 a5 fp fq fr 0 0 0 0 ru kd kf (0 : Int32) (1 : Int32) (0 : Int32) (0 : Int32) ) (cw_Step_32 X.1.2.2.2.2 X.2.2.1 (by decide)) ([]) ([]) (rfl) hP hD hS rfl rfl rfl rfl hl.1 (Nat.le_of_ble_eq_true rfl) (by decide) d_Step_reset_12 (fun H locs wn hwn hP hD hS => ?_)
  subst hwn
  have hP : va_P D cls (sW cI so g a1 a2 a3 a4 a5 fp fq fr 0 0 0 0 (s_set ru (0 : Int32) (1 : Int32) (0 : Int32) (0 : Int32)) kd 0) H := hP
  have hD : va_D A (sW cI so g a1 a2 a3 a4 a5 fp fq fr 0 0 0 0 (s_set ru (0 : Int32) (1 : Int32) (0 : Int32) (0 : Int32)) kd 0) := hD
  refine lv_aload_n X.1.1 X.1.2.1 d_Step_reset_15 rfl (lv_at hl 0 rfl) ?_
  refine lv_iconst (v := (1 : Int32)) X.1.1 X.1.2.1 d_Step_reset_16 (by decide) ?_
  refine lv_iconst (v := (0 : Int32)) X.1.1 X.1.2.1 d_Step_reset_17 (by decide) ?_
  refine lv_iconst (v := (1 : Int32)) X.1.1 X.1.2.1 d_Step_reset_18 (by decide) ?_
  refine lv_iconst (v := (0 : Int32)) X.1.1 X.1.2.1 d_Step_reset_19 (by decide) ?_
  refine wc_Vv [.int (1 : Int32), .int (0 : Int32), .int (1 : Int32), .int (0 : Int32)] 1 0 X nz_nest (c_Step_setRule so g a1 a2 a3 a4 a5 fp fq fr 0 0 0 0 (s_set ru (0 : Int32) (1 : Int32) (0 : Int32) (0 : Int32)) kd 0 (1 : Int32) (0 : Int32) (1 : Int32) (0 : Int32) ) (cw_Step_32 X.1.2.2.2.2 X.2.2.1 (by decide)) ([]) ([]) (rfl) hP hD hS rfl rfl rfl rfl hl.1 (Nat.le_of_ble_eq_true rfl) (by decide) d_Step_reset_20 (fun H locs wn hwn hP hD hS => ?_)
  subst hwn
  have hP : va_P D cls (sW cI so g a1 a2 a3 a4 a5 fp fq fr 0 0 0 0 (s_set (s_set ru (0 : Int32) (1 : Int32) (0 : Int32) (0 : Int32)) (1 : Int32) (0 : Int32) (1 : Int32) (0 : Int32)) kd 0) H := hP
  have hD : va_D A (sW cI so g a1 a2 a3 a4 a5 fp fq fr 0 0 0 0 (s_set (s_set ru (0 : Int32) (1 : Int32) (0 : Int32) (0 : Int32)) (1 : Int32) (0 : Int32) (1 : Int32) (0 : Int32)) kd 0) := hD
  exact hret 23 H locs ls _ hP hD hS d_Step_reset_23 (rfl)
set_option maxHeartbeats 4000000 in
set_option maxRecDepth 100000 in
theorem c_Step_addRow (so g a1 a2 a3 a4 a5 : Nat) (fp fq fr : Nat → Int32) (n : Nat) (em : Int32) (top bot : Int64) (ru kd : Nat → Int32) (kf : Int32) (np nq nr : Int32) (hn : n < 4) : wk_kv l y_Step_addRow (Cond.code y_Step_addRow b_Step_addRow 4 none :: BW) rm_Step_addRow D cls (kT cI cJ cS) nz [.ref so, .int np, .int nq, .int nr] (sW cI so g a1 a2 a3 a4 a5 fp fq fr n em top bot ru kd kf) (fun wz => ∃ t b, wz = sW cI so g a1 a2 a3 a4 a5 (upd fp n np) (upd fq n nq) (upd fr n nr) (n + 1) (g_em fp fq fr n em np nq nr) t b ru kd 0) := by
  refine ws_v (plainFor_of_name (by decide)) (Nat.le_of_ble_eq_true rfl) ?_
  intro p e s m below meth c A ls Q X hret hl hP hD hS
  obtain ⟨H, hH⟩ : ∃ H, H = s.heap := ⟨_, rfl⟩
  obtain ⟨locs, hlo⟩ : ∃ locs : List Loc, locs = [] := ⟨_, rfl⟩
  have hP : va_P D cls (sW cI so g a1 a2 a3 a4 a5 fp fq fr n em top bot ru kd kf) H := by rw [hH]; exact hP
  have hS : va_S A s.heap H locs := by rw [hH, hlo]; exact hS
  suffices hgo : W p l e rm_Step_addRow s m ([.ref so, .int np, .int nq, .int nr] : List Value).toArray below meth c H locs 0 0 Q (F0 m 0 ls ([])) by rw [hH, hlo] at hgo; exact hgo
  clear hH hlo
  have hl : lv_has ls 4 [(0, .ref so), (1, .int np), (2, .int nq), (3, .int nr)] := hl
  refine lv_aload_n X.1.1 X.1.2.1 d_Step_addRow_0 rfl (lv_at hl 0 rfl) ?_
  refine fg_Step_12 X hP 0 rfl rfl d_Step_addRow_1 ?_
  refine lv_iload_n X.1.1 X.1.2.1 d_Step_addRow_4 rfl (lv_at hl 1 rfl) ?_
  refine lv_iload_n X.1.1 X.1.2.1 d_Step_addRow_5 rfl (lv_at hl 2 rfl) ?_
  refine lv_iload_n X.1.1 X.1.2.1 d_Step_addRow_6 rfl (lv_at hl 3 rfl) ?_
  refine wc_Nv [.int np, .int nq, .int nr] 0 0 X nz_nest (c_Guard_add g a1 a2 a3 fp fq fr n em top bot np nq nr (by omega)) (cw_Step_36 X.1.2.2.2.2 X.2.2.1 (by decide)) ([(so, .inr (1, [.ref g, .ref a4, .ref a5, .int kf]))]) ([(a4, .inl (cI, 6, .inl ru)), (a5, .inl (cI, 80, .inl kd))]) (rfl) hP hD hS rfl rfl rfl rfl hl.1 (Nat.le_of_ble_eq_true rfl) (by decide) d_Step_addRow_7 (fun H locs wn hwn hP hD hS => ?_)
  obtain ⟨t9, b9, rfl⟩ := hwn
  have hP : va_P D cls (sW cI so g a1 a2 a3 a4 a5 (upd fp n np) (upd fq n nq) (upd fr n nr) (n + 1) (g_em fp fq fr n em np nq nr) t9 b9 ru kd kf) H := hP
  have hD : va_D A (sW cI so g a1 a2 a3 a4 a5 (upd fp n np) (upd fq n nq) (upd fr n nr) (n + 1) (g_em fp fq fr n em np nq nr) t9 b9 ru kd kf) := hD
  refine lv_aload_n X.1.1 X.1.2.1 d_Step_addRow_10 rfl (lv_at hl 0 rfl) ?_
  refine lv_iconst (v := (0 : Int32)) X.1.1 X.1.2.1 d_Step_addRow_11 (by decide) ?_
  refine fp_Step_25 X hP hD hS 0 rfl rfl rfl rfl d_Step_addRow_12 (fun H locs hP hD hS => ?_)
  have hP : va_P D cls (sW cI so g a1 a2 a3 a4 a5 (upd fp n np) (upd fq n nq) (upd fr n nr) (n + 1) (g_em fp fq fr n em np nq nr) t9 b9 ru kd (0 : Int32)) H := hP
  have hD : va_D A (sW cI so g a1 a2 a3 a4 a5 (upd fp n np) (upd fq n nq) (upd fr n nr) (n + 1) (g_em fp fq fr n em np nq nr) t9 b9 ru kd (0 : Int32)) := hD
  exact hret 15 H locs ls _ hP hD hS d_Step_addRow_15 (⟨_, _, rfl⟩)
set_option maxHeartbeats 4000000 in
set_option maxRecDepth 100000 in
theorem c_Step_next (so g a1 a2 a3 a4 a5 : Nat) (fp fq fr : Nat → Int32) (n : Nat) (em : Int32) (top bot : Int64) (ru kd : Nat → Int32) (kf : Int32) (v : Int32) (x y : Int64) : wk_kl l y_Step_next (Cond.code y_Step_next b_Step_next 7 (some .long) :: BW) rm_Step_next D cls (kT cI cJ cS) nz [.ref so, .int v, .long x, .long y] (sW cI so g a1 a2 a3 a4 a5 fp fq fr n em top bot ru kd kf) (fun wz => wz = sW cI so g a1 a2 a3 a4 a5 fp fq fr n em top bot ru kd kf) (s_next ru v x y) := by
  refine ws_l (plainFor_of_name (by decide)) (Nat.le_of_ble_eq_true rfl) ?_
  intro p e s m below meth c A ls Q X hret hl hP hD hS
  obtain ⟨H, hH⟩ : ∃ H, H = s.heap := ⟨_, rfl⟩
  obtain ⟨locs, hlo⟩ : ∃ locs : List Loc, locs = [] := ⟨_, rfl⟩
  have hP : va_P D cls (sW cI so g a1 a2 a3 a4 a5 fp fq fr n em top bot ru kd kf) H := by rw [hH]; exact hP
  have hS : va_S A s.heap H locs := by rw [hH, hlo]; exact hS
  suffices hgo : W p l e rm_Step_next s m ([.ref so, .int v, .long x, .long y] : List Value).toArray below meth c H locs 0 0 Q (F0 m 0 ls ([])) by rw [hH, hlo] at hgo; exact hgo
  clear hH hlo
  have hl : lv_has ls 7 [(0, .ref so), (1, .int v), (2, .long x), (4, .long y)] := hl
  refine lv_iload_n X.1.1 X.1.2.1 d_Step_next_0 rfl (lv_at hl 1 rfl) ?_
  refine wi0_ne (tgt := 8) X.1.1 X.1.2.1 d_Step_next_1 (by decide) (fun h1 => ?_) (fun h1 => ?_)
  · refine lv_iconst (v := (3 : Int32)) X.1.1 X.1.2.1 d_Step_next_8 (by decide) ?_
    refine lv_istore X.1.1 X.1.2.1 d_Step_next_9 hl (by decide) rfl (fun ls hl => ?_)
    have hl : lv_has ls 7 [(6, .int (3 : Int32)), (0, .ref so), (1, .int v), (2, .long x), (4, .long y)] := hl
    refine lv_aload_n X.1.1 X.1.2.1 d_Step_next_11 rfl (lv_at hl 1 rfl) ?_
    refine fg_Step_18 X hP 0 rfl rfl d_Step_next_12 ?_
    refine lv_iload X.1.1 X.1.2.1 d_Step_next_15 (lv_at hl 0 rfl) ?_
    refine wa_ild X.1.1 X.1.2.1 X.2.1 hP 5 0 rfl rfl 3 rfl (by omega) (by decide) d_Step_next_17 ?_
    refine lv_i2l X.1.1 X.1.2.1 d_Step_next_18 rfl ?_
    refine lv_lload_n X.1.1 X.1.2.1 d_Step_next_19 rfl (lv_at hl 3 rfl) ?_
    refine lv_lmul X.1.1 X.1.2.1 d_Step_next_20 ?_
    refine lv_aload_n X.1.1 X.1.2.1 d_Step_next_21 rfl (lv_at hl 1 rfl) ?_
    refine fg_Step_18 X hP 0 rfl rfl d_Step_next_22 ?_
    refine lv_iload X.1.1 X.1.2.1 d_Step_next_25 (lv_at hl 0 rfl) ?_
    refine lv_iconst (v := (1 : Int32)) X.1.1 X.1.2.1 d_Step_next_27 (by decide) ?_
    refine wn_add (a := 3) (b := 1) X.1.1 X.1.2.1 d_Step_next_28 ?_
    refine wa_ild X.1.1 X.1.2.1 X.2.1 hP 5 0 rfl rfl 4 rfl (by omega) (by decide) d_Step_next_29 ?_
    refine lv_i2l X.1.1 X.1.2.1 d_Step_next_30 rfl ?_
    refine lv_lload X.1.1 X.1.2.1 d_Step_next_31 (lv_at hl 4 rfl) ?_
    refine lv_lmul X.1.1 X.1.2.1 d_Step_next_33 ?_
    refine lv_ladd X.1.1 X.1.2.1 d_Step_next_34 ?_
    refine lv_aload_n X.1.1 X.1.2.1 d_Step_next_35 rfl (lv_at hl 1 rfl) ?_
    refine fg_Step_18 X hP 0 rfl rfl d_Step_next_36 ?_
    refine lv_iload X.1.1 X.1.2.1 d_Step_next_39 (lv_at hl 0 rfl) ?_
    refine lv_iconst (v := (2 : Int32)) X.1.1 X.1.2.1 d_Step_next_41 (by decide) ?_
    refine wn_add (a := 3) (b := 2) X.1.1 X.1.2.1 d_Step_next_42 ?_
    refine wa_ild X.1.1 X.1.2.1 X.2.1 hP 5 0 rfl rfl 5 rfl (by omega) (by decide) d_Step_next_43 ?_
    refine lv_i2l X.1.1 X.1.2.1 d_Step_next_44 rfl ?_
    refine lv_ladd X.1.1 X.1.2.1 d_Step_next_45 ?_
    exact hret 46 H locs ls _ _ hP hD hS d_Step_next_46 (by first | (simp only [s_next, if_neg h1]; done) | simp [s_next, h1]) (rfl)
  · refine lv_iconst (v := (0 : Int32)) X.1.1 X.1.2.1 d_Step_next_4 (by decide) ?_
    refine lv_goto (tgt := 9) X.1.1 X.1.2.1 d_Step_next_5 (by decide) ?_
    refine lv_istore X.1.1 X.1.2.1 d_Step_next_9 hl (by decide) rfl (fun ls hl => ?_)
    have hl : lv_has ls 7 [(6, .int (0 : Int32)), (0, .ref so), (1, .int v), (2, .long x), (4, .long y)] := hl
    refine lv_aload_n X.1.1 X.1.2.1 d_Step_next_11 rfl (lv_at hl 1 rfl) ?_
    refine fg_Step_18 X hP 0 rfl rfl d_Step_next_12 ?_
    refine lv_iload X.1.1 X.1.2.1 d_Step_next_15 (lv_at hl 0 rfl) ?_
    refine wa_ild X.1.1 X.1.2.1 X.2.1 hP 5 0 rfl rfl 0 rfl (by omega) (by decide) d_Step_next_17 ?_
    refine lv_i2l X.1.1 X.1.2.1 d_Step_next_18 rfl ?_
    refine lv_lload_n X.1.1 X.1.2.1 d_Step_next_19 rfl (lv_at hl 3 rfl) ?_
    refine lv_lmul X.1.1 X.1.2.1 d_Step_next_20 ?_
    refine lv_aload_n X.1.1 X.1.2.1 d_Step_next_21 rfl (lv_at hl 1 rfl) ?_
    refine fg_Step_18 X hP 0 rfl rfl d_Step_next_22 ?_
    refine lv_iload X.1.1 X.1.2.1 d_Step_next_25 (lv_at hl 0 rfl) ?_
    refine lv_iconst (v := (1 : Int32)) X.1.1 X.1.2.1 d_Step_next_27 (by decide) ?_
    refine wn_add (a := 0) (b := 1) X.1.1 X.1.2.1 d_Step_next_28 ?_
    refine wa_ild X.1.1 X.1.2.1 X.2.1 hP 5 0 rfl rfl 1 rfl (by omega) (by decide) d_Step_next_29 ?_
    refine lv_i2l X.1.1 X.1.2.1 d_Step_next_30 rfl ?_
    refine lv_lload X.1.1 X.1.2.1 d_Step_next_31 (lv_at hl 4 rfl) ?_
    refine lv_lmul X.1.1 X.1.2.1 d_Step_next_33 ?_
    refine lv_ladd X.1.1 X.1.2.1 d_Step_next_34 ?_
    refine lv_aload_n X.1.1 X.1.2.1 d_Step_next_35 rfl (lv_at hl 1 rfl) ?_
    refine fg_Step_18 X hP 0 rfl rfl d_Step_next_36 ?_
    refine lv_iload X.1.1 X.1.2.1 d_Step_next_39 (lv_at hl 0 rfl) ?_
    refine lv_iconst (v := (2 : Int32)) X.1.1 X.1.2.1 d_Step_next_41 (by decide) ?_
    refine wn_add (a := 0) (b := 2) X.1.1 X.1.2.1 d_Step_next_42 ?_
    refine wa_ild X.1.1 X.1.2.1 X.2.1 hP 5 0 rfl rfl 2 rfl (by omega) (by decide) d_Step_next_43 ?_
    refine lv_i2l X.1.1 X.1.2.1 d_Step_next_44 rfl ?_
    refine lv_ladd X.1.1 X.1.2.1 d_Step_next_45 ?_
    exact hret 46 H locs ls _ _ hP hD hS d_Step_next_46 (by first | (simp only [s_next, if_pos h1]; done) | simp [s_next, h1]) (rfl)
set_option maxHeartbeats 4000000 in
set_option maxRecDepth 100000 in
theorem c_Step_changesByAtMost (so g a1 a2 a3 a4 a5 : Nat) (fp fq fr : Nat → Int32) (n : Nat) (em : Int32) (top bot : Int64) (ru kd : Nat → Int32) (kf : Int32) (u v most : Int32) (hn : n ≤ 4) : wk_ki l y_Step_changesByAtMost (Cond.code y_Step_changesByAtMost b_Step_changesByAtMost 4 (some .boolean) :: BW) rm_Step_changesByAtMost D cls (kT cI cJ cS) nz [.ref so, .int u, .int v, .int most] (sW cI so g a1 a2 a3 a4 a5 fp fq fr n em top bot ru kd kf) (fun wz => ∃ t b, wz = sW cI so g a1 a2 a3 a4 a5 fp fq fr n em t b ru kd kf) (s_chg fp fq fr n em ru u v most) := by
  refine ws_z (plainFor_of_name (by decide)) (Nat.le_of_ble_eq_true rfl) ?_
  intro p e s m below meth c A ls Q X hret hl hP hD hS
  obtain ⟨H, hH⟩ : ∃ H, H = s.heap := ⟨_, rfl⟩
  obtain ⟨locs, hlo⟩ : ∃ locs : List Loc, locs = [] := ⟨_, rfl⟩
  have hP : va_P D cls (sW cI so g a1 a2 a3 a4 a5 fp fq fr n em top bot ru kd kf) H := by rw [hH]; exact hP
  have hS : va_S A s.heap H locs := by rw [hH, hlo]; exact hS
  suffices hgo : W p l e rm_Step_changesByAtMost s m ([.ref so, .int u, .int v, .int most] : List Value).toArray below meth c H locs 0 0 Q (F0 m 0 ls ([])) by rw [hH, hlo] at hgo; exact hgo
  clear hH hlo
  have hl : lv_has ls 4 [(0, .ref so), (1, .int u), (2, .int v), (3, .int most)] := hl
  refine lv_aload_n X.1.1 X.1.2.1 d_Step_changesByAtMost_0 rfl (lv_at hl 0 rfl) ?_
  refine fg_Step_12 X hP 0 rfl rfl d_Step_changesByAtMost_1 ?_
  refine fg_Step_40 X hP 1 rfl rfl d_Step_changesByAtMost_4 ?_
  refine wi0_eq (tgt := 12) X.1.1 X.1.2.1 d_Step_changesByAtMost_7 (by decide) (fun h7 => ?_) (fun h7 => ?_)
  · refine lv_aload_n X.1.1 X.1.2.1 d_Step_changesByAtMost_12 rfl (lv_at hl 0 rfl) ?_
    refine fg_Step_12 X hP 0 rfl rfl d_Step_changesByAtMost_13 ?_
    refine lv_iload_n X.1.1 X.1.2.1 d_Step_changesByAtMost_16 rfl (lv_at hl 1 rfl) ?_
    refine lv_aload_n X.1.1 X.1.2.1 d_Step_changesByAtMost_17 rfl (lv_at hl 0 rfl) ?_
    refine fg_Step_18 X hP 0 rfl rfl d_Step_changesByAtMost_18 ?_
    refine lv_iconst (v := (0 : Int32)) X.1.1 X.1.2.1 d_Step_changesByAtMost_21 (by decide) ?_
    refine wa_ild X.1.1 X.1.2.1 X.2.1 hP 5 0 rfl rfl 0 rfl (by omega) (by decide) d_Step_changesByAtMost_22 ?_
    refine lv_imul X.1.1 X.1.2.1 d_Step_changesByAtMost_23 ?_
    refine lv_iload_n X.1.1 X.1.2.1 d_Step_changesByAtMost_24 rfl (lv_at hl 2 rfl) ?_
    refine lv_aload_n X.1.1 X.1.2.1 d_Step_changesByAtMost_25 rfl (lv_at hl 0 rfl) ?_
    refine fg_Step_18 X hP 0 rfl rfl d_Step_changesByAtMost_26 ?_
    refine lv_iconst (v := (3 : Int32)) X.1.1 X.1.2.1 d_Step_changesByAtMost_29 (by decide) ?_
    refine wa_ild X.1.1 X.1.2.1 X.2.1 hP 5 0 rfl rfl 3 rfl (by omega) (by decide) d_Step_changesByAtMost_30 ?_
    refine lv_imul X.1.1 X.1.2.1 d_Step_changesByAtMost_31 ?_
    refine lv_iadd X.1.1 X.1.2.1 d_Step_changesByAtMost_32 ?_
    refine lv_iload_n X.1.1 X.1.2.1 d_Step_changesByAtMost_33 rfl (lv_at hl 1 rfl) ?_
    refine lv_isub X.1.1 X.1.2.1 d_Step_changesByAtMost_34 ?_
    refine lv_iload_n X.1.1 X.1.2.1 d_Step_changesByAtMost_35 rfl (lv_at hl 1 rfl) ?_
    refine lv_aload_n X.1.1 X.1.2.1 d_Step_changesByAtMost_36 rfl (lv_at hl 0 rfl) ?_
    refine fg_Step_18 X hP 0 rfl rfl d_Step_changesByAtMost_37 ?_
    refine lv_iconst (v := (1 : Int32)) X.1.1 X.1.2.1 d_Step_changesByAtMost_40 (by decide) ?_
    refine wa_ild X.1.1 X.1.2.1 X.2.1 hP 5 0 rfl rfl 1 rfl (by omega) (by decide) d_Step_changesByAtMost_41 ?_
    refine lv_imul X.1.1 X.1.2.1 d_Step_changesByAtMost_42 ?_
    refine lv_iload_n X.1.1 X.1.2.1 d_Step_changesByAtMost_43 rfl (lv_at hl 2 rfl) ?_
    refine lv_aload_n X.1.1 X.1.2.1 d_Step_changesByAtMost_44 rfl (lv_at hl 0 rfl) ?_
    refine fg_Step_18 X hP 0 rfl rfl d_Step_changesByAtMost_45 ?_
    refine lv_iconst (v := (4 : Int32)) X.1.1 X.1.2.1 d_Step_changesByAtMost_48 (by decide) ?_
    refine wa_ild X.1.1 X.1.2.1 X.2.1 hP 5 0 rfl rfl 4 rfl (by omega) (by decide) d_Step_changesByAtMost_49 ?_
    refine lv_imul X.1.1 X.1.2.1 d_Step_changesByAtMost_50 ?_
    refine lv_iadd X.1.1 X.1.2.1 d_Step_changesByAtMost_51 ?_
    refine lv_iload_n X.1.1 X.1.2.1 d_Step_changesByAtMost_52 rfl (lv_at hl 2 rfl) ?_
    refine lv_isub X.1.1 X.1.2.1 d_Step_changesByAtMost_53 ?_
    refine wc_Nv [.int (((u * (ru 0)) + (v * (ru 3))) - u), .int (((u * (ru 1)) + (v * (ru 4))) - v)] 0 0 X nz_nest (c_Guard_maximise g a1 a2 a3 fp fq fr n em top bot (((u * (ru 0)) + (v * (ru 3))) - u) (((u * (ru 1)) + (v * (ru 4))) - v) (by omega)) (cw_Step_43 X.1.2.2.2.2 X.2.2.1 (by decide)) ([(so, .inr (1, [.ref g, .ref a4, .ref a5, .int kf]))]) ([(a4, .inl (cI, 6, .inl ru)), (a5, .inl (cI, 80, .inl kd))]) (rfl) hP hD hS rfl rfl rfl rfl hl.1 (Nat.le_of_ble_eq_true rfl) (by decide) d_Step_changesByAtMost_54 (fun H locs wn hwn hP hD hS => ?_)
    subst hwn
    have hP : va_P D cls (sW cI so g a1 a2 a3 a4 a5 fp fq fr n em ((g_max fp fq fr n (((u * (ru 0)) + (v * (ru 3))) - u) (((u * (ru 1)) + (v * (ru 4))) - v)).1) ((g_max fp fq fr n (((u * (ru 0)) + (v * (ru 3))) - u) (((u * (ru 1)) + (v * (ru 4))) - v)).2) ru kd kf) H := hP
    have hD : va_D A (sW cI so g a1 a2 a3 a4 a5 fp fq fr n em ((g_max fp fq fr n (((u * (ru 0)) + (v * (ru 3))) - u) (((u * (ru 1)) + (v * (ru 4))) - v)).1) ((g_max fp fq fr n (((u * (ru 0)) + (v * (ru 3))) - u) (((u * (ru 1)) + (v * (ru 4))) - v)).2) ru kd kf) := hD
    refine lv_aload_n X.1.1 X.1.2.1 d_Step_changesByAtMost_57 rfl (lv_at hl 0 rfl) ?_
    refine fg_Step_12 X hP 0 rfl rfl d_Step_changesByAtMost_58 ?_
    refine lv_iload_n X.1.1 X.1.2.1 d_Step_changesByAtMost_61 rfl (lv_at hl 3 rfl) ?_
    refine lv_iload_n X.1.1 X.1.2.1 d_Step_changesByAtMost_62 rfl (lv_at hl 1 rfl) ?_
    refine lv_aload_n X.1.1 X.1.2.1 d_Step_changesByAtMost_63 rfl (lv_at hl 0 rfl) ?_
    refine fg_Step_18 X hP 0 rfl rfl d_Step_changesByAtMost_64 ?_
    refine lv_iconst (v := (2 : Int32)) X.1.1 X.1.2.1 d_Step_changesByAtMost_67 (by decide) ?_
    refine wa_ild X.1.1 X.1.2.1 X.2.1 hP 5 0 rfl rfl 2 rfl (by omega) (by decide) d_Step_changesByAtMost_68 ?_
    refine lv_imul X.1.1 X.1.2.1 d_Step_changesByAtMost_69 ?_
    refine lv_iload_n X.1.1 X.1.2.1 d_Step_changesByAtMost_70 rfl (lv_at hl 2 rfl) ?_
    refine lv_aload_n X.1.1 X.1.2.1 d_Step_changesByAtMost_71 rfl (lv_at hl 0 rfl) ?_
    refine fg_Step_18 X hP 0 rfl rfl d_Step_changesByAtMost_72 ?_
    refine lv_iconst (v := (5 : Int32)) X.1.1 X.1.2.1 d_Step_changesByAtMost_75 (by decide) ?_
    refine wa_ild X.1.1 X.1.2.1 X.2.1 hP 5 0 rfl rfl 5 rfl (by omega) (by decide) d_Step_changesByAtMost_76 ?_
    refine lv_imul X.1.1 X.1.2.1 d_Step_changesByAtMost_77 ?_
    refine lv_iadd X.1.1 X.1.2.1 d_Step_changesByAtMost_78 ?_
    refine lv_isub X.1.1 X.1.2.1 d_Step_changesByAtMost_79 ?_
    refine lv_i2l X.1.1 X.1.2.1 d_Step_changesByAtMost_80 rfl ?_
    refine wc_Ni [.long ((most - ((u * (ru 2)) + (v * (ru 5)))).toInt64)] 0 0 X nz_nest (c_Guard_maximumIsAtMost g a1 a2 a3 fp fq fr n em ((g_max fp fq fr n (((u * (ru 0)) + (v * (ru 3))) - u) (((u * (ru 1)) + (v * (ru 4))) - v)).1) ((g_max fp fq fr n (((u * (ru 0)) + (v * (ru 3))) - u) (((u * (ru 1)) + (v * (ru 4))) - v)).2) ((most - ((u * (ru 2)) + (v * (ru 5)))).toInt64) ) (cw_Step_47 X.1.2.2.2.2 X.2.2.1 (by decide)) ([(so, .inr (1, [.ref g, .ref a4, .ref a5, .int kf]))]) ([(a4, .inl (cI, 6, .inl ru)), (a5, .inl (cI, 80, .inl kd))]) (rfl) hP hD hS rfl rfl rfl rfl hl.1 (Nat.le_of_ble_eq_true rfl) (by decide) d_Step_changesByAtMost_81 (fun H locs wn hwn hP hD hS => ?_)
    subst hwn
    have hP : va_P D cls (sW cI so g a1 a2 a3 a4 a5 fp fq fr n em ((g_max fp fq fr n (((u * (ru 0)) + (v * (ru 3))) - u) (((u * (ru 1)) + (v * (ru 4))) - v)).1) ((g_max fp fq fr n (((u * (ru 0)) + (v * (ru 3))) - u) (((u * (ru 1)) + (v * (ru 4))) - v)).2) ru kd kf) H := hP
    have hD : va_D A (sW cI so g a1 a2 a3 a4 a5 fp fq fr n em ((g_max fp fq fr n (((u * (ru 0)) + (v * (ru 3))) - u) (((u * (ru 1)) + (v * (ru 4))) - v)).1) ((g_max fp fq fr n (((u * (ru 0)) + (v * (ru 3))) - u) (((u * (ru 1)) + (v * (ru 4))) - v)).2) ru kd kf) := hD
    exact hret 84 H locs ls _ _ hP hD hS d_Step_changesByAtMost_84 (g_atm_b _ _ _) (by first | (simp only [s_chg, if_pos h7]; done) | simp [s_chg, h7]) (⟨_, _, rfl⟩)
  · refine lv_iconst (v := (1 : Int32)) X.1.1 X.1.2.1 d_Step_changesByAtMost_10 (by decide) ?_
    exact hret 11 H locs ls _ _ hP hD hS d_Step_changesByAtMost_11 (Or.inr rfl) (by first | (simp only [s_chg, if_neg h7]; done) | simp [s_chg, h7]) (⟨_, _, rfl⟩)
set_option maxHeartbeats 4000000 in
set_option maxRecDepth 100000 in
theorem c_Step_isBounded (so g a1 a2 a3 a4 a5 : Nat) (fp fq fr : Nat → Int32) (n : Nat) (em : Int32) (top bot : Int64) (ru kd : Nat → Int32) (kf : Int32) (u v : Int32) (hn : n ≤ 4) : wk_ki l y_Step_isBounded (Cond.code y_Step_isBounded b_Step_isBounded 3 (some .boolean) :: BW) rm_Step_isBounded D cls (kT cI cJ cS) nz [.ref so, .int u, .int v] (sW cI so g a1 a2 a3 a4 a5 fp fq fr n em top bot ru kd kf) (fun wz => ∃ t b, wz = sW cI so g a1 a2 a3 a4 a5 fp fq fr n em t b ru kd kf) (s_bnd fp fq fr n em u v) := by
  refine ws_z (plainFor_of_name (by decide)) (Nat.le_of_ble_eq_true rfl) ?_
  intro p e s m below meth c A ls Q X hret hl hP hD hS
  obtain ⟨H, hH⟩ : ∃ H, H = s.heap := ⟨_, rfl⟩
  obtain ⟨locs, hlo⟩ : ∃ locs : List Loc, locs = [] := ⟨_, rfl⟩
  have hP : va_P D cls (sW cI so g a1 a2 a3 a4 a5 fp fq fr n em top bot ru kd kf) H := by rw [hH]; exact hP
  have hS : va_S A s.heap H locs := by rw [hH, hlo]; exact hS
  suffices hgo : W p l e rm_Step_isBounded s m ([.ref so, .int u, .int v] : List Value).toArray below meth c H locs 0 0 Q (F0 m 0 ls ([])) by rw [hH, hlo] at hgo; exact hgo
  clear hH hlo
  have hl : lv_has ls 3 [(0, .ref so), (1, .int u), (2, .int v)] := hl
  refine lv_aload_n X.1.1 X.1.2.1 d_Step_isBounded_0 rfl (lv_at hl 0 rfl) ?_
  refine fg_Step_12 X hP 0 rfl rfl d_Step_isBounded_1 ?_
  refine fg_Step_40 X hP 1 rfl rfl d_Step_isBounded_4 ?_
  refine wi0_eq (tgt := 12) X.1.1 X.1.2.1 d_Step_isBounded_7 (by decide) (fun h7 => ?_) (fun h7 => ?_)
  · refine lv_aload_n X.1.1 X.1.2.1 d_Step_isBounded_12 rfl (lv_at hl 0 rfl) ?_
    refine fg_Step_12 X hP 0 rfl rfl d_Step_isBounded_13 ?_
    refine lv_iload_n X.1.1 X.1.2.1 d_Step_isBounded_16 rfl (lv_at hl 1 rfl) ?_
    refine lv_ineg X.1.1 X.1.2.1 d_Step_isBounded_17 ?_
    refine lv_iload_n X.1.1 X.1.2.1 d_Step_isBounded_18 rfl (lv_at hl 2 rfl) ?_
    refine lv_ineg X.1.1 X.1.2.1 d_Step_isBounded_19 ?_
    refine wc_Nv [.int (-u), .int (-v)] 0 0 X nz_nest (c_Guard_maximise g a1 a2 a3 fp fq fr n em top bot (-u) (-v) (by omega)) (cw_Step_43 X.1.2.2.2.2 X.2.2.1 (by decide)) ([(so, .inr (1, [.ref g, .ref a4, .ref a5, .int kf]))]) ([(a4, .inl (cI, 6, .inl ru)), (a5, .inl (cI, 80, .inl kd))]) (rfl) hP hD hS rfl rfl rfl rfl hl.1 (Nat.le_of_ble_eq_true rfl) (by decide) d_Step_isBounded_20 (fun H locs wn hwn hP hD hS => ?_)
    subst hwn
    have hP : va_P D cls (sW cI so g a1 a2 a3 a4 a5 fp fq fr n em ((g_max fp fq fr n (-u) (-v)).1) ((g_max fp fq fr n (-u) (-v)).2) ru kd kf) H := hP
    have hD : va_D A (sW cI so g a1 a2 a3 a4 a5 fp fq fr n em ((g_max fp fq fr n (-u) (-v)).1) ((g_max fp fq fr n (-u) (-v)).2) ru kd kf) := hD
    refine lv_aload_n X.1.1 X.1.2.1 d_Step_isBounded_23 rfl (lv_at hl 0 rfl) ?_
    refine fg_Step_12 X hP 0 rfl rfl d_Step_isBounded_24 ?_
    refine wc_Ni [] 0 0 X nz_nest (c_Guard_hasMaximum g a1 a2 a3 fp fq fr n em ((g_max fp fq fr n (-u) (-v)).1) ((g_max fp fq fr n (-u) (-v)).2)  ) (cw_Step_51 X.1.2.2.2.2 X.2.2.1 (by decide)) ([(so, .inr (1, [.ref g, .ref a4, .ref a5, .int kf]))]) ([(a4, .inl (cI, 6, .inl ru)), (a5, .inl (cI, 80, .inl kd))]) (rfl) hP hD hS rfl rfl rfl rfl hl.1 (Nat.le_of_ble_eq_true rfl) (by decide) d_Step_isBounded_27 (fun H locs wn hwn hP hD hS => ?_)
    subst hwn
    have hP : va_P D cls (sW cI so g a1 a2 a3 a4 a5 fp fq fr n em ((g_max fp fq fr n (-u) (-v)).1) ((g_max fp fq fr n (-u) (-v)).2) ru kd kf) H := hP
    have hD : va_D A (sW cI so g a1 a2 a3 a4 a5 fp fq fr n em ((g_max fp fq fr n (-u) (-v)).1) ((g_max fp fq fr n (-u) (-v)).2) ru kd kf) := hD
    exact hret 30 H locs ls _ _ hP hD hS d_Step_isBounded_30 (g_has_b _) (by first | (simp only [s_bnd, if_pos h7]; done) | simp [s_bnd, h7]) (⟨_, _, rfl⟩)
  · refine lv_iconst (v := (1 : Int32)) X.1.1 X.1.2.1 d_Step_isBounded_10 (by decide) ?_
    exact hret 11 H locs ls _ _ hP hD hS d_Step_isBounded_11 (Or.inr rfl) (by first | (simp only [s_bnd, if_neg h7]; done) | simp [s_bnd, h7]) (⟨_, _, rfl⟩)
set_option maxHeartbeats 4000000 in
set_option maxRecDepth 100000 in
theorem c_Step_findKinds (so g a1 a2 a3 a4 a5 : Nat) (fp fq fr : Nat → Int32) (n : Nat) (em : Int32) (top bot : Int64) (ru kd : Nat → Int32) (kf : Int32) (u1 u2 : Nat) (us vs : Nat → Int32) (hn : n ≤ 4) (hk1 : ¬ kf = 0 → kf = 1) (hk0 : ¬ kf = 0 → ∀ x, x < 80 → kd x = s_kind fp fq fr n em ru (us x) (vs x)) : wk_kv l y_Step_findKinds (Cond.code y_Step_findKinds b_Step_findKinds 4 none :: BW) rm_Step_findKinds D cls (kT cI cJ cS) nz [.ref so, .ref u1, .ref u2] (kW cI so g a1 a2 a3 a4 a5 fp fq fr n em top bot ru kd kf u1 u2 us vs) (fun wz => ∃ kd2 t b, wz = kW cI so g a1 a2 a3 a4 a5 fp fq fr n em t b ru kd2 1 u1 u2 us vs ∧ ∀ x, x < 80 → kd2 x = s_kind fp fq fr n em ru (us x) (vs x)) := by
  refine ws_v (plainFor_of_name (by decide)) (Nat.le_of_ble_eq_true rfl) ?_
  intro p e s m below meth c A ls Q X hret hl hP hD hS
  obtain ⟨H, hH⟩ : ∃ H, H = s.heap := ⟨_, rfl⟩
  obtain ⟨locs, hlo⟩ : ∃ locs : List Loc, locs = [] := ⟨_, rfl⟩
  have hP : va_P D cls (kW cI so g a1 a2 a3 a4 a5 fp fq fr n em top bot ru kd kf u1 u2 us vs) H := by rw [hH]; exact hP
  have hS : va_S A s.heap H locs := by rw [hH, hlo]; exact hS
  suffices hgo : W p l e rm_Step_findKinds s m ([.ref so, .ref u1, .ref u2] : List Value).toArray below meth c H locs 0 0 Q (F0 m 0 ls ([])) by rw [hH, hlo] at hgo; exact hgo
  clear hH hlo
  have hl : lv_has ls 4 [(0, .ref so), (1, .ref u1), (2, .ref u2)] := hl
  refine lv_aload_n X.1.1 X.1.2.1 d_Step_findKinds_0 rfl (lv_at hl 0 rfl) ?_
  refine fg_Step_25 X hP 0 rfl rfl d_Step_findKinds_1 ?_
  refine wi0_eq (tgt := 8) X.1.1 X.1.2.1 d_Step_findKinds_4 (by decide) (fun h4 => ?_) (fun h4 => ?_)
  · refine lv_aload_n X.1.1 X.1.2.1 d_Step_findKinds_8 rfl (lv_at hl 0 rfl) ?_
    refine lv_iconst (v := (1 : Int32)) X.1.1 X.1.2.1 d_Step_findKinds_9 (by decide) ?_
    refine fp_Step_25 X hP hD hS 0 rfl rfl rfl rfl d_Step_findKinds_10 (fun H locs hP hD hS => ?_)
    have hP : va_P D cls (kW cI so g a1 a2 a3 a4 a5 fp fq fr n em top bot ru kd (1 : Int32) u1 u2 us vs) H := hP
    have hD : va_D A (kW cI so g a1 a2 a3 a4 a5 fp fq fr n em top bot ru kd (1 : Int32) u1 u2 us vs) := hD
    refine lv_iconst (v := (0 : Int32)) X.1.1 X.1.2.1 d_Step_findKinds_13 (by decide) ?_
    refine lv_istore_n X.1.1 X.1.2.1 d_Step_findKinds_14 rfl hl (by decide) rfl (fun ls hl => ?_)
    have hl : lv_has ls 4 [(3, .int (0 : Int32)), (0, .ref so), (1, .ref u1), (2, .ref u2)] := hl
    have lp15 : ∀ (k15 : Nat) (i : Nat) (top : Int64) (bot : Int64) (kd : Nat → Int32) (ls : Array Slot) (H : Heap) (locs : List Loc), i + k15 = 80 → (∀ x, x < i → kd x = s_kind fp fq fr n em ru (us x) (vs x)) → lv_has ls 4 [(3, .int (nI i)), (0, .ref so), (1, .ref u1), (2, .ref u2)] → va_P D cls (kW cI so g a1 a2 a3 a4 a5 fp fq fr n em top bot ru kd 1 u1 u2 us vs) H → va_D A (kW cI so g a1 a2 a3 a4 a5 fp fq fr n em top bot ru kd 1 u1 u2 us vs) → va_S A s.heap H locs → W p l e rm_Step_findKinds s m ([.ref so, .ref u1, .ref u2] : List Value).toArray below meth c H locs 0 0 Q (F0 m 15 ls ([])) := by
      intro k15
      induction k15 with
      | zero =>
        intro i top bot kd ls H locs hik hE hl hP hD hS
        refine lv_iload_n X.1.1 X.1.2.1 d_Step_findKinds_15 rfl (lv_at hl 0 rfl) ?_
        refine lv_bipush (v := (80 : Int32)) X.1.1 X.1.2.1 d_Step_findKinds_16 (by decide) ?_
        refine wn_ge (a := i) (b := 80) (tgt := 95) X.1.1 X.1.2.1 d_Step_findKinds_18 (by decide) (by omega) (by omega) (fun h18 => ?_) (fun h18 => by exfalso; omega)
        exact hret 95 H locs ls _ hP hD hS d_Step_findKinds_95 (⟨kd, _, _, rfl, fun x hx => hE x (by omega)⟩)
      | succ k15 ih15 =>
        intro i top bot kd ls H locs hik hE hl hP hD hS
        refine lv_iload_n X.1.1 X.1.2.1 d_Step_findKinds_15 rfl (lv_at hl 0 rfl) ?_
        refine lv_bipush (v := (80 : Int32)) X.1.1 X.1.2.1 d_Step_findKinds_16 (by decide) ?_
        refine wn_ge (a := i) (b := 80) (tgt := 95) X.1.1 X.1.2.1 d_Step_findKinds_18 (by decide) (by omega) (by omega) (fun h18 => by exfalso; omega) (fun h18 => ?_)
        refine lv_aload_n X.1.1 X.1.2.1 d_Step_findKinds_21 rfl (lv_at hl 1 rfl) ?_
        refine lv_aload_n X.1.1 X.1.2.1 d_Step_findKinds_22 rfl (lv_at hl 2 rfl) ?_
        refine lv_iload_n X.1.1 X.1.2.1 d_Step_findKinds_23 rfl (lv_at hl 0 rfl) ?_
        refine wa_ild X.1.1 X.1.2.1 X.2.1 hP 7 0 rfl rfl i rfl (by omega) (by decide) d_Step_findKinds_24 ?_
        refine lv_aload_n X.1.1 X.1.2.1 d_Step_findKinds_25 rfl (lv_at hl 3 rfl) ?_
        refine lv_iload_n X.1.1 X.1.2.1 d_Step_findKinds_26 rfl (lv_at hl 0 rfl) ?_
        refine wa_ild X.1.1 X.1.2.1 X.2.1 hP 8 0 rfl rfl i rfl (by omega) (by decide) d_Step_findKinds_27 ?_
        refine lv_iconst (v := (0 : Int32)) X.1.1 X.1.2.1 d_Step_findKinds_28 (by decide) ?_
        refine wc_Vi [.int (us i), .int (vs i), .int (0 : Int32)] 1 0 X nz_nest (c_Step_changesByAtMost so g a1 a2 a3 a4 a5 fp fq fr n em top bot ru kd 1 (us i) (vs i) (0 : Int32) (by omega)) (cw_Step_55 X.1.2.2.2.2 X.2.2.1 (by decide)) ([]) ([(u1, .inl (cI, 80, .inl us)), (u2, .inl (cI, 80, .inl vs))]) (rfl) hP hD hS rfl rfl rfl rfl hl.1 (Nat.le_of_ble_eq_true rfl) (by decide) d_Step_findKinds_29 (fun H locs wn hwn hP hD hS => ?_)
        obtain ⟨top1, bot1, rfl⟩ := hwn
        have hP : va_P D cls (kW cI so g a1 a2 a3 a4 a5 fp fq fr n em top1 bot1 ru kd 1 u1 u2 us vs) H := hP
        have hD : va_D A (kW cI so g a1 a2 a3 a4 a5 fp fq fr n em top1 bot1 ru kd 1 u1 u2 us vs) := hD
        refine wi0_ne (tgt := 45) X.1.1 X.1.2.1 d_Step_findKinds_32 (by decide) (fun h32 => ?_) (fun h32 => ?_)
        · refine lv_aload_n X.1.1 X.1.2.1 d_Step_findKinds_45 rfl (lv_at hl 1 rfl) ?_
          refine lv_aload_n X.1.1 X.1.2.1 d_Step_findKinds_46 rfl (lv_at hl 2 rfl) ?_
          refine lv_iload_n X.1.1 X.1.2.1 d_Step_findKinds_47 rfl (lv_at hl 0 rfl) ?_
          refine wa_ild X.1.1 X.1.2.1 X.2.1 hP 7 0 rfl rfl i rfl (by omega) (by decide) d_Step_findKinds_48 ?_
          refine lv_aload_n X.1.1 X.1.2.1 d_Step_findKinds_49 rfl (lv_at hl 3 rfl) ?_
          refine lv_iload_n X.1.1 X.1.2.1 d_Step_findKinds_50 rfl (lv_at hl 0 rfl) ?_
          refine wa_ild X.1.1 X.1.2.1 X.2.1 hP 8 0 rfl rfl i rfl (by omega) (by decide) d_Step_findKinds_51 ?_
          refine lv_iconst (v := (-1 : Int32)) X.1.1 X.1.2.1 d_Step_findKinds_52 (by decide) ?_
          refine wc_Vi [.int (us i), .int (vs i), .int (-1 : Int32)] 1 0 X nz_nest (c_Step_changesByAtMost so g a1 a2 a3 a4 a5 fp fq fr n em top1 bot1 ru kd 1 (us i) (vs i) (-1 : Int32) (by omega)) (cw_Step_55 X.1.2.2.2.2 X.2.2.1 (by decide)) ([]) ([(u1, .inl (cI, 80, .inl us)), (u2, .inl (cI, 80, .inl vs))]) (rfl) hP hD hS rfl rfl rfl rfl hl.1 (Nat.le_of_ble_eq_true rfl) (by decide) d_Step_findKinds_53 (fun H locs wn hwn hP hD hS => ?_)
          obtain ⟨top2, bot2, rfl⟩ := hwn
          have hP : va_P D cls (kW cI so g a1 a2 a3 a4 a5 fp fq fr n em top2 bot2 ru kd 1 u1 u2 us vs) H := hP
          have hD : va_D A (kW cI so g a1 a2 a3 a4 a5 fp fq fr n em top2 bot2 ru kd 1 u1 u2 us vs) := hD
          refine wi0_eq (tgt := 82) X.1.1 X.1.2.1 d_Step_findKinds_56 (by decide) (fun h56 => ?_) (fun h56 => ?_)
          · refine lv_aload_n X.1.1 X.1.2.1 d_Step_findKinds_82 rfl (lv_at hl 1 rfl) ?_
            refine fg_Step_22 X hP 0 rfl rfl d_Step_findKinds_83 ?_
            refine lv_iload_n X.1.1 X.1.2.1 d_Step_findKinds_86 rfl (lv_at hl 0 rfl) ?_
            refine lv_iconst (v := (1 : Int32)) X.1.1 X.1.2.1 d_Step_findKinds_87 (by decide) ?_
            refine wa_ist X.1.1 X.1.2.1 X.2.1 hP hD hS 6 0 rfl rfl i rfl (by omega) (by decide) d_Step_findKinds_88 (fun H locs hP hD hS => ?_)
            have hP : va_P D cls (kW cI so g a1 a2 a3 a4 a5 fp fq fr n em top2 bot2 ru (upd kd i (1 : Int32)) 1 u1 u2 us vs) H := hP
            have hD : va_D A (kW cI so g a1 a2 a3 a4 a5 fp fq fr n em top2 bot2 ru (upd kd i (1 : Int32)) 1 u1 u2 us vs) := hD
            refine lv_iinc (k := 0) (v := nI (i + 1)) X.1.1 X.1.2.1 d_Step_findKinds_89 hl rfl (nI_1 i) (by decide) rfl (fun ls hl => ?_)
            have hl : lv_has ls 4 [(3, .int (nI (i + 1))), (0, .ref so), (1, .ref u1), (2, .ref u2)] := hl
            refine lv_goto (tgt := 15) X.1.1 X.1.2.1 d_Step_findKinds_92 (by decide) ?_
            exact ih15 (i + 1) _ _ _ ls H locs (by omega) (lt_s (fun x hx => by rw [pk_un (by omega)]; exact hE x hx) (by rw [pk_us]; simp [s_kind, h18, h32, h56])) (lv_sub hl [0, 1, 2, 3] rfl) hP hD hS
          · refine lv_aload_n X.1.1 X.1.2.1 d_Step_findKinds_59 rfl (lv_at hl 1 rfl) ?_
            refine lv_aload_n X.1.1 X.1.2.1 d_Step_findKinds_60 rfl (lv_at hl 2 rfl) ?_
            refine lv_iload_n X.1.1 X.1.2.1 d_Step_findKinds_61 rfl (lv_at hl 0 rfl) ?_
            refine wa_ild X.1.1 X.1.2.1 X.2.1 hP 7 0 rfl rfl i rfl (by omega) (by decide) d_Step_findKinds_62 ?_
            refine lv_aload_n X.1.1 X.1.2.1 d_Step_findKinds_63 rfl (lv_at hl 3 rfl) ?_
            refine lv_iload_n X.1.1 X.1.2.1 d_Step_findKinds_64 rfl (lv_at hl 0 rfl) ?_
            refine wa_ild X.1.1 X.1.2.1 X.2.1 hP 8 0 rfl rfl i rfl (by omega) (by decide) d_Step_findKinds_65 ?_
            refine wc_Vi [.int (us i), .int (vs i)] 1 0 X nz_nest (c_Step_isBounded so g a1 a2 a3 a4 a5 fp fq fr n em top2 bot2 ru kd 1 (us i) (vs i) (by omega)) (cw_Step_59 X.1.2.2.2.2 X.2.2.1 (by decide)) ([]) ([(u1, .inl (cI, 80, .inl us)), (u2, .inl (cI, 80, .inl vs))]) (rfl) hP hD hS rfl rfl rfl rfl hl.1 (Nat.le_of_ble_eq_true rfl) (by decide) d_Step_findKinds_66 (fun H locs wn hwn hP hD hS => ?_)
            obtain ⟨top3, bot3, rfl⟩ := hwn
            have hP : va_P D cls (kW cI so g a1 a2 a3 a4 a5 fp fq fr n em top3 bot3 ru kd 1 u1 u2 us vs) H := hP
            have hD : va_D A (kW cI so g a1 a2 a3 a4 a5 fp fq fr n em top3 bot3 ru kd 1 u1 u2 us vs) := hD
            refine wi0_eq (tgt := 82) X.1.1 X.1.2.1 d_Step_findKinds_69 (by decide) (fun h69 => ?_) (fun h69 => ?_)
            · refine lv_aload_n X.1.1 X.1.2.1 d_Step_findKinds_82 rfl (lv_at hl 1 rfl) ?_
              refine fg_Step_22 X hP 0 rfl rfl d_Step_findKinds_83 ?_
              refine lv_iload_n X.1.1 X.1.2.1 d_Step_findKinds_86 rfl (lv_at hl 0 rfl) ?_
              refine lv_iconst (v := (1 : Int32)) X.1.1 X.1.2.1 d_Step_findKinds_87 (by decide) ?_
              refine wa_ist X.1.1 X.1.2.1 X.2.1 hP hD hS 6 0 rfl rfl i rfl (by omega) (by decide) d_Step_findKinds_88 (fun H locs hP hD hS => ?_)
              have hP : va_P D cls (kW cI so g a1 a2 a3 a4 a5 fp fq fr n em top3 bot3 ru (upd kd i (1 : Int32)) 1 u1 u2 us vs) H := hP
              have hD : va_D A (kW cI so g a1 a2 a3 a4 a5 fp fq fr n em top3 bot3 ru (upd kd i (1 : Int32)) 1 u1 u2 us vs) := hD
              refine lv_iinc (k := 0) (v := nI (i + 1)) X.1.1 X.1.2.1 d_Step_findKinds_89 hl rfl (nI_1 i) (by decide) rfl (fun ls hl => ?_)
              have hl : lv_has ls 4 [(3, .int (nI (i + 1))), (0, .ref so), (1, .ref u1), (2, .ref u2)] := hl
              refine lv_goto (tgt := 15) X.1.1 X.1.2.1 d_Step_findKinds_92 (by decide) ?_
              exact ih15 (i + 1) _ _ _ ls H locs (by omega) (lt_s (fun x hx => by rw [pk_un (by omega)]; exact hE x hx) (by rw [pk_us]; simp [s_kind, h32, h56, h69])) (lv_sub hl [0, 1, 2, 3] rfl) hP hD hS
            · refine lv_aload_n X.1.1 X.1.2.1 d_Step_findKinds_72 rfl (lv_at hl 1 rfl) ?_
              refine fg_Step_22 X hP 0 rfl rfl d_Step_findKinds_73 ?_
              refine lv_iload_n X.1.1 X.1.2.1 d_Step_findKinds_76 rfl (lv_at hl 0 rfl) ?_
              refine lv_iconst (v := (2 : Int32)) X.1.1 X.1.2.1 d_Step_findKinds_77 (by decide) ?_
              refine wa_ist X.1.1 X.1.2.1 X.2.1 hP hD hS 6 0 rfl rfl i rfl (by omega) (by decide) d_Step_findKinds_78 (fun H locs hP hD hS => ?_)
              have hP : va_P D cls (kW cI so g a1 a2 a3 a4 a5 fp fq fr n em top3 bot3 ru (upd kd i (2 : Int32)) 1 u1 u2 us vs) H := hP
              have hD : va_D A (kW cI so g a1 a2 a3 a4 a5 fp fq fr n em top3 bot3 ru (upd kd i (2 : Int32)) 1 u1 u2 us vs) := hD
              refine lv_goto (tgt := 89) X.1.1 X.1.2.1 d_Step_findKinds_79 (by decide) ?_
              refine lv_iinc (k := 0) (v := nI (i + 1)) X.1.1 X.1.2.1 d_Step_findKinds_89 hl rfl (nI_1 i) (by decide) rfl (fun ls hl => ?_)
              have hl : lv_has ls 4 [(3, .int (nI (i + 1))), (0, .ref so), (1, .ref u1), (2, .ref u2)] := hl
              refine lv_goto (tgt := 15) X.1.1 X.1.2.1 d_Step_findKinds_92 (by decide) ?_
              exact ih15 (i + 1) _ _ _ ls H locs (by omega) (lt_s (fun x hx => by rw [pk_un (by omega)]; exact hE x hx) (by rw [pk_us]; simp [s_kind, h32, h56, h69])) (lv_sub hl [0, 1, 2, 3] rfl) hP hD hS
        · refine lv_aload_n X.1.1 X.1.2.1 d_Step_findKinds_35 rfl (lv_at hl 1 rfl) ?_
          refine fg_Step_22 X hP 0 rfl rfl d_Step_findKinds_36 ?_
          refine lv_iload_n X.1.1 X.1.2.1 d_Step_findKinds_39 rfl (lv_at hl 0 rfl) ?_
          refine lv_iconst (v := (0 : Int32)) X.1.1 X.1.2.1 d_Step_findKinds_40 (by decide) ?_
          refine wa_ist X.1.1 X.1.2.1 X.2.1 hP hD hS 6 0 rfl rfl i rfl (by omega) (by decide) d_Step_findKinds_41 (fun H locs hP hD hS => ?_)
          have hP : va_P D cls (kW cI so g a1 a2 a3 a4 a5 fp fq fr n em top1 bot1 ru (upd kd i (0 : Int32)) 1 u1 u2 us vs) H := hP
          have hD : va_D A (kW cI so g a1 a2 a3 a4 a5 fp fq fr n em top1 bot1 ru (upd kd i (0 : Int32)) 1 u1 u2 us vs) := hD
          refine lv_goto (tgt := 89) X.1.1 X.1.2.1 d_Step_findKinds_42 (by decide) ?_
          refine lv_iinc (k := 0) (v := nI (i + 1)) X.1.1 X.1.2.1 d_Step_findKinds_89 hl rfl (nI_1 i) (by decide) rfl (fun ls hl => ?_)
          have hl : lv_has ls 4 [(3, .int (nI (i + 1))), (0, .ref so), (1, .ref u1), (2, .ref u2)] := hl
          refine lv_goto (tgt := 15) X.1.1 X.1.2.1 d_Step_findKinds_92 (by decide) ?_
          exact ih15 (i + 1) _ _ _ ls H locs (by omega) (lt_s (fun x hx => by rw [pk_un (by omega)]; exact hE x hx) (by rw [pk_us]; simp [s_kind, h4, h18, h32])) (lv_sub hl [0, 1, 2, 3] rfl) hP hD hS
    exact lp15 80 0 _ _ _ ls H locs (by omega) (fun x hx => absurd hx (by omega)) (lv_sub hl [0, 1, 2, 3] rfl) hP hD hS
  · exact hret 7 H locs ls _ hP hD hS d_Step_findKinds_7 (⟨kd, _, _, by first | rfl | (rw [hk1 h4]), fun x hx => hk0 h4 x hx⟩)
end CT
