section CT
variable {l : Launch} {D : va_G} {cI cJ cS : ClassId}
set_option maxHeartbeats 4000000 in
set_option maxRecDepth 100000 in
theorem c_Guard_init (h : Nat) : wk_kc l y_Guard_init (Cond.code y_Guard_init b_Guard_init 1 none :: BW) rm_Guard_init D cls (kT cI cJ cS) nz [.ref h] [(h, .inr (0, [.null, .null, .null, .int 0, .int 0, .long 0, .long 0]))] (fun wz => ∃ q1 q2 q3, wz = gW cI h q1 q2 q3 (fun _ => 0) (fun _ => 0) (fun _ => 0) 0 0 0 0) 3 12 := by
  refine ws_c (plainFor_of_name (by decide)) (Nat.le_of_ble_eq_true rfl) ?_
  intro p e s m below meth c A ls Q X hname hret hl hP hD hS
  have hin : meth.name = "<init>" := hname
  obtain ⟨H, hH⟩ : ∃ H, H = s.heap := ⟨_, rfl⟩
  obtain ⟨locs, hlo⟩ : ∃ locs : List Loc, locs = [] := ⟨_, rfl⟩
  have hP : va_P D cls [(h, .inr (0, [.null, .null, .null, .int 0, .int 0, .long 0, .long 0]))] H := by rw [hH]; exact hP
  have hS : va_S A s.heap H locs := by rw [hH, hlo]; exact hS
  suffices hgo : W p l e rm_Guard_init s m ([.ref h] : List Value).toArray below meth c H locs 0 0 Q (F0 m 0 ls []) by rw [hH, hlo] at hgo; exact hgo
  clear hH hlo
  have hl : lv_has ls 1 [(0, .ref h)] := hl
  refine lv_aload_n X.1.1 X.1.2.1 d_Guard_init_0 rfl (lv_at hl 0 rfl) ?_
  refine W.objInit X.1.1 X.1.2.1 X.1.2.2.2.1 (X.1.2.2.2.2 _ (List.mem_append_right _ (List.mem_append_left _ (List.mem_of_getElem? (i := 4) rfl)))) (X.1.2.2.2.2 _ (List.mem_append_left _ (List.mem_of_getElem? (i := 13) rfl))) (X.1.2.2.2.2 _ (List.mem_append_left _ (List.mem_of_getElem? (i := 14) rfl))) rfl (by rw [X.1.2.2.1]; exact hl.1) rfl d_Guard_init_1 (Nat.le_of_ble_eq_true rfl) (Nat.le_of_ble_eq_true rfl) ?_
  refine W.eq (g2 := F0 m 4 ls []) rfl ?_
  refine lv_aload_n X.1.1 X.1.2.1 d_Guard_init_4 rfl (lv_at hl 0 rfl) ?_
  refine lv_iconst (v := (4 : Int32)) X.1.1 X.1.2.1 d_Guard_init_5 (by decide) ?_
  refine wo_ni X (X.1.2.2.2.2 _ (List.mem_append_right _ (List.mem_append_right _ (List.mem_append_left _ (List.mem_of_getElem? (i := 10) rfl))))) hP hD hS 4 (by decide) (by decide) (Nat.le_of_ble_eq_true rfl) (Nat.le_of_ble_eq_true rfl) d_Guard_init_6 (fun q1 H hP hD hS => ?_)
  have hP : va_P D cls [(h, .inr (0, [.null, .null, .null, .int 0, .int 0, .long 0, .long 0])), (q1, .inl (cI, 4, .inl (fun _ => 0)))] H := hP
  have hD : va_D A [(h, .inr (0, [.null, .null, .null, .int 0, .int 0, .long 0, .long 0])), (q1, .inl (cI, 4, .inl (fun _ => 0)))] := hD
  refine W.widen (k := 1) (n := 4) (Nat.le_of_ble_eq_true rfl) (Nat.le_of_ble_eq_true rfl) ?_
  refine fp_Guard_9 X hin hP hD hS 0 rfl rfl rfl rfl d_Guard_init_8 (fun H locs hP hD hS => ?_)
  have hP : va_P D cls [(h, .inr (0, [.ref q1, .null, .null, .int 0, .int 0, .long 0, .long 0])), (q1, .inl (cI, 4, .inl (fun _ => 0)))] H := hP
  have hD : va_D A [(h, .inr (0, [.ref q1, .null, .null, .int 0, .int 0, .long 0, .long 0])), (q1, .inl (cI, 4, .inl (fun _ => 0)))] := hD
  refine lv_aload_n X.1.1 X.1.2.1 d_Guard_init_11 rfl (lv_at hl 0 rfl) ?_
  refine lv_iconst (v := (4 : Int32)) X.1.1 X.1.2.1 d_Guard_init_12 (by decide) ?_
  refine wo_ni X (X.1.2.2.2.2 _ (List.mem_append_right _ (List.mem_append_right _ (List.mem_append_left _ (List.mem_of_getElem? (i := 10) rfl))))) hP hD hS 4 (by decide) (by decide) (Nat.le_of_ble_eq_true rfl) (Nat.le_of_ble_eq_true rfl) d_Guard_init_13 (fun q2 H hP hD hS => ?_)
  have hP : va_P D cls [(h, .inr (0, [.ref q1, .null, .null, .int 0, .int 0, .long 0, .long 0])), (q1, .inl (cI, 4, .inl (fun _ => 0))), (q2, .inl (cI, 4, .inl (fun _ => 0)))] H := hP
  have hD : va_D A [(h, .inr (0, [.ref q1, .null, .null, .int 0, .int 0, .long 0, .long 0])), (q1, .inl (cI, 4, .inl (fun _ => 0))), (q2, .inl (cI, 4, .inl (fun _ => 0)))] := hD
  refine W.widen (k := 2) (n := 8) (Nat.le_of_ble_eq_true rfl) (Nat.le_of_ble_eq_true rfl) ?_
  refine fp_Guard_15 X hin hP hD hS 0 rfl rfl rfl rfl d_Guard_init_15 (fun H locs hP hD hS => ?_)
  have hP : va_P D cls [(h, .inr (0, [.ref q1, .ref q2, .null, .int 0, .int 0, .long 0, .long 0])), (q1, .inl (cI, 4, .inl (fun _ => 0))), (q2, .inl (cI, 4, .inl (fun _ => 0)))] H := hP
  have hD : va_D A [(h, .inr (0, [.ref q1, .ref q2, .null, .int 0, .int 0, .long 0, .long 0])), (q1, .inl (cI, 4, .inl (fun _ => 0))), (q2, .inl (cI, 4, .inl (fun _ => 0)))] := hD
  refine lv_aload_n X.1.1 X.1.2.1 d_Guard_init_18 rfl (lv_at hl 0 rfl) ?_
  refine lv_iconst (v := (4 : Int32)) X.1.1 X.1.2.1 d_Guard_init_19 (by decide) ?_
  refine wo_ni X (X.1.2.2.2.2 _ (List.mem_append_right _ (List.mem_append_right _ (List.mem_append_left _ (List.mem_of_getElem? (i := 10) rfl))))) hP hD hS 4 (by decide) (by decide) (Nat.le_of_ble_eq_true rfl) (Nat.le_of_ble_eq_true rfl) d_Guard_init_20 (fun q3 H hP hD hS => ?_)
  have hP : va_P D cls [(h, .inr (0, [.ref q1, .ref q2, .null, .int 0, .int 0, .long 0, .long 0])), (q1, .inl (cI, 4, .inl (fun _ => 0))), (q2, .inl (cI, 4, .inl (fun _ => 0))), (q3, .inl (cI, 4, .inl (fun _ => 0)))] H := hP
  have hD : va_D A [(h, .inr (0, [.ref q1, .ref q2, .null, .int 0, .int 0, .long 0, .long 0])), (q1, .inl (cI, 4, .inl (fun _ => 0))), (q2, .inl (cI, 4, .inl (fun _ => 0))), (q3, .inl (cI, 4, .inl (fun _ => 0)))] := hD
  refine W.widen (k := 3) (n := 12) (Nat.le_of_ble_eq_true rfl) (Nat.le_of_ble_eq_true rfl) ?_
  refine fp_Guard_18 X hin hP hD hS 0 rfl rfl rfl rfl d_Guard_init_22 (fun H locs hP hD hS => ?_)
  have hP : va_P D cls [(h, .inr (0, [.ref q1, .ref q2, .ref q3, .int 0, .int 0, .long 0, .long 0])), (q1, .inl (cI, 4, .inl (fun _ => 0))), (q2, .inl (cI, 4, .inl (fun _ => 0))), (q3, .inl (cI, 4, .inl (fun _ => 0)))] H := hP
  have hD : va_D A [(h, .inr (0, [.ref q1, .ref q2, .ref q3, .int 0, .int 0, .long 0, .long 0])), (q1, .inl (cI, 4, .inl (fun _ => 0))), (q2, .inl (cI, 4, .inl (fun _ => 0))), (q3, .inl (cI, 4, .inl (fun _ => 0)))] := hD
  refine lv_aload_n X.1.1 X.1.2.1 d_Guard_init_25 rfl (lv_at hl 0 rfl) ?_
  refine wc_Vv [] 0 0 X nz_nest (c_Guard_clear h q1 q2 q3 (fun _ => 0) (fun _ => 0) (fun _ => 0) 0 0 0 0) (cw_Guard_21 X.1.2.2.2.2 X.2.2.1 (by decide)) [] [] rfl hP hD hS rfl rfl rfl rfl hl.1 (Nat.le_of_ble_eq_true rfl) (by decide) d_Guard_init_26 (fun H locs wn hwn hP hD hS => ?_)
  subst hwn
  have hP : va_P D cls (gW cI h q1 q2 q3 (fun _ => 0) (fun _ => 0) (fun _ => 0) 0 0 0 0) H := hP
  have hD : va_D A (gW cI h q1 q2 q3 (fun _ => 0) (fun _ => 0) (fun _ => 0) 0 0 0 0) := hD
  exact hret 29 H locs ls _ _ _ hP hD hS d_Guard_init_29 (Nat.le_of_ble_eq_true rfl) (Nat.le_of_ble_eq_true rfl) (⟨_, _, _, rfl⟩)
set_option maxHeartbeats 4000000 in
set_option maxRecDepth 100000 in
theorem c_Step_init (h : Nat) : wk_kc l y_Step_init (Cond.code y_Step_init b_Step_init 1 none :: BW) rm_Step_init D cls (kT cI cJ cS) nz [.ref h] [(h, .inr (1, [.null, .null, .null, .int 0]))] (fun wz => ∃ q1 a1 a2 a3 q2 q3, wz = sW cI h q1 a1 a2 a3 q2 q3 (fun _ => 0) (fun _ => 0) (fun _ => 0) 0 0 0 0 (fun _ => 0) (fun _ => 0) 0) 6 105 := by
  refine ws_c (plainFor_of_name (by decide)) (Nat.le_of_ble_eq_true rfl) ?_
  intro p e s m below meth c A ls Q X hname hret hl hP hD hS
  have hin : meth.name = "<init>" := hname
  obtain ⟨H, hH⟩ : ∃ H, H = s.heap := ⟨_, rfl⟩
  obtain ⟨locs, hlo⟩ : ∃ locs : List Loc, locs = [] := ⟨_, rfl⟩
  have hP : va_P D cls [(h, .inr (1, [.null, .null, .null, .int 0]))] H := by rw [hH]; exact hP
  have hS : va_S A s.heap H locs := by rw [hH, hlo]; exact hS
  suffices hgo : W p l e rm_Step_init s m ([.ref h] : List Value).toArray below meth c H locs 0 0 Q (F0 m 0 ls []) by rw [hH, hlo] at hgo; exact hgo
  clear hH hlo
  have hl : lv_has ls 1 [(0, .ref h)] := hl
  refine lv_aload_n X.1.1 X.1.2.1 d_Step_init_0 rfl (lv_at hl 0 rfl) ?_
  refine W.objInit X.1.1 X.1.2.1 X.1.2.2.2.1 (X.1.2.2.2.2 _ (List.mem_append_left _ (List.mem_of_getElem? (i := 19) rfl))) (X.1.2.2.2.2 _ (List.mem_append_left _ (List.mem_of_getElem? (i := 13) rfl))) (X.1.2.2.2.2 _ (List.mem_append_left _ (List.mem_of_getElem? (i := 14) rfl))) rfl (by rw [X.1.2.2.1]; exact hl.1) rfl d_Step_init_1 (Nat.le_of_ble_eq_true rfl) (Nat.le_of_ble_eq_true rfl) ?_
  refine W.eq (g2 := F0 m 4 ls []) rfl ?_
  refine lv_aload_n X.1.1 X.1.2.1 d_Step_init_4 rfl (lv_at hl 0 rfl) ?_
  refine va_new (ci := 0) (fs := [.null, .null, .null, .int 0, .int 0, .long 0, .long 0]) (C := R_Guard) (T := F_Guard) (N := 7) X.1.1 X.1.2.1 X.1.2.2.2.2 hin_Guard t_Guard t_Guard_ok X.1.2.2.2.1 (X.1.2.2.2.2 _ (List.mem_append_right _ (List.mem_append_left _ (List.mem_of_getElem? (i := 0) rfl)))) (X.1.2.2.2.2 _ (List.mem_append_right _ (List.mem_append_left _ (List.mem_of_getElem? (i := 1) rfl)))) (X.1.2.2.2.2 _ (List.mem_append_left _ (List.mem_of_getElem? (i := 3) rfl))) X.2.1 hP hD hS X.2.2.2.1 rfl (fun j hj => by rcases (show j = 0 ∨ j = 1 ∨ j = 2 ∨ j = 3 ∨ j = 4 ∨ j = 5 ∨ j = 6 by omega) with rfl | rfl | rfl | rfl | rfl | rfl | rfl <;> rfl) (Nat.le_of_ble_eq_true rfl) (Nat.le_of_ble_eq_true rfl) d_Step_init_5 (fun q1 H hP hD hS => ?_)
  have hP : va_P D cls [(h, .inr (1, [.null, .null, .null, .int 0])), (q1, .inr (0, [.null, .null, .null, .int 0, .int 0, .long 0, .long 0]))] H := hP
  have hD : va_D A [(h, .inr (1, [.null, .null, .null, .int 0])), (q1, .inr (0, [.null, .null, .null, .int 0, .int 0, .long 0, .long 0]))] := hD
  refine W.widen (k := 1) (n := 7) (Nat.le_of_ble_eq_true rfl) (Nat.le_of_ble_eq_true rfl) ?_
  refine lv_dup X.1.1 X.1.2.1 d_Step_init_8 rfl ?_
  refine wc_IN X nz_nest (c_Guard_init q1) ⟨va_cnB 0 X.1.2.2.2.2 (BW_good kw_Guard_init) rfl rfl rfl (X.2.2.1 _ (List.mem_of_getElem? (i := 1) rfl)) (X.1.2.2.2.2 _ (List.mem_append_left _ (List.mem_of_getElem? (i := 3) rfl))) ⟨by decide, by decide, by decide +kernel⟩ (by decide), rfl, (X.1.2.2.2.2 _ (List.mem_append_right _ (List.mem_append_left _ (List.mem_of_getElem? (i := 2) rfl))))⟩ [(h, .inr (1, [.null, .null, .null, .int 0]))] [] rfl hP hD hS hl.1 (Nat.le_of_ble_eq_true rfl) (by decide) d_Step_init_9 (fun H locs wn hwn hP hD hS => ?_)
  obtain ⟨a1, a2, a3, rfl⟩ := hwn
  have hP : va_P D cls [(h, .inr (1, [.null, .null, .null, .int 0])), (q1, .inr (0, [.ref a1, .ref a2, .ref a3, .int (nI 0), .int 0, .long 0, .long 0])), (a1, .inl (cI, 4, .inl (fun _ => 0))), (a2, .inl (cI, 4, .inl (fun _ => 0))), (a3, .inl (cI, 4, .inl (fun _ => 0)))] H := hP
  have hD : va_D A [(h, .inr (1, [.null, .null, .null, .int 0])), (q1, .inr (0, [.ref a1, .ref a2, .ref a3, .int (nI 0), .int 0, .long 0, .long 0])), (a1, .inl (cI, 4, .inl (fun _ => 0))), (a2, .inl (cI, 4, .inl (fun _ => 0))), (a3, .inl (cI, 4, .inl (fun _ => 0)))] := hD
  refine W.widen (k := 4) (n := 19) (Nat.le_of_ble_eq_true rfl) (Nat.le_of_ble_eq_true rfl) ?_
  refine fp_Step_12 X hin hP hD hS 0 rfl rfl rfl rfl d_Step_init_12 (fun H locs hP hD hS => ?_)
  have hP : va_P D cls [(h, .inr (1, [.ref q1, .null, .null, .int 0])), (q1, .inr (0, [.ref a1, .ref a2, .ref a3, .int (nI 0), .int 0, .long 0, .long 0])), (a1, .inl (cI, 4, .inl (fun _ => 0))), (a2, .inl (cI, 4, .inl (fun _ => 0))), (a3, .inl (cI, 4, .inl (fun _ => 0)))] H := hP
  have hD : va_D A [(h, .inr (1, [.ref q1, .null, .null, .int 0])), (q1, .inr (0, [.ref a1, .ref a2, .ref a3, .int (nI 0), .int 0, .long 0, .long 0])), (a1, .inl (cI, 4, .inl (fun _ => 0))), (a2, .inl (cI, 4, .inl (fun _ => 0))), (a3, .inl (cI, 4, .inl (fun _ => 0)))] := hD
  refine lv_aload_n X.1.1 X.1.2.1 d_Step_init_15 rfl (lv_at hl 0 rfl) ?_
  refine lv_bipush (v := (6 : Int32)) X.1.1 X.1.2.1 d_Step_init_16 (by decide) ?_
  refine wo_ni X (X.1.2.2.2.2 _ (List.mem_append_right _ (List.mem_append_right _ (List.mem_append_left _ (List.mem_of_getElem? (i := 10) rfl))))) hP hD hS 6 (by decide) (by decide) (Nat.le_of_ble_eq_true rfl) (Nat.le_of_ble_eq_true rfl) d_Step_init_18 (fun q2 H hP hD hS => ?_)
  have hP : va_P D cls [(h, .inr (1, [.ref q1, .null, .null, .int 0])), (q1, .inr (0, [.ref a1, .ref a2, .ref a3, .int (nI 0), .int 0, .long 0, .long 0])), (a1, .inl (cI, 4, .inl (fun _ => 0))), (a2, .inl (cI, 4, .inl (fun _ => 0))), (a3, .inl (cI, 4, .inl (fun _ => 0))), (q2, .inl (cI, 6, .inl (fun _ => 0)))] H := hP
  have hD : va_D A [(h, .inr (1, [.ref q1, .null, .null, .int 0])), (q1, .inr (0, [.ref a1, .ref a2, .ref a3, .int (nI 0), .int 0, .long 0, .long 0])), (a1, .inl (cI, 4, .inl (fun _ => 0))), (a2, .inl (cI, 4, .inl (fun _ => 0))), (a3, .inl (cI, 4, .inl (fun _ => 0))), (q2, .inl (cI, 6, .inl (fun _ => 0)))] := hD
  refine W.widen (k := 5) (n := 25) (Nat.le_of_ble_eq_true rfl) (Nat.le_of_ble_eq_true rfl) ?_
  refine fp_Step_18 X hin hP hD hS 0 rfl rfl rfl rfl d_Step_init_20 (fun H locs hP hD hS => ?_)
  have hP : va_P D cls [(h, .inr (1, [.ref q1, .ref q2, .null, .int 0])), (q1, .inr (0, [.ref a1, .ref a2, .ref a3, .int (nI 0), .int 0, .long 0, .long 0])), (a1, .inl (cI, 4, .inl (fun _ => 0))), (a2, .inl (cI, 4, .inl (fun _ => 0))), (a3, .inl (cI, 4, .inl (fun _ => 0))), (q2, .inl (cI, 6, .inl (fun _ => 0)))] H := hP
  have hD : va_D A [(h, .inr (1, [.ref q1, .ref q2, .null, .int 0])), (q1, .inr (0, [.ref a1, .ref a2, .ref a3, .int (nI 0), .int 0, .long 0, .long 0])), (a1, .inl (cI, 4, .inl (fun _ => 0))), (a2, .inl (cI, 4, .inl (fun _ => 0))), (a3, .inl (cI, 4, .inl (fun _ => 0))), (q2, .inl (cI, 6, .inl (fun _ => 0)))] := hD
  refine lv_aload_n X.1.1 X.1.2.1 d_Step_init_23 rfl (lv_at hl 0 rfl) ?_
  refine lv_bipush (v := (80 : Int32)) X.1.1 X.1.2.1 d_Step_init_24 (by decide) ?_
  refine wo_ni X (X.1.2.2.2.2 _ (List.mem_append_right _ (List.mem_append_right _ (List.mem_append_left _ (List.mem_of_getElem? (i := 10) rfl))))) hP hD hS 80 (by decide) (by decide) (Nat.le_of_ble_eq_true rfl) (Nat.le_of_ble_eq_true rfl) d_Step_init_26 (fun q3 H hP hD hS => ?_)
  have hP : va_P D cls [(h, .inr (1, [.ref q1, .ref q2, .null, .int 0])), (q1, .inr (0, [.ref a1, .ref a2, .ref a3, .int (nI 0), .int 0, .long 0, .long 0])), (a1, .inl (cI, 4, .inl (fun _ => 0))), (a2, .inl (cI, 4, .inl (fun _ => 0))), (a3, .inl (cI, 4, .inl (fun _ => 0))), (q2, .inl (cI, 6, .inl (fun _ => 0))), (q3, .inl (cI, 80, .inl (fun _ => 0)))] H := hP
  have hD : va_D A [(h, .inr (1, [.ref q1, .ref q2, .null, .int 0])), (q1, .inr (0, [.ref a1, .ref a2, .ref a3, .int (nI 0), .int 0, .long 0, .long 0])), (a1, .inl (cI, 4, .inl (fun _ => 0))), (a2, .inl (cI, 4, .inl (fun _ => 0))), (a3, .inl (cI, 4, .inl (fun _ => 0))), (q2, .inl (cI, 6, .inl (fun _ => 0))), (q3, .inl (cI, 80, .inl (fun _ => 0)))] := hD
  refine W.widen (k := 6) (n := 105) (Nat.le_of_ble_eq_true rfl) (Nat.le_of_ble_eq_true rfl) ?_
  refine fp_Step_22 X hin hP hD hS 0 rfl rfl rfl rfl d_Step_init_28 (fun H locs hP hD hS => ?_)
  have hP : va_P D cls [(h, .inr (1, [.ref q1, .ref q2, .ref q3, .int 0])), (q1, .inr (0, [.ref a1, .ref a2, .ref a3, .int (nI 0), .int 0, .long 0, .long 0])), (a1, .inl (cI, 4, .inl (fun _ => 0))), (a2, .inl (cI, 4, .inl (fun _ => 0))), (a3, .inl (cI, 4, .inl (fun _ => 0))), (q2, .inl (cI, 6, .inl (fun _ => 0))), (q3, .inl (cI, 80, .inl (fun _ => 0)))] H := hP
  have hD : va_D A [(h, .inr (1, [.ref q1, .ref q2, .ref q3, .int 0])), (q1, .inr (0, [.ref a1, .ref a2, .ref a3, .int (nI 0), .int 0, .long 0, .long 0])), (a1, .inl (cI, 4, .inl (fun _ => 0))), (a2, .inl (cI, 4, .inl (fun _ => 0))), (a3, .inl (cI, 4, .inl (fun _ => 0))), (q2, .inl (cI, 6, .inl (fun _ => 0))), (q3, .inl (cI, 80, .inl (fun _ => 0)))] := hD
  refine lv_aload_n X.1.1 X.1.2.1 d_Step_init_31 rfl (lv_at hl 0 rfl) ?_
  refine lv_iconst (v := (0 : Int32)) X.1.1 X.1.2.1 d_Step_init_32 (by decide) ?_
  refine fp_Step_25 X hP hD hS 0 rfl rfl rfl rfl d_Step_init_33 (fun H locs hP hD hS => ?_)
  have hP : va_P D cls [(h, .inr (1, [.ref q1, .ref q2, .ref q3, .int 0])), (q1, .inr (0, [.ref a1, .ref a2, .ref a3, .int (nI 0), .int 0, .long 0, .long 0])), (a1, .inl (cI, 4, .inl (fun _ => 0))), (a2, .inl (cI, 4, .inl (fun _ => 0))), (a3, .inl (cI, 4, .inl (fun _ => 0))), (q2, .inl (cI, 6, .inl (fun _ => 0))), (q3, .inl (cI, 80, .inl (fun _ => 0)))] H := hP
  have hD : va_D A [(h, .inr (1, [.ref q1, .ref q2, .ref q3, .int 0])), (q1, .inr (0, [.ref a1, .ref a2, .ref a3, .int (nI 0), .int 0, .long 0, .long 0])), (a1, .inl (cI, 4, .inl (fun _ => 0))), (a2, .inl (cI, 4, .inl (fun _ => 0))), (a3, .inl (cI, 4, .inl (fun _ => 0))), (q2, .inl (cI, 6, .inl (fun _ => 0))), (q3, .inl (cI, 80, .inl (fun _ => 0)))] := hD
  exact hret 36 H locs ls _ _ _ hP hD hS d_Step_init_36 (Nat.le_of_ble_eq_true rfl) (Nat.le_of_ble_eq_true rfl) (⟨_, _, _, _, _, _, rfl⟩)
set_option maxHeartbeats 4000000 in
set_option maxRecDepth 100000 in
theorem c_LoopRankerModel_init (h : Nat) : wk_kc l y_LoopRankerModel_init (Cond.code y_LoopRankerModel_init b_LoopRankerModel_init 1 none :: BW) rm_LoopRankerModel_init D cls (kT cI cJ cS) nz [.ref h] [(h, .inr (4, [.int 0, .null, .null, .null, .null, .null, .int 0, .long 0, .long 0, .int 0, .null, .null, .null, .long 0, .long 0, .int 0]))] (fun wz => ∃ q1 q2 q3 q4 q5 q6 q7 q8, wz = mW cI h q1 q2 q3 q4 q5 q6 q7 q8 0 (fun _ => 0) (fun _ => 0) (fun _ => 0) (fun _ => 0) (fun _ => 0) 0 0 0 0 (fun _ => 0) (fun _ => 0) (fun _ => 0) 0 0 0) 8 132 := by
  refine ws_c (plainFor_of_name (by decide)) (Nat.le_of_ble_eq_true rfl) ?_
  intro p e s m below meth c A ls Q X hname hret hl hP hD hS
  have hin : meth.name = "<init>" := hname
  obtain ⟨H, hH⟩ : ∃ H, H = s.heap := ⟨_, rfl⟩
  obtain ⟨locs, hlo⟩ : ∃ locs : List Loc, locs = [] := ⟨_, rfl⟩
  have hP : va_P D cls [(h, .inr (4, [.int 0, .null, .null, .null, .null, .null, .int 0, .long 0, .long 0, .int 0, .null, .null, .null, .long 0, .long 0, .int 0]))] H := by rw [hH]; exact hP
  have hS : va_S A s.heap H locs := by rw [hH, hlo]; exact hS
  suffices hgo : W p l e rm_LoopRankerModel_init s m ([.ref h] : List Value).toArray below meth c H locs 0 0 Q (F0 m 0 ls []) by rw [hH, hlo] at hgo; exact hgo
  clear hH hlo
  have hl : lv_has ls 1 [(0, .ref h)] := hl
  refine lv_aload_n X.1.1 X.1.2.1 d_LoopRankerModel_init_0 rfl (lv_at hl 0 rfl) ?_
  refine W.objInit X.1.1 X.1.2.1 X.1.2.2.2.1 (X.1.2.2.2.2 _ (List.mem_append_right _ (List.mem_append_right _ (List.mem_append_right _ (List.mem_append_right _ (List.mem_append_right _ (List.mem_append_right _ (List.mem_append_right _ (List.mem_append_right _ (List.mem_append_right _ (List.mem_append_right _ (List.mem_append_right _ (List.mem_append_right _ (List.mem_append_right _ (List.mem_append_right _ (List.mem_append_left _ (List.mem_of_getElem? (i := 10) rfl))))))))))))))))) (X.1.2.2.2.2 _ (List.mem_append_left _ (List.mem_of_getElem? (i := 13) rfl))) (X.1.2.2.2.2 _ (List.mem_append_left _ (List.mem_of_getElem? (i := 14) rfl))) rfl (by rw [X.1.2.2.1]; exact hl.1) rfl d_LoopRankerModel_init_1 (Nat.le_of_ble_eq_true rfl) (Nat.le_of_ble_eq_true rfl) ?_
  refine W.eq (g2 := F0 m 4 ls []) rfl ?_
  refine lv_aload_n X.1.1 X.1.2.1 d_LoopRankerModel_init_4 rfl (lv_at hl 0 rfl) ?_
  refine lv_bipush (v := (6 : Int32)) X.1.1 X.1.2.1 d_LoopRankerModel_init_5 (by decide) ?_
  refine wo_ni X (X.1.2.2.2.2 _ (List.mem_append_right _ (List.mem_append_right _ (List.mem_append_left _ (List.mem_of_getElem? (i := 10) rfl))))) hP hD hS 6 (by decide) (by decide) (Nat.le_of_ble_eq_true rfl) (Nat.le_of_ble_eq_true rfl) d_LoopRankerModel_init_7 (fun q1 H hP hD hS => ?_)
  have hP : va_P D cls [(h, .inr (4, [.int 0, .null, .null, .null, .null, .null, .int 0, .long 0, .long 0, .int 0, .null, .null, .null, .long 0, .long 0, .int 0])), (q1, .inl (cI, 6, .inl (fun _ => 0)))] H := hP
  have hD : va_D A [(h, .inr (4, [.int 0, .null, .null, .null, .null, .null, .int 0, .long 0, .long 0, .int 0, .null, .null, .null, .long 0, .long 0, .int 0])), (q1, .inl (cI, 6, .inl (fun _ => 0)))] := hD
  refine W.widen (k := 1) (n := 6) (Nat.le_of_ble_eq_true rfl) (Nat.le_of_ble_eq_true rfl) ?_
  refine fp_LoopRankerModel_7 X hin hP hD hS 0 rfl rfl rfl rfl d_LoopRankerModel_init_9 (fun H locs hP hD hS => ?_)
  have hP : va_P D cls [(h, .inr (4, [.int 0, .ref q1, .null, .null, .null, .null, .int 0, .long 0, .long 0, .int 0, .null, .null, .null, .long 0, .long 0, .int 0])), (q1, .inl (cI, 6, .inl (fun _ => 0)))] H := hP
  have hD : va_D A [(h, .inr (4, [.int 0, .ref q1, .null, .null, .null, .null, .int 0, .long 0, .long 0, .int 0, .null, .null, .null, .long 0, .long 0, .int 0])), (q1, .inl (cI, 6, .inl (fun _ => 0)))] := hD
  refine lv_aload_n X.1.1 X.1.2.1 d_LoopRankerModel_init_12 rfl (lv_at hl 0 rfl) ?_
  refine lv_bipush (v := (24 : Int32)) X.1.1 X.1.2.1 d_LoopRankerModel_init_13 (by decide) ?_
  refine wo_ni X (X.1.2.2.2.2 _ (List.mem_append_right _ (List.mem_append_right _ (List.mem_append_left _ (List.mem_of_getElem? (i := 10) rfl))))) hP hD hS 24 (by decide) (by decide) (Nat.le_of_ble_eq_true rfl) (Nat.le_of_ble_eq_true rfl) d_LoopRankerModel_init_15 (fun q2 H hP hD hS => ?_)
  have hP : va_P D cls [(h, .inr (4, [.int 0, .ref q1, .null, .null, .null, .null, .int 0, .long 0, .long 0, .int 0, .null, .null, .null, .long 0, .long 0, .int 0])), (q1, .inl (cI, 6, .inl (fun _ => 0))), (q2, .inl (cI, 24, .inl (fun _ => 0)))] H := hP
  have hD : va_D A [(h, .inr (4, [.int 0, .ref q1, .null, .null, .null, .null, .int 0, .long 0, .long 0, .int 0, .null, .null, .null, .long 0, .long 0, .int 0])), (q1, .inl (cI, 6, .inl (fun _ => 0))), (q2, .inl (cI, 24, .inl (fun _ => 0)))] := hD
  refine W.widen (k := 2) (n := 30) (Nat.le_of_ble_eq_true rfl) (Nat.le_of_ble_eq_true rfl) ?_
  refine fp_LoopRankerModel_13 X hin hP hD hS 0 rfl rfl rfl rfl d_LoopRankerModel_init_17 (fun H locs hP hD hS => ?_)
  have hP : va_P D cls [(h, .inr (4, [.int 0, .ref q1, .ref q2, .null, .null, .null, .int 0, .long 0, .long 0, .int 0, .null, .null, .null, .long 0, .long 0, .int 0])), (q1, .inl (cI, 6, .inl (fun _ => 0))), (q2, .inl (cI, 24, .inl (fun _ => 0)))] H := hP
  have hD : va_D A [(h, .inr (4, [.int 0, .ref q1, .ref q2, .null, .null, .null, .int 0, .long 0, .long 0, .int 0, .null, .null, .null, .long 0, .long 0, .int 0])), (q1, .inl (cI, 6, .inl (fun _ => 0))), (q2, .inl (cI, 24, .inl (fun _ => 0)))] := hD
  refine lv_aload_n X.1.1 X.1.2.1 d_LoopRankerModel_init_20 rfl (lv_at hl 0 rfl) ?_
  refine lv_bipush (v := (24 : Int32)) X.1.1 X.1.2.1 d_LoopRankerModel_init_21 (by decide) ?_
  refine wo_ni X (X.1.2.2.2.2 _ (List.mem_append_right _ (List.mem_append_right _ (List.mem_append_left _ (List.mem_of_getElem? (i := 10) rfl))))) hP hD hS 24 (by decide) (by decide) (Nat.le_of_ble_eq_true rfl) (Nat.le_of_ble_eq_true rfl) d_LoopRankerModel_init_23 (fun q3 H hP hD hS => ?_)
  have hP : va_P D cls [(h, .inr (4, [.int 0, .ref q1, .ref q2, .null, .null, .null, .int 0, .long 0, .long 0, .int 0, .null, .null, .null, .long 0, .long 0, .int 0])), (q1, .inl (cI, 6, .inl (fun _ => 0))), (q2, .inl (cI, 24, .inl (fun _ => 0))), (q3, .inl (cI, 24, .inl (fun _ => 0)))] H := hP
  have hD : va_D A [(h, .inr (4, [.int 0, .ref q1, .ref q2, .null, .null, .null, .int 0, .long 0, .long 0, .int 0, .null, .null, .null, .long 0, .long 0, .int 0])), (q1, .inl (cI, 6, .inl (fun _ => 0))), (q2, .inl (cI, 24, .inl (fun _ => 0))), (q3, .inl (cI, 24, .inl (fun _ => 0)))] := hD
  refine W.widen (k := 3) (n := 54) (Nat.le_of_ble_eq_true rfl) (Nat.le_of_ble_eq_true rfl) ?_
  refine fp_LoopRankerModel_16 X hin hP hD hS 0 rfl rfl rfl rfl d_LoopRankerModel_init_25 (fun H locs hP hD hS => ?_)
  have hP : va_P D cls [(h, .inr (4, [.int 0, .ref q1, .ref q2, .ref q3, .null, .null, .int 0, .long 0, .long 0, .int 0, .null, .null, .null, .long 0, .long 0, .int 0])), (q1, .inl (cI, 6, .inl (fun _ => 0))), (q2, .inl (cI, 24, .inl (fun _ => 0))), (q3, .inl (cI, 24, .inl (fun _ => 0)))] H := hP
  have hD : va_D A [(h, .inr (4, [.int 0, .ref q1, .ref q2, .ref q3, .null, .null, .int 0, .long 0, .long 0, .int 0, .null, .null, .null, .long 0, .long 0, .int 0])), (q1, .inl (cI, 6, .inl (fun _ => 0))), (q2, .inl (cI, 24, .inl (fun _ => 0))), (q3, .inl (cI, 24, .inl (fun _ => 0)))] := hD
  refine lv_aload_n X.1.1 X.1.2.1 d_LoopRankerModel_init_28 rfl (lv_at hl 0 rfl) ?_
  refine lv_bipush (v := (24 : Int32)) X.1.1 X.1.2.1 d_LoopRankerModel_init_29 (by decide) ?_
  refine wo_ni X (X.1.2.2.2.2 _ (List.mem_append_right _ (List.mem_append_right _ (List.mem_append_left _ (List.mem_of_getElem? (i := 10) rfl))))) hP hD hS 24 (by decide) (by decide) (Nat.le_of_ble_eq_true rfl) (Nat.le_of_ble_eq_true rfl) d_LoopRankerModel_init_31 (fun q4 H hP hD hS => ?_)
  have hP : va_P D cls [(h, .inr (4, [.int 0, .ref q1, .ref q2, .ref q3, .null, .null, .int 0, .long 0, .long 0, .int 0, .null, .null, .null, .long 0, .long 0, .int 0])), (q1, .inl (cI, 6, .inl (fun _ => 0))), (q2, .inl (cI, 24, .inl (fun _ => 0))), (q3, .inl (cI, 24, .inl (fun _ => 0))), (q4, .inl (cI, 24, .inl (fun _ => 0)))] H := hP
  have hD : va_D A [(h, .inr (4, [.int 0, .ref q1, .ref q2, .ref q3, .null, .null, .int 0, .long 0, .long 0, .int 0, .null, .null, .null, .long 0, .long 0, .int 0])), (q1, .inl (cI, 6, .inl (fun _ => 0))), (q2, .inl (cI, 24, .inl (fun _ => 0))), (q3, .inl (cI, 24, .inl (fun _ => 0))), (q4, .inl (cI, 24, .inl (fun _ => 0)))] := hD
  refine W.widen (k := 4) (n := 78) (Nat.le_of_ble_eq_true rfl) (Nat.le_of_ble_eq_true rfl) ?_
  refine fp_LoopRankerModel_19 X hin hP hD hS 0 rfl rfl rfl rfl d_LoopRankerModel_init_33 (fun H locs hP hD hS => ?_)
  have hP : va_P D cls [(h, .inr (4, [.int 0, .ref q1, .ref q2, .ref q3, .ref q4, .null, .int 0, .long 0, .long 0, .int 0, .null, .null, .null, .long 0, .long 0, .int 0])), (q1, .inl (cI, 6, .inl (fun _ => 0))), (q2, .inl (cI, 24, .inl (fun _ => 0))), (q3, .inl (cI, 24, .inl (fun _ => 0))), (q4, .inl (cI, 24, .inl (fun _ => 0)))] H := hP
  have hD : va_D A [(h, .inr (4, [.int 0, .ref q1, .ref q2, .ref q3, .ref q4, .null, .int 0, .long 0, .long 0, .int 0, .null, .null, .null, .long 0, .long 0, .int 0])), (q1, .inl (cI, 6, .inl (fun _ => 0))), (q2, .inl (cI, 24, .inl (fun _ => 0))), (q3, .inl (cI, 24, .inl (fun _ => 0))), (q4, .inl (cI, 24, .inl (fun _ => 0)))] := hD
  refine lv_aload_n X.1.1 X.1.2.1 d_LoopRankerModel_init_36 rfl (lv_at hl 0 rfl) ?_
  refine lv_bipush (v := (36 : Int32)) X.1.1 X.1.2.1 d_LoopRankerModel_init_37 (by decide) ?_
  refine wo_ni X (X.1.2.2.2.2 _ (List.mem_append_right _ (List.mem_append_right _ (List.mem_append_left _ (List.mem_of_getElem? (i := 10) rfl))))) hP hD hS 36 (by decide) (by decide) (Nat.le_of_ble_eq_true rfl) (Nat.le_of_ble_eq_true rfl) d_LoopRankerModel_init_39 (fun q5 H hP hD hS => ?_)
  have hP : va_P D cls [(h, .inr (4, [.int 0, .ref q1, .ref q2, .ref q3, .ref q4, .null, .int 0, .long 0, .long 0, .int 0, .null, .null, .null, .long 0, .long 0, .int 0])), (q1, .inl (cI, 6, .inl (fun _ => 0))), (q2, .inl (cI, 24, .inl (fun _ => 0))), (q3, .inl (cI, 24, .inl (fun _ => 0))), (q4, .inl (cI, 24, .inl (fun _ => 0))), (q5, .inl (cI, 36, .inl (fun _ => 0)))] H := hP
  have hD : va_D A [(h, .inr (4, [.int 0, .ref q1, .ref q2, .ref q3, .ref q4, .null, .int 0, .long 0, .long 0, .int 0, .null, .null, .null, .long 0, .long 0, .int 0])), (q1, .inl (cI, 6, .inl (fun _ => 0))), (q2, .inl (cI, 24, .inl (fun _ => 0))), (q3, .inl (cI, 24, .inl (fun _ => 0))), (q4, .inl (cI, 24, .inl (fun _ => 0))), (q5, .inl (cI, 36, .inl (fun _ => 0)))] := hD
  refine W.widen (k := 5) (n := 114) (Nat.le_of_ble_eq_true rfl) (Nat.le_of_ble_eq_true rfl) ?_
  refine fp_LoopRankerModel_22 X hin hP hD hS 0 rfl rfl rfl rfl d_LoopRankerModel_init_41 (fun H locs hP hD hS => ?_)
  have hP : va_P D cls [(h, .inr (4, [.int 0, .ref q1, .ref q2, .ref q3, .ref q4, .ref q5, .int 0, .long 0, .long 0, .int 0, .null, .null, .null, .long 0, .long 0, .int 0])), (q1, .inl (cI, 6, .inl (fun _ => 0))), (q2, .inl (cI, 24, .inl (fun _ => 0))), (q3, .inl (cI, 24, .inl (fun _ => 0))), (q4, .inl (cI, 24, .inl (fun _ => 0))), (q5, .inl (cI, 36, .inl (fun _ => 0)))] H := hP
  have hD : va_D A [(h, .inr (4, [.int 0, .ref q1, .ref q2, .ref q3, .ref q4, .ref q5, .int 0, .long 0, .long 0, .int 0, .null, .null, .null, .long 0, .long 0, .int 0])), (q1, .inl (cI, 6, .inl (fun _ => 0))), (q2, .inl (cI, 24, .inl (fun _ => 0))), (q3, .inl (cI, 24, .inl (fun _ => 0))), (q4, .inl (cI, 24, .inl (fun _ => 0))), (q5, .inl (cI, 36, .inl (fun _ => 0)))] := hD
  refine lv_aload_n X.1.1 X.1.2.1 d_LoopRankerModel_init_44 rfl (lv_at hl 0 rfl) ?_
  refine lv_bipush (v := (6 : Int32)) X.1.1 X.1.2.1 d_LoopRankerModel_init_45 (by decide) ?_
  refine wo_ni X (X.1.2.2.2.2 _ (List.mem_append_right _ (List.mem_append_right _ (List.mem_append_left _ (List.mem_of_getElem? (i := 10) rfl))))) hP hD hS 6 (by decide) (by decide) (Nat.le_of_ble_eq_true rfl) (Nat.le_of_ble_eq_true rfl) d_LoopRankerModel_init_47 (fun q6 H hP hD hS => ?_)
  have hP : va_P D cls [(h, .inr (4, [.int 0, .ref q1, .ref q2, .ref q3, .ref q4, .ref q5, .int 0, .long 0, .long 0, .int 0, .null, .null, .null, .long 0, .long 0, .int 0])), (q1, .inl (cI, 6, .inl (fun _ => 0))), (q2, .inl (cI, 24, .inl (fun _ => 0))), (q3, .inl (cI, 24, .inl (fun _ => 0))), (q4, .inl (cI, 24, .inl (fun _ => 0))), (q5, .inl (cI, 36, .inl (fun _ => 0))), (q6, .inl (cI, 6, .inl (fun _ => 0)))] H := hP
  have hD : va_D A [(h, .inr (4, [.int 0, .ref q1, .ref q2, .ref q3, .ref q4, .ref q5, .int 0, .long 0, .long 0, .int 0, .null, .null, .null, .long 0, .long 0, .int 0])), (q1, .inl (cI, 6, .inl (fun _ => 0))), (q2, .inl (cI, 24, .inl (fun _ => 0))), (q3, .inl (cI, 24, .inl (fun _ => 0))), (q4, .inl (cI, 24, .inl (fun _ => 0))), (q5, .inl (cI, 36, .inl (fun _ => 0))), (q6, .inl (cI, 6, .inl (fun _ => 0)))] := hD
  refine W.widen (k := 6) (n := 120) (Nat.le_of_ble_eq_true rfl) (Nat.le_of_ble_eq_true rfl) ?_
  refine fp_LoopRankerModel_25 X hin hP hD hS 0 rfl rfl rfl rfl d_LoopRankerModel_init_49 (fun H locs hP hD hS => ?_)
  have hP : va_P D cls [(h, .inr (4, [.int 0, .ref q1, .ref q2, .ref q3, .ref q4, .ref q5, .int 0, .long 0, .long 0, .int 0, .ref q6, .null, .null, .long 0, .long 0, .int 0])), (q1, .inl (cI, 6, .inl (fun _ => 0))), (q2, .inl (cI, 24, .inl (fun _ => 0))), (q3, .inl (cI, 24, .inl (fun _ => 0))), (q4, .inl (cI, 24, .inl (fun _ => 0))), (q5, .inl (cI, 36, .inl (fun _ => 0))), (q6, .inl (cI, 6, .inl (fun _ => 0)))] H := hP
  have hD : va_D A [(h, .inr (4, [.int 0, .ref q1, .ref q2, .ref q3, .ref q4, .ref q5, .int 0, .long 0, .long 0, .int 0, .ref q6, .null, .null, .long 0, .long 0, .int 0])), (q1, .inl (cI, 6, .inl (fun _ => 0))), (q2, .inl (cI, 24, .inl (fun _ => 0))), (q3, .inl (cI, 24, .inl (fun _ => 0))), (q4, .inl (cI, 24, .inl (fun _ => 0))), (q5, .inl (cI, 36, .inl (fun _ => 0))), (q6, .inl (cI, 6, .inl (fun _ => 0)))] := hD
  refine lv_aload_n X.1.1 X.1.2.1 d_LoopRankerModel_init_52 rfl (lv_at hl 0 rfl) ?_
  refine lv_bipush (v := (6 : Int32)) X.1.1 X.1.2.1 d_LoopRankerModel_init_53 (by decide) ?_
  refine wo_ni X (X.1.2.2.2.2 _ (List.mem_append_right _ (List.mem_append_right _ (List.mem_append_left _ (List.mem_of_getElem? (i := 10) rfl))))) hP hD hS 6 (by decide) (by decide) (Nat.le_of_ble_eq_true rfl) (Nat.le_of_ble_eq_true rfl) d_LoopRankerModel_init_55 (fun q7 H hP hD hS => ?_)
  have hP : va_P D cls [(h, .inr (4, [.int 0, .ref q1, .ref q2, .ref q3, .ref q4, .ref q5, .int 0, .long 0, .long 0, .int 0, .ref q6, .null, .null, .long 0, .long 0, .int 0])), (q1, .inl (cI, 6, .inl (fun _ => 0))), (q2, .inl (cI, 24, .inl (fun _ => 0))), (q3, .inl (cI, 24, .inl (fun _ => 0))), (q4, .inl (cI, 24, .inl (fun _ => 0))), (q5, .inl (cI, 36, .inl (fun _ => 0))), (q6, .inl (cI, 6, .inl (fun _ => 0))), (q7, .inl (cI, 6, .inl (fun _ => 0)))] H := hP
  have hD : va_D A [(h, .inr (4, [.int 0, .ref q1, .ref q2, .ref q3, .ref q4, .ref q5, .int 0, .long 0, .long 0, .int 0, .ref q6, .null, .null, .long 0, .long 0, .int 0])), (q1, .inl (cI, 6, .inl (fun _ => 0))), (q2, .inl (cI, 24, .inl (fun _ => 0))), (q3, .inl (cI, 24, .inl (fun _ => 0))), (q4, .inl (cI, 24, .inl (fun _ => 0))), (q5, .inl (cI, 36, .inl (fun _ => 0))), (q6, .inl (cI, 6, .inl (fun _ => 0))), (q7, .inl (cI, 6, .inl (fun _ => 0)))] := hD
  refine W.widen (k := 7) (n := 126) (Nat.le_of_ble_eq_true rfl) (Nat.le_of_ble_eq_true rfl) ?_
  refine fp_LoopRankerModel_28 X hin hP hD hS 0 rfl rfl rfl rfl d_LoopRankerModel_init_57 (fun H locs hP hD hS => ?_)
  have hP : va_P D cls [(h, .inr (4, [.int 0, .ref q1, .ref q2, .ref q3, .ref q4, .ref q5, .int 0, .long 0, .long 0, .int 0, .ref q6, .ref q7, .null, .long 0, .long 0, .int 0])), (q1, .inl (cI, 6, .inl (fun _ => 0))), (q2, .inl (cI, 24, .inl (fun _ => 0))), (q3, .inl (cI, 24, .inl (fun _ => 0))), (q4, .inl (cI, 24, .inl (fun _ => 0))), (q5, .inl (cI, 36, .inl (fun _ => 0))), (q6, .inl (cI, 6, .inl (fun _ => 0))), (q7, .inl (cI, 6, .inl (fun _ => 0)))] H := hP
  have hD : va_D A [(h, .inr (4, [.int 0, .ref q1, .ref q2, .ref q3, .ref q4, .ref q5, .int 0, .long 0, .long 0, .int 0, .ref q6, .ref q7, .null, .long 0, .long 0, .int 0])), (q1, .inl (cI, 6, .inl (fun _ => 0))), (q2, .inl (cI, 24, .inl (fun _ => 0))), (q3, .inl (cI, 24, .inl (fun _ => 0))), (q4, .inl (cI, 24, .inl (fun _ => 0))), (q5, .inl (cI, 36, .inl (fun _ => 0))), (q6, .inl (cI, 6, .inl (fun _ => 0))), (q7, .inl (cI, 6, .inl (fun _ => 0)))] := hD
  refine lv_aload_n X.1.1 X.1.2.1 d_LoopRankerModel_init_60 rfl (lv_at hl 0 rfl) ?_
  refine lv_bipush (v := (6 : Int32)) X.1.1 X.1.2.1 d_LoopRankerModel_init_61 (by decide) ?_
  refine wo_ni X (X.1.2.2.2.2 _ (List.mem_append_right _ (List.mem_append_right _ (List.mem_append_left _ (List.mem_of_getElem? (i := 10) rfl))))) hP hD hS 6 (by decide) (by decide) (Nat.le_of_ble_eq_true rfl) (Nat.le_of_ble_eq_true rfl) d_LoopRankerModel_init_63 (fun q8 H hP hD hS => ?_)
  have hP : va_P D cls [(h, .inr (4, [.int 0, .ref q1, .ref q2, .ref q3, .ref q4, .ref q5, .int 0, .long 0, .long 0, .int 0, .ref q6, .ref q7, .null, .long 0, .long 0, .int 0])), (q1, .inl (cI, 6, .inl (fun _ => 0))), (q2, .inl (cI, 24, .inl (fun _ => 0))), (q3, .inl (cI, 24, .inl (fun _ => 0))), (q4, .inl (cI, 24, .inl (fun _ => 0))), (q5, .inl (cI, 36, .inl (fun _ => 0))), (q6, .inl (cI, 6, .inl (fun _ => 0))), (q7, .inl (cI, 6, .inl (fun _ => 0))), (q8, .inl (cI, 6, .inl (fun _ => 0)))] H := hP
  have hD : va_D A [(h, .inr (4, [.int 0, .ref q1, .ref q2, .ref q3, .ref q4, .ref q5, .int 0, .long 0, .long 0, .int 0, .ref q6, .ref q7, .null, .long 0, .long 0, .int 0])), (q1, .inl (cI, 6, .inl (fun _ => 0))), (q2, .inl (cI, 24, .inl (fun _ => 0))), (q3, .inl (cI, 24, .inl (fun _ => 0))), (q4, .inl (cI, 24, .inl (fun _ => 0))), (q5, .inl (cI, 36, .inl (fun _ => 0))), (q6, .inl (cI, 6, .inl (fun _ => 0))), (q7, .inl (cI, 6, .inl (fun _ => 0))), (q8, .inl (cI, 6, .inl (fun _ => 0)))] := hD
  refine W.widen (k := 8) (n := 132) (Nat.le_of_ble_eq_true rfl) (Nat.le_of_ble_eq_true rfl) ?_
  refine fp_LoopRankerModel_31 X hin hP hD hS 0 rfl rfl rfl rfl d_LoopRankerModel_init_65 (fun H locs hP hD hS => ?_)
  have hP : va_P D cls [(h, .inr (4, [.int 0, .ref q1, .ref q2, .ref q3, .ref q4, .ref q5, .int 0, .long 0, .long 0, .int 0, .ref q6, .ref q7, .ref q8, .long 0, .long 0, .int 0])), (q1, .inl (cI, 6, .inl (fun _ => 0))), (q2, .inl (cI, 24, .inl (fun _ => 0))), (q3, .inl (cI, 24, .inl (fun _ => 0))), (q4, .inl (cI, 24, .inl (fun _ => 0))), (q5, .inl (cI, 36, .inl (fun _ => 0))), (q6, .inl (cI, 6, .inl (fun _ => 0))), (q7, .inl (cI, 6, .inl (fun _ => 0))), (q8, .inl (cI, 6, .inl (fun _ => 0)))] H := hP
  have hD : va_D A [(h, .inr (4, [.int 0, .ref q1, .ref q2, .ref q3, .ref q4, .ref q5, .int 0, .long 0, .long 0, .int 0, .ref q6, .ref q7, .ref q8, .long 0, .long 0, .int 0])), (q1, .inl (cI, 6, .inl (fun _ => 0))), (q2, .inl (cI, 24, .inl (fun _ => 0))), (q3, .inl (cI, 24, .inl (fun _ => 0))), (q4, .inl (cI, 24, .inl (fun _ => 0))), (q5, .inl (cI, 36, .inl (fun _ => 0))), (q6, .inl (cI, 6, .inl (fun _ => 0))), (q7, .inl (cI, 6, .inl (fun _ => 0))), (q8, .inl (cI, 6, .inl (fun _ => 0)))] := hD
  exact hret 68 H locs ls _ _ _ hP hD hS d_LoopRankerModel_init_68 (Nat.le_of_ble_eq_true rfl) (Nat.le_of_ble_eq_true rfl) (⟨_, _, _, _, _, _, _, _, rfl⟩)
end CT
