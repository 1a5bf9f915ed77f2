section CT
variable {l : Launch} {D : va_G} {cI cJ cS : ClassId}
set_option maxHeartbeats 4000000 in
set_option maxRecDepth 100000 in
theorem c_LoopRankerModel_transition_full (h m1 p1 q1 r1 w1 o1 f1 s1 : Nat) (nc : Nat) (my fp fq fr up : Nat → Int32) (sm : Int32) (top bot : Int64) (lv : Nat) (ol fi se : Nat → Int32) (x y : Int64) (fd : Int32) (hc : nc = 6) : wk_ki l y_LoopRankerModel_transition (Cond.code y_LoopRankerModel_transition b_LoopRankerModel_transition 2 (some .int) :: BW) rm_LoopRankerModel_transition D cls (kT cI cJ cS) nz [.ref h] (mW cI h m1 p1 q1 r1 w1 o1 f1 s1 nc my fp fq fr up sm top bot lv ol fi se x y fd) (fun wz => wz = mW cI h m1 p1 q1 r1 w1 o1 f1 s1 nc my fp fq fr up sm top bot lv ol fi se x y fd) (-1) := by
  refine ws_i (plainFor_of_name (by decide)) (Nat.le_of_ble_eq_true rfl) ?_
  intro p e s m below meth c A ls Q X hret hl hP hD hS
  obtain ⟨H, hH⟩ : ∃ H, H = s.heap := ⟨_, rfl⟩
  obtain ⟨locs, hlo⟩ : ∃ locs : List Loc, locs = [] := ⟨_, rfl⟩
  have hP : va_P D cls (mW cI h m1 p1 q1 r1 w1 o1 f1 s1 nc my fp fq fr up sm top bot lv ol fi se x y fd) H := by rw [hH]; exact hP
  have hS : va_S A s.heap H locs := by rw [hH, hlo]; exact hS
  suffices hgo : W p l e rm_LoopRankerModel_transition s m ([.ref h] : List Value).toArray below meth c H locs 0 0 Q (F0 m 0 ls ([])) by rw [hH, hlo] at hgo; exact hgo
  clear hH hlo
  have hl : lv_has ls 2 [(0, .ref h)] := hl
  refine lv_aload_n X.1.1 X.1.2.1 d_LoopRankerModel_transition_0 rfl (lv_at hl 0 rfl) ?_
  refine fg_LoopRankerModel_34 X hP 0 rfl rfl d_LoopRankerModel_transition_1 ?_
  refine lv_bipush (v := (6 : Int32)) X.1.1 X.1.2.1 d_LoopRankerModel_transition_4 (by decide) ?_
  refine wn_ne (a := nc) (b := 6) (tgt := 11) X.1.1 X.1.2.1 d_LoopRankerModel_transition_6 (by decide) (by omega) (by omega) (fun h6 => by exfalso; omega) (fun h6 => ?_)
  refine lv_iconst (v := (-1 : Int32)) X.1.1 X.1.2.1 d_LoopRankerModel_transition_9 (by decide) ?_
  exact hret 10 H locs ls _ _ hP hD hS d_LoopRankerModel_transition_10 (rfl) (rfl)
set_option maxHeartbeats 4000000 in
set_option maxRecDepth 100000 in
theorem c_LoopRankerModel_transition (h m1 p1 q1 r1 w1 o1 f1 s1 : Nat) (nc : Nat) (my fp fq fr up : Nat → Int32) (sm : Int32) (top bot : Int64) (lv : Nat) (ol fi se : Nat → Int32) (x y : Int64) (fd : Int32) (hc : nc < 6) : wk_ki l y_LoopRankerModel_transition (Cond.code y_LoopRankerModel_transition b_LoopRankerModel_transition 2 (some .int) :: BW) rm_LoopRankerModel_transition D cls (kT cI cJ cS) nz [.ref h] (mW cI h m1 p1 q1 r1 w1 o1 f1 s1 nc my fp fq fr up sm top bot lv ol fi se x y fd) (fun wz => wz = mW cI h m1 p1 q1 r1 w1 o1 f1 s1 (nc + 1) (upd my nc 0) fp fq fr (m_tr (6 * nc) 6 0 up) sm top bot lv ol fi se x y fd) (nI nc) := by
  refine ws_i (plainFor_of_name (by decide)) (Nat.le_of_ble_eq_true rfl) ?_
  intro p e s m below meth c A ls Q X hret hl hP hD hS
  obtain ⟨H, hH⟩ : ∃ H, H = s.heap := ⟨_, rfl⟩
  obtain ⟨locs, hlo⟩ : ∃ locs : List Loc, locs = [] := ⟨_, rfl⟩
  have hP : va_P D cls (mW cI h m1 p1 q1 r1 w1 o1 f1 s1 nc my fp fq fr up sm top bot lv ol fi se x y fd) H := by rw [hH]; exact hP
  have hS : va_S A s.heap H locs := by rw [hH, hlo]; exact hS
  suffices hgo : W p l e rm_LoopRankerModel_transition s m ([.ref h] : List Value).toArray below meth c H locs 0 0 Q (F0 m 0 ls ([])) by rw [hH, hlo] at hgo; exact hgo
  clear hH hlo
  have hl : lv_has ls 2 [(0, .ref h)] := hl
  obtain ⟨up0, hup⟩ : ∃ f, f = up := ⟨_, rfl⟩
  refine lv_aload_n X.1.1 X.1.2.1 d_LoopRankerModel_transition_0 rfl (lv_at hl 0 rfl) ?_
  refine fg_LoopRankerModel_34 X hP 0 rfl rfl d_LoopRankerModel_transition_1 ?_
  refine lv_bipush (v := (6 : Int32)) X.1.1 X.1.2.1 d_LoopRankerModel_transition_4 (by decide) ?_
  refine wn_ne (a := nc) (b := 6) (tgt := 11) X.1.1 X.1.2.1 d_LoopRankerModel_transition_6 (by decide) (by omega) (by omega) (fun h6 => ?_) (fun h6 => by exfalso; omega)
  refine lv_aload_n X.1.1 X.1.2.1 d_LoopRankerModel_transition_11 rfl (lv_at hl 0 rfl) ?_
  refine fg_LoopRankerModel_7 X hP 0 rfl rfl d_LoopRankerModel_transition_12 ?_
  refine lv_aload_n X.1.1 X.1.2.1 d_LoopRankerModel_transition_15 rfl (lv_at hl 0 rfl) ?_
  refine fg_LoopRankerModel_34 X hP 0 rfl rfl d_LoopRankerModel_transition_16 ?_
  refine lv_iconst (v := (0 : Int32)) X.1.1 X.1.2.1 d_LoopRankerModel_transition_19 (by decide) ?_
  refine wa_ist X.1.1 X.1.2.1 X.2.1 hP hD hS 1 0 rfl rfl nc rfl (by omega) (by decide) d_LoopRankerModel_transition_20 (fun H locs hP hD hS => ?_)
  have hP : va_P D cls (mW cI h m1 p1 q1 r1 w1 o1 f1 s1 nc (upd my nc (0 : Int32)) fp fq fr up sm top bot lv ol fi se x y fd) H := hP
  have hD : va_D A (mW cI h m1 p1 q1 r1 w1 o1 f1 s1 nc (upd my nc (0 : Int32)) fp fq fr up sm top bot lv ol fi se x y fd) := hD
  refine lv_iconst (v := (0 : Int32)) X.1.1 X.1.2.1 d_LoopRankerModel_transition_21 (by decide) ?_
  refine lv_istore_n X.1.1 X.1.2.1 d_LoopRankerModel_transition_22 rfl hl (by decide) rfl (fun ls hl => ?_)
  have hl : lv_has ls 2 [(1, .int (0 : Int32)), (0, .ref h)] := hl
  have lp23 : ∀ (k23 : Nat) (i : Nat) (up : Nat → Int32) (ls : Array Slot) (H : Heap) (locs : List Loc), i + k23 = 6 → m_tr (6 * nc) k23 i up = m_tr (6 * nc) 6 0 up0 → lv_has ls 2 [(1, .int (nI i)), (0, .ref h)] → va_P D cls (mW cI h m1 p1 q1 r1 w1 o1 f1 s1 nc (upd my nc 0) fp fq fr up sm top bot lv ol fi se x y fd) H → va_D A (mW cI h m1 p1 q1 r1 w1 o1 f1 s1 nc (upd my nc 0) fp fq fr up sm top bot lv ol fi se x y fd) → va_S A s.heap H locs → W p l e rm_LoopRankerModel_transition s m ([.ref h] : List Value).toArray below meth c H locs 0 0 Q (F0 m 23 ls ([])) := by
    intro k23
    induction k23 with
    | zero =>
      intro i up ls H locs hik hE hl hP hD hS
      refine lv_iload_n X.1.1 X.1.2.1 d_LoopRankerModel_transition_23 rfl (lv_at hl 0 rfl) ?_
      refine lv_bipush (v := (6 : Int32)) X.1.1 X.1.2.1 d_LoopRankerModel_transition_24 (by decide) ?_
      refine wn_ge (a := i) (b := 6) (tgt := 63) X.1.1 X.1.2.1 d_LoopRankerModel_transition_26 (by decide) (by omega) (by omega) (fun h26 => ?_) (fun h26 => by exfalso; omega)
      refine lv_aload_n X.1.1 X.1.2.1 d_LoopRankerModel_transition_63 rfl (lv_at hl 1 rfl) ?_
      refine lv_dup X.1.1 X.1.2.1 d_LoopRankerModel_transition_64 rfl ?_
      refine fg_LoopRankerModel_34 X hP 0 rfl rfl d_LoopRankerModel_transition_65 ?_
      refine lv_iconst (v := (1 : Int32)) X.1.1 X.1.2.1 d_LoopRankerModel_transition_68 (by decide) ?_
      refine wn_add (a := nc) (b := 1) X.1.1 X.1.2.1 d_LoopRankerModel_transition_69 ?_
      refine fp_LoopRankerModel_34 X hP hD hS 0 rfl rfl rfl rfl d_LoopRankerModel_transition_70 (fun H locs hP hD hS => ?_)
      have hP : va_P D cls (mW cI h m1 p1 q1 r1 w1 o1 f1 s1 (nc + 1) (upd my nc 0) fp fq fr up sm top bot lv ol fi se x y fd) H := hP
      have hD : va_D A (mW cI h m1 p1 q1 r1 w1 o1 f1 s1 (nc + 1) (upd my nc 0) fp fq fr up sm top bot lv ol fi se x y fd) := hD
      refine lv_aload_n X.1.1 X.1.2.1 d_LoopRankerModel_transition_73 rfl (lv_at hl 1 rfl) ?_
      refine fg_LoopRankerModel_34 X hP 0 rfl rfl d_LoopRankerModel_transition_74 ?_
      refine lv_iconst (v := (1 : Int32)) X.1.1 X.1.2.1 d_LoopRankerModel_transition_77 (by decide) ?_
      refine wn_sub (a := nc + 1) (b := 1) X.1.1 X.1.2.1 d_LoopRankerModel_transition_78 (by omega) ?_
      exact hret 79 H locs ls _ _ hP hD hS d_LoopRankerModel_transition_79 (by first | rfl | (rw [show nc + 1 - 1 = nc by omega])) (by show _ = _; rw [← hup, ← hE]; rfl)
    | succ k23 ih23 =>
      intro i up ls H locs hik hE hl hP hD hS
      refine lv_iload_n X.1.1 X.1.2.1 d_LoopRankerModel_transition_23 rfl (lv_at hl 0 rfl) ?_
      refine lv_bipush (v := (6 : Int32)) X.1.1 X.1.2.1 d_LoopRankerModel_transition_24 (by decide) ?_
      refine wn_ge (a := i) (b := 6) (tgt := 63) X.1.1 X.1.2.1 d_LoopRankerModel_transition_26 (by decide) (by omega) (by omega) (fun h26 => by exfalso; omega) (fun h26 => ?_)
      refine lv_aload_n X.1.1 X.1.2.1 d_LoopRankerModel_transition_29 rfl (lv_at hl 1 rfl) ?_
      refine fg_LoopRankerModel_22 X hP 0 rfl rfl d_LoopRankerModel_transition_30 ?_
      refine lv_bipush (v := (6 : Int32)) X.1.1 X.1.2.1 d_LoopRankerModel_transition_33 (by decide) ?_
      refine lv_aload_n X.1.1 X.1.2.1 d_LoopRankerModel_transition_35 rfl (lv_at hl 1 rfl) ?_
      refine fg_LoopRankerModel_34 X hP 0 rfl rfl d_LoopRankerModel_transition_36 ?_
      refine wn_mul (a := 6) (b := nc) X.1.1 X.1.2.1 d_LoopRankerModel_transition_39 ?_
      refine lv_iload_n X.1.1 X.1.2.1 d_LoopRankerModel_transition_40 rfl (lv_at hl 0 rfl) ?_
      refine wn_add (a := 6 * nc) (b := i) X.1.1 X.1.2.1 d_LoopRankerModel_transition_41 ?_
      refine lv_iload_n X.1.1 X.1.2.1 d_LoopRankerModel_transition_42 rfl (lv_at hl 0 rfl) ?_
      have jn56 : ∀ (z : Int32) (H : Heap) (locs : List Loc), z = (if i = 0 then 1 else if i = 4 then 1 else 0) → va_P D cls (mW cI h m1 p1 q1 r1 w1 o1 f1 s1 nc (upd my nc 0) fp fq fr up sm top bot lv ol fi se x y fd) H → va_S A s.heap H locs → W p l e rm_LoopRankerModel_transition s m ([.ref h] : List Value).toArray below meth c H locs 0 0 Q (F0 m 56 ls (.int z :: .int (nI (6 * nc + i)) :: .ref w1 :: [])) := by
        intro z H locs ez hP hS
        refine wa_ist X.1.1 X.1.2.1 X.2.1 hP hD hS 5 0 rfl rfl (6 * nc + i) rfl (by omega) (by decide) d_LoopRankerModel_transition_56 (fun H locs hP hD hS => ?_)
        have hP : va_P D cls (mW cI h m1 p1 q1 r1 w1 o1 f1 s1 nc (upd my nc 0) fp fq fr (upd up (6 * nc + i) z) sm top bot lv ol fi se x y fd) H := hP
        have hD : va_D A (mW cI h m1 p1 q1 r1 w1 o1 f1 s1 nc (upd my nc 0) fp fq fr (upd up (6 * nc + i) z) sm top bot lv ol fi se x y fd) := hD
        refine lv_iinc (k := 0) (v := nI (i + 1)) X.1.1 X.1.2.1 d_LoopRankerModel_transition_57 hl rfl (nI_1 i) (by decide) rfl (fun ls hl => ?_)
        have hl : lv_has ls 2 [(1, .int (nI (i + 1))), (0, .ref h)] := hl
        refine lv_goto (tgt := 23) X.1.1 X.1.2.1 d_LoopRankerModel_transition_60 (by decide) ?_
        exact ih23 (i + 1) _ ls H locs (by omega) (by rw [← hE, ez]; rfl) (lv_sub hl [0, 1] rfl) hP hD hS
      refine wn_if_eq (a := i) (tgt := 51) X.1.1 X.1.2.1 d_LoopRankerModel_transition_43 (by decide) (by omega) (fun h43 => ?_) (fun h43 => ?_)
      · refine lv_iconst (v := (1 : Int32)) X.1.1 X.1.2.1 d_LoopRankerModel_transition_51 (by decide) ?_
        refine lv_goto (tgt := 56) X.1.1 X.1.2.1 d_LoopRankerModel_transition_52 (by decide) ?_
        exact jn56 _ H locs (by first | (simp only [if_pos h43]; done) | simp [h43]) hP hS
      · refine lv_iload_n X.1.1 X.1.2.1 d_LoopRankerModel_transition_46 rfl (lv_at hl 0 rfl) ?_
        refine lv_iconst (v := (4 : Int32)) X.1.1 X.1.2.1 d_LoopRankerModel_transition_47 (by decide) ?_
        refine wn_ne (a := i) (b := 4) (tgt := 55) X.1.1 X.1.2.1 d_LoopRankerModel_transition_48 (by decide) (by omega) (by omega) (fun h48 => ?_) (fun h48 => ?_)
        · refine lv_iconst (v := (0 : Int32)) X.1.1 X.1.2.1 d_LoopRankerModel_transition_55 (by decide) ?_
          exact jn56 _ H locs (by first | (simp only [if_neg h43, if_neg h48]; done) | simp [h43, h48]) hP hS
        · refine lv_iconst (v := (1 : Int32)) X.1.1 X.1.2.1 d_LoopRankerModel_transition_51 (by decide) ?_
          refine lv_goto (tgt := 56) X.1.1 X.1.2.1 d_LoopRankerModel_transition_52 (by decide) ?_
          exact jn56 _ H locs (by first | (simp only [if_neg h43, if_pos h48]; done) | simp [h43, h48]) hP hS
  exact lp23 6 0 up ls H locs (by omega) (by rw [hup]) (lv_sub hl [0, 1] rfl) hP hD hS
set_option maxHeartbeats 4000000 in
set_option maxRecDepth 100000 in
theorem c_LoopRankerModel_guard_bad (h m1 p1 q1 r1 w1 o1 f1 s1 : Nat) (nc : Nat) (my fp fq fr up : Nat → Int32) (sm : Int32) (top bot : Int64) (lv : Nat) (ol fi se : Nat → Int32) (x y : Int64) (fd : Int32) (t gp gq gr : Int32) (hbad : m_th nc t = 0) : wk_ki l y_LoopRankerModel_guard (Cond.code y_LoopRankerModel_guard b_LoopRankerModel_guard 6 (some .int) :: BW) rm_LoopRankerModel_guard D cls (kT cI cJ cS) nz [.ref h, .int t, .int gp, .int gq, .int gr] (mW cI h m1 p1 q1 r1 w1 o1 f1 s1 nc my fp fq fr up sm top bot lv ol fi se x y fd) (fun wz => wz = mW cI h m1 p1 q1 r1 w1 o1 f1 s1 nc my fp fq fr up sm top bot lv ol fi se x y fd) (-1) := by
  refine ws_i (plainFor_of_name (by decide)) (Nat.le_of_ble_eq_true rfl) ?_
  intro p e s m below meth c A ls Q X hret hl hP hD hS
  obtain ⟨H, hH⟩ : ∃ H, H = s.heap := ⟨_, rfl⟩
  obtain ⟨locs, hlo⟩ : ∃ locs : List Loc, locs = [] := ⟨_, rfl⟩
  have hP : va_P D cls (mW cI h m1 p1 q1 r1 w1 o1 f1 s1 nc my fp fq fr up sm top bot lv ol fi se x y fd) H := by rw [hH]; exact hP
  have hS : va_S A s.heap H locs := by rw [hH, hlo]; exact hS
  suffices hgo : W p l e rm_LoopRankerModel_guard s m ([.ref h, .int t, .int gp, .int gq, .int gr] : List Value).toArray below meth c H locs 0 0 Q (F0 m 0 ls ([])) by rw [hH, hlo] at hgo; exact hgo
  clear hH hlo
  have hl : lv_has ls 6 [(0, .ref h), (1, .int t), (2, .int gp), (3, .int gq), (4, .int gr)] := hl
  refine lv_aload_n X.1.1 X.1.2.1 d_LoopRankerModel_guard_0 rfl (lv_at hl 0 rfl) ?_
  refine lv_iload_n X.1.1 X.1.2.1 d_LoopRankerModel_guard_1 rfl (lv_at hl 1 rfl) ?_
  refine wc_Vi [.int t] 4 0 X nz_nest (c_LoopRankerModel_there h m1 p1 q1 r1 w1 o1 f1 s1 nc my fp fq fr up sm top bot lv ol fi se x y fd t ) (cw_LoopRankerModel_38 X.1.2.2.2.2 X.2.2.1 (by decide)) ([]) ([]) (rfl) hP hD hS rfl rfl rfl rfl hl.1 (Nat.le_of_ble_eq_true rfl) (by decide) d_LoopRankerModel_guard_2 (fun H locs wn hwn hP hD hS => ?_)
  subst hwn
  have hP : va_P D cls (mW cI h m1 p1 q1 r1 w1 o1 f1 s1 nc my fp fq fr up sm top bot lv ol fi se x y fd) H := hP
  have hD : va_D A (mW cI h m1 p1 q1 r1 w1 o1 f1 s1 nc my fp fq fr up sm top bot lv ol fi se x y fd) := hD
  refine wi0_eq (tgt := 46) X.1.1 X.1.2.1 d_LoopRankerModel_guard_5 (by decide) (fun h5 => ?_) (fun h5 => absurd hbad h5)
  refine lv_iconst (v := (-1 : Int32)) X.1.1 X.1.2.1 d_LoopRankerModel_guard_46 (by decide) ?_
  exact hret 47 H locs ls _ _ hP hD hS d_LoopRankerModel_guard_47 (rfl) (rfl)
set_option maxHeartbeats 4000000 in
set_option maxRecDepth 100000 in
theorem c_LoopRankerModel_guard_no (h m1 p1 q1 r1 w1 o1 f1 s1 : Nat) (nc : Nat) (my fp fq fr up : Nat → Int32) (sm : Int32) (top bot : Int64) (lv : Nat) (ol fi se : Nat → Int32) (x y : Int64) (fd : Int32) (t : Nat) (gp gq gr : Int32) (d : Nat) (hm : my t = nI d) (ht : t < nc) (hc : nc ≤ 6) (hd : d ≤ 4) (hno : d = 4 ∨ m_wi gp 9 = 0 ∨ m_wi gq 9 = 0 ∨ m_wi gr 99 = 0) : wk_ki l y_LoopRankerModel_guard (Cond.code y_LoopRankerModel_guard b_LoopRankerModel_guard 6 (some .int) :: BW) rm_LoopRankerModel_guard D cls (kT cI cJ cS) nz [.ref h, .int (nI t), .int gp, .int gq, .int gr] (mW cI h m1 p1 q1 r1 w1 o1 f1 s1 nc my fp fq fr up sm top bot lv ol fi se x y fd) (fun wz => wz = mW cI h m1 p1 q1 r1 w1 o1 f1 s1 nc my fp fq fr up sm top bot lv ol fi se x y fd) (-1) := by
  refine ws_i (plainFor_of_name (by decide)) (Nat.le_of_ble_eq_true rfl) ?_
  intro p e s m below meth c A ls Q X hret hl hP hD hS
  obtain ⟨H, hH⟩ : ∃ H, H = s.heap := ⟨_, rfl⟩
  obtain ⟨locs, hlo⟩ : ∃ locs : List Loc, locs = [] := ⟨_, rfl⟩
  have hP : va_P D cls (mW cI h m1 p1 q1 r1 w1 o1 f1 s1 nc my fp fq fr up sm top bot lv ol fi se x y fd) H := by rw [hH]; exact hP
  have hS : va_S A s.heap H locs := by rw [hH, hlo]; exact hS
  suffices hgo : W p l e rm_LoopRankerModel_guard s m ([.ref h, .int (nI t), .int gp, .int gq, .int gr] : List Value).toArray below meth c H locs 0 0 Q (F0 m 0 ls ([])) by rw [hH, hlo] at hgo; exact hgo
  clear hH hlo
  have hl : lv_has ls 6 [(0, .ref h), (1, .int (nI t)), (2, .int gp), (3, .int gq), (4, .int gr)] := hl
  refine lv_aload_n X.1.1 X.1.2.1 d_LoopRankerModel_guard_0 rfl (lv_at hl 0 rfl) ?_
  refine lv_iload_n X.1.1 X.1.2.1 d_LoopRankerModel_guard_1 rfl (lv_at hl 1 rfl) ?_
  refine wc_Vi [.int (nI t)] 4 0 X nz_nest (c_LoopRankerModel_there h m1 p1 q1 r1 w1 o1 f1 s1 nc my fp fq fr up sm top bot lv ol fi se x y fd (nI t) ) (cw_LoopRankerModel_38 X.1.2.2.2.2 X.2.2.1 (by decide)) ([]) ([]) (rfl) hP hD hS rfl rfl rfl rfl hl.1 (Nat.le_of_ble_eq_true rfl) (by decide) d_LoopRankerModel_guard_2 (fun H locs wn hwn hP hD hS => ?_)
  subst hwn
  have hP : va_P D cls (mW cI h m1 p1 q1 r1 w1 o1 f1 s1 nc my fp fq fr up sm top bot lv ol fi se x y fd) H := hP
  have hD : va_D A (mW cI h m1 p1 q1 r1 w1 o1 f1 s1 nc my fp fq fr up sm top bot lv ol fi se x y fd) := hD
  refine wi0_eq (tgt := 46) X.1.1 X.1.2.1 d_LoopRankerModel_guard_5 (by decide) (fun h5 => absurd h5 (by rw [m_th_1 (by omega) (by omega)]; decide)) (fun h5 => ?_)
  refine lv_aload_n X.1.1 X.1.2.1 d_LoopRankerModel_guard_8 rfl (lv_at hl 0 rfl) ?_
  refine fg_LoopRankerModel_7 X hP 0 rfl rfl d_LoopRankerModel_guard_9 ?_
  refine lv_iload_n X.1.1 X.1.2.1 d_LoopRankerModel_guard_12 rfl (lv_at hl 1 rfl) ?_
  refine wa_ild X.1.1 X.1.2.1 X.2.1 hP 1 0 rfl rfl t rfl (by omega) (by decide) d_LoopRankerModel_guard_13 ?_
  refine wn_top hm ?_
  refine lv_iconst (v := (4 : Int32)) X.1.1 X.1.2.1 d_LoopRankerModel_guard_14 (by decide) ?_
  refine wn_eq (a := d) (b := 4) (tgt := 46) X.1.1 X.1.2.1 d_LoopRankerModel_guard_15 (by decide) (by omega) (by omega) (fun h15 => ?_) (fun h15 => ?_)
  · refine lv_iconst (v := (-1 : Int32)) X.1.1 X.1.2.1 d_LoopRankerModel_guard_46 (by decide) ?_
    exact hret 47 H locs ls _ _ hP hD hS d_LoopRankerModel_guard_47 (rfl) (rfl)
  · refine lv_iload_n X.1.1 X.1.2.1 d_LoopRankerModel_guard_18 rfl (lv_at hl 2 rfl) ?_
    refine lv_bipush (v := (9 : Int32)) X.1.1 X.1.2.1 d_LoopRankerModel_guard_19 (by decide) ?_
    refine wc_Si [.int gp, .int (9 : Int32)] X nz_nest (c_LoopRankerModel_within gp (9 : Int32) ) (cw_LoopRankerModel_42 X.1.2.2.2.2 X.2.2.1 (by decide)) (mW cI h m1 p1 q1 r1 w1 o1 f1 s1 nc my fp fq fr up sm top bot lv ol fi se x y fd) ([]) (rfl) hP hD hS rfl rfl hl.1 (Nat.le_of_ble_eq_true rfl) (by decide) d_LoopRankerModel_guard_21 (fun H locs wn hwn hP hD hS => ?_)
    subst hwn
    have hP : va_P D cls (mW cI h m1 p1 q1 r1 w1 o1 f1 s1 nc my fp fq fr up sm top bot lv ol fi se x y fd) H := hP
    have hD : va_D A (mW cI h m1 p1 q1 r1 w1 o1 f1 s1 nc my fp fq fr up sm top bot lv ol fi se x y fd) := hD
    refine wi0_eq (tgt := 46) X.1.1 X.1.2.1 d_LoopRankerModel_guard_24 (by decide) (fun h24 => ?_) (fun h24 => ?_)
    · refine lv_iconst (v := (-1 : Int32)) X.1.1 X.1.2.1 d_LoopRankerModel_guard_46 (by decide) ?_
      exact hret 47 H locs ls _ _ hP hD hS d_LoopRankerModel_guard_47 (rfl) (rfl)
    · refine lv_iload_n X.1.1 X.1.2.1 d_LoopRankerModel_guard_27 rfl (lv_at hl 3 rfl) ?_
      refine lv_bipush (v := (9 : Int32)) X.1.1 X.1.2.1 d_LoopRankerModel_guard_28 (by decide) ?_
      refine wc_Si [.int gq, .int (9 : Int32)] X nz_nest (c_LoopRankerModel_within gq (9 : Int32) ) (cw_LoopRankerModel_42 X.1.2.2.2.2 X.2.2.1 (by decide)) (mW cI h m1 p1 q1 r1 w1 o1 f1 s1 nc my fp fq fr up sm top bot lv ol fi se x y fd) ([]) (rfl) hP hD hS rfl rfl hl.1 (Nat.le_of_ble_eq_true rfl) (by decide) d_LoopRankerModel_guard_30 (fun H locs wn hwn hP hD hS => ?_)
      subst hwn
      have hP : va_P D cls (mW cI h m1 p1 q1 r1 w1 o1 f1 s1 nc my fp fq fr up sm top bot lv ol fi se x y fd) H := hP
      have hD : va_D A (mW cI h m1 p1 q1 r1 w1 o1 f1 s1 nc my fp fq fr up sm top bot lv ol fi se x y fd) := hD
      refine wi0_eq (tgt := 46) X.1.1 X.1.2.1 d_LoopRankerModel_guard_33 (by decide) (fun h33 => ?_) (fun h33 => ?_)
      · refine lv_iconst (v := (-1 : Int32)) X.1.1 X.1.2.1 d_LoopRankerModel_guard_46 (by decide) ?_
        exact hret 47 H locs ls _ _ hP hD hS d_LoopRankerModel_guard_47 (rfl) (rfl)
      · refine lv_iload X.1.1 X.1.2.1 d_LoopRankerModel_guard_36 (lv_at hl 4 rfl) ?_
        refine lv_bipush (v := (99 : Int32)) X.1.1 X.1.2.1 d_LoopRankerModel_guard_38 (by decide) ?_
        refine wc_Si [.int gr, .int (99 : Int32)] X nz_nest (c_LoopRankerModel_within gr (99 : Int32) ) (cw_LoopRankerModel_42 X.1.2.2.2.2 X.2.2.1 (by decide)) (mW cI h m1 p1 q1 r1 w1 o1 f1 s1 nc my fp fq fr up sm top bot lv ol fi se x y fd) ([]) (rfl) hP hD hS rfl rfl hl.1 (Nat.le_of_ble_eq_true rfl) (by decide) d_LoopRankerModel_guard_40 (fun H locs wn hwn hP hD hS => ?_)
        subst hwn
        have hP : va_P D cls (mW cI h m1 p1 q1 r1 w1 o1 f1 s1 nc my fp fq fr up sm top bot lv ol fi se x y fd) H := hP
        have hD : va_D A (mW cI h m1 p1 q1 r1 w1 o1 f1 s1 nc my fp fq fr up sm top bot lv ol fi se x y fd) := hD
        refine wi0_ne (tgt := 48) X.1.1 X.1.2.1 d_LoopRankerModel_guard_43 (by decide) (fun h43 => absurd hno (by rintro (z | z | z | z) <;> first | omega | simp_all)) (fun h43 => ?_)
        refine lv_iconst (v := (-1 : Int32)) X.1.1 X.1.2.1 d_LoopRankerModel_guard_46 (by decide) ?_
        exact hret 47 H locs ls _ _ hP hD hS d_LoopRankerModel_guard_47 (rfl) (rfl)
set_option maxHeartbeats 4000000 in
set_option maxRecDepth 100000 in
theorem c_LoopRankerModel_guard (h m1 p1 q1 r1 w1 o1 f1 s1 : Nat) (nc : Nat) (my fp fq fr up : Nat → Int32) (sm : Int32) (top bot : Int64) (lv : Nat) (ol fi se : Nat → Int32) (x y : Int64) (fd : Int32) (t : Nat) (gp gq gr : Int32) (d : Nat) (hm : my t = nI d) (ht : t < nc) (hc : nc ≤ 6) (hd : d ≤ 4) (h4 : d < 4) (hok : ¬ (m_wi gp 9 = 0 ∨ m_wi gq 9 = 0 ∨ m_wi gr 99 = 0)) : wk_ki l y_LoopRankerModel_guard (Cond.code y_LoopRankerModel_guard b_LoopRankerModel_guard 6 (some .int) :: BW) rm_LoopRankerModel_guard D cls (kT cI cJ cS) nz [.ref h, .int (nI t), .int gp, .int gq, .int gr] (mW cI h m1 p1 q1 r1 w1 o1 f1 s1 nc my fp fq fr up sm top bot lv ol fi se x y fd) (fun wz => wz = mW cI h m1 p1 q1 r1 w1 o1 f1 s1 nc (upd my t (nI (d + 1))) (upd fp (4 * t + d) gp) (upd fq (4 * t + d) gq) (upd fr (4 * t + d) gr) up sm top bot lv ol fi se x y fd) (nI (d + 1)) := by
  refine ws_i (plainFor_of_name (by decide)) (Nat.le_of_ble_eq_true rfl) ?_
  intro p e s m below meth c A ls Q X hret hl hP hD hS
  obtain ⟨H, hH⟩ : ∃ H, H = s.heap := ⟨_, rfl⟩
  obtain ⟨locs, hlo⟩ : ∃ locs : List Loc, locs = [] := ⟨_, rfl⟩
  have hP : va_P D cls (mW cI h m1 p1 q1 r1 w1 o1 f1 s1 nc my fp fq fr up sm top bot lv ol fi se x y fd) H := by rw [hH]; exact hP
  have hS : va_S A s.heap H locs := by rw [hH, hlo]; exact hS
  suffices hgo : W p l e rm_LoopRankerModel_guard s m ([.ref h, .int (nI t), .int gp, .int gq, .int gr] : List Value).toArray below meth c H locs 0 0 Q (F0 m 0 ls ([])) by rw [hH, hlo] at hgo; exact hgo
  clear hH hlo
  have hl : lv_has ls 6 [(0, .ref h), (1, .int (nI t)), (2, .int gp), (3, .int gq), (4, .int gr)] := hl
  refine lv_aload_n X.1.1 X.1.2.1 d_LoopRankerModel_guard_0 rfl (lv_at hl 0 rfl) ?_
  refine lv_iload_n X.1.1 X.1.2.1 d_LoopRankerModel_guard_1 rfl (lv_at hl 1 rfl) ?_
  refine wc_Vi [.int (nI t)] 4 0 X nz_nest (c_LoopRankerModel_there h m1 p1 q1 r1 w1 o1 f1 s1 nc my fp fq fr up sm top bot lv ol fi se x y fd (nI t) ) (cw_LoopRankerModel_38 X.1.2.2.2.2 X.2.2.1 (by decide)) ([]) ([]) (rfl) hP hD hS rfl rfl rfl rfl hl.1 (Nat.le_of_ble_eq_true rfl) (by decide) d_LoopRankerModel_guard_2 (fun H locs wn hwn hP hD hS => ?_)
  subst hwn
  have hP : va_P D cls (mW cI h m1 p1 q1 r1 w1 o1 f1 s1 nc my fp fq fr up sm top bot lv ol fi se x y fd) H := hP
  have hD : va_D A (mW cI h m1 p1 q1 r1 w1 o1 f1 s1 nc my fp fq fr up sm top bot lv ol fi se x y fd) := hD
  refine wi0_eq (tgt := 46) X.1.1 X.1.2.1 d_LoopRankerModel_guard_5 (by decide) (fun h5 => absurd h5 (by rw [m_th_1 (by omega) (by omega)]; decide)) (fun h5 => ?_)
  refine lv_aload_n X.1.1 X.1.2.1 d_LoopRankerModel_guard_8 rfl (lv_at hl 0 rfl) ?_
  refine fg_LoopRankerModel_7 X hP 0 rfl rfl d_LoopRankerModel_guard_9 ?_
  refine lv_iload_n X.1.1 X.1.2.1 d_LoopRankerModel_guard_12 rfl (lv_at hl 1 rfl) ?_
  refine wa_ild X.1.1 X.1.2.1 X.2.1 hP 1 0 rfl rfl t rfl (by omega) (by decide) d_LoopRankerModel_guard_13 ?_
  refine wn_top hm ?_
  refine lv_iconst (v := (4 : Int32)) X.1.1 X.1.2.1 d_LoopRankerModel_guard_14 (by decide) ?_
  refine wn_eq (a := d) (b := 4) (tgt := 46) X.1.1 X.1.2.1 d_LoopRankerModel_guard_15 (by decide) (by omega) (by omega) (fun h15 => by exfalso; omega) (fun h15 => ?_)
  refine lv_iload_n X.1.1 X.1.2.1 d_LoopRankerModel_guard_18 rfl (lv_at hl 2 rfl) ?_
  refine lv_bipush (v := (9 : Int32)) X.1.1 X.1.2.1 d_LoopRankerModel_guard_19 (by decide) ?_
  refine wc_Si [.int gp, .int (9 : Int32)] X nz_nest (c_LoopRankerModel_within gp (9 : Int32) ) (cw_LoopRankerModel_42 X.1.2.2.2.2 X.2.2.1 (by decide)) (mW cI h m1 p1 q1 r1 w1 o1 f1 s1 nc my fp fq fr up sm top bot lv ol fi se x y fd) ([]) (rfl) hP hD hS rfl rfl hl.1 (Nat.le_of_ble_eq_true rfl) (by decide) d_LoopRankerModel_guard_21 (fun H locs wn hwn hP hD hS => ?_)
  subst hwn
  have hP : va_P D cls (mW cI h m1 p1 q1 r1 w1 o1 f1 s1 nc my fp fq fr up sm top bot lv ol fi se x y fd) H := hP
  have hD : va_D A (mW cI h m1 p1 q1 r1 w1 o1 f1 s1 nc my fp fq fr up sm top bot lv ol fi se x y fd) := hD
  refine wi0_eq (tgt := 46) X.1.1 X.1.2.1 d_LoopRankerModel_guard_24 (by decide) (fun h24 => absurd (by simp [h24]) hok) (fun h24 => ?_)
  refine lv_iload_n X.1.1 X.1.2.1 d_LoopRankerModel_guard_27 rfl (lv_at hl 3 rfl) ?_
  refine lv_bipush (v := (9 : Int32)) X.1.1 X.1.2.1 d_LoopRankerModel_guard_28 (by decide) ?_
  refine wc_Si [.int gq, .int (9 : Int32)] X nz_nest (c_LoopRankerModel_within gq (9 : Int32) ) (cw_LoopRankerModel_42 X.1.2.2.2.2 X.2.2.1 (by decide)) (mW cI h m1 p1 q1 r1 w1 o1 f1 s1 nc my fp fq fr up sm top bot lv ol fi se x y fd) ([]) (rfl) hP hD hS rfl rfl hl.1 (Nat.le_of_ble_eq_true rfl) (by decide) d_LoopRankerModel_guard_30 (fun H locs wn hwn hP hD hS => ?_)
  subst hwn
  have hP : va_P D cls (mW cI h m1 p1 q1 r1 w1 o1 f1 s1 nc my fp fq fr up sm top bot lv ol fi se x y fd) H := hP
  have hD : va_D A (mW cI h m1 p1 q1 r1 w1 o1 f1 s1 nc my fp fq fr up sm top bot lv ol fi se x y fd) := hD
  refine wi0_eq (tgt := 46) X.1.1 X.1.2.1 d_LoopRankerModel_guard_33 (by decide) (fun h33 => absurd (by simp [h33]) hok) (fun h33 => ?_)
  refine lv_iload X.1.1 X.1.2.1 d_LoopRankerModel_guard_36 (lv_at hl 4 rfl) ?_
  refine lv_bipush (v := (99 : Int32)) X.1.1 X.1.2.1 d_LoopRankerModel_guard_38 (by decide) ?_
  refine wc_Si [.int gr, .int (99 : Int32)] X nz_nest (c_LoopRankerModel_within gr (99 : Int32) ) (cw_LoopRankerModel_42 X.1.2.2.2.2 X.2.2.1 (by decide)) (mW cI h m1 p1 q1 r1 w1 o1 f1 s1 nc my fp fq fr up sm top bot lv ol fi se x y fd) ([]) (rfl) hP hD hS rfl rfl hl.1 (Nat.le_of_ble_eq_true rfl) (by decide) d_LoopRankerModel_guard_40 (fun H locs wn hwn hP hD hS => ?_)
  subst hwn
  have hP : va_P D cls (mW cI h m1 p1 q1 r1 w1 o1 f1 s1 nc my fp fq fr up sm top bot lv ol fi se x y fd) H := hP
  have hD : va_D A (mW cI h m1 p1 q1 r1 w1 o1 f1 s1 nc my fp fq fr up sm top bot lv ol fi se x y fd) := hD
  refine wi0_ne (tgt := 48) X.1.1 X.1.2.1 d_LoopRankerModel_guard_43 (by decide) (fun h43 => ?_) (fun h43 => absurd (by simp [h43]) hok)
  refine lv_iconst (v := (4 : Int32)) X.1.1 X.1.2.1 d_LoopRankerModel_guard_48 (by decide) ?_
  refine lv_iload_n X.1.1 X.1.2.1 d_LoopRankerModel_guard_49 rfl (lv_at hl 1 rfl) ?_
  refine wn_mul (a := 4) (b := t) X.1.1 X.1.2.1 d_LoopRankerModel_guard_50 ?_
  refine lv_aload_n X.1.1 X.1.2.1 d_LoopRankerModel_guard_51 rfl (lv_at hl 0 rfl) ?_
  refine fg_LoopRankerModel_7 X hP 0 rfl rfl d_LoopRankerModel_guard_52 ?_
  refine lv_iload_n X.1.1 X.1.2.1 d_LoopRankerModel_guard_55 rfl (lv_at hl 1 rfl) ?_
  refine wa_ild X.1.1 X.1.2.1 X.2.1 hP 1 0 rfl rfl t rfl (by omega) (by decide) d_LoopRankerModel_guard_56 ?_
  refine wn_top hm ?_
  refine wn_add (a := 4 * t) (b := d) X.1.1 X.1.2.1 d_LoopRankerModel_guard_57 ?_
  refine lv_istore X.1.1 X.1.2.1 d_LoopRankerModel_guard_58 hl (by decide) rfl (fun ls hl => ?_)
  have hl : lv_has ls 6 [(5, .int (nI (4 * t + d))), (0, .ref h), (1, .int (nI t)), (2, .int gp), (3, .int gq), (4, .int gr)] := hl
  refine lv_aload_n X.1.1 X.1.2.1 d_LoopRankerModel_guard_60 rfl (lv_at hl 1 rfl) ?_
  refine fg_LoopRankerModel_13 X hP 0 rfl rfl d_LoopRankerModel_guard_61 ?_
  refine lv_iload X.1.1 X.1.2.1 d_LoopRankerModel_guard_64 (lv_at hl 0 rfl) ?_
  refine lv_iload_n X.1.1 X.1.2.1 d_LoopRankerModel_guard_66 rfl (lv_at hl 3 rfl) ?_
  refine wa_ist X.1.1 X.1.2.1 X.2.1 hP hD hS 2 0 rfl rfl (4 * t + d) rfl (by omega) (by decide) d_LoopRankerModel_guard_67 (fun H locs hP hD hS => ?_)
  have hP : va_P D cls (mW cI h m1 p1 q1 r1 w1 o1 f1 s1 nc my (upd fp (4 * t + d) gp) fq fr up sm top bot lv ol fi se x y fd) H := hP
  have hD : va_D A (mW cI h m1 p1 q1 r1 w1 o1 f1 s1 nc my (upd fp (4 * t + d) gp) fq fr up sm top bot lv ol fi se x y fd) := hD
  refine lv_aload_n X.1.1 X.1.2.1 d_LoopRankerModel_guard_68 rfl (lv_at hl 1 rfl) ?_
  refine fg_LoopRankerModel_16 X hP 0 rfl rfl d_LoopRankerModel_guard_69 ?_
  refine lv_iload X.1.1 X.1.2.1 d_LoopRankerModel_guard_72 (lv_at hl 0 rfl) ?_
  refine lv_iload_n X.1.1 X.1.2.1 d_LoopRankerModel_guard_74 rfl (lv_at hl 4 rfl) ?_
  refine wa_ist X.1.1 X.1.2.1 X.2.1 hP hD hS 3 0 rfl rfl (4 * t + d) rfl (by omega) (by decide) d_LoopRankerModel_guard_75 (fun H locs hP hD hS => ?_)
  have hP : va_P D cls (mW cI h m1 p1 q1 r1 w1 o1 f1 s1 nc my (upd fp (4 * t + d) gp) (upd fq (4 * t + d) gq) fr up sm top bot lv ol fi se x y fd) H := hP
  have hD : va_D A (mW cI h m1 p1 q1 r1 w1 o1 f1 s1 nc my (upd fp (4 * t + d) gp) (upd fq (4 * t + d) gq) fr up sm top bot lv ol fi se x y fd) := hD
  refine lv_aload_n X.1.1 X.1.2.1 d_LoopRankerModel_guard_76 rfl (lv_at hl 1 rfl) ?_
  refine fg_LoopRankerModel_19 X hP 0 rfl rfl d_LoopRankerModel_guard_77 ?_
  refine lv_iload X.1.1 X.1.2.1 d_LoopRankerModel_guard_80 (lv_at hl 0 rfl) ?_
  refine lv_iload X.1.1 X.1.2.1 d_LoopRankerModel_guard_82 (lv_at hl 5 rfl) ?_
  refine wa_ist X.1.1 X.1.2.1 X.2.1 hP hD hS 4 0 rfl rfl (4 * t + d) rfl (by omega) (by decide) d_LoopRankerModel_guard_84 (fun H locs hP hD hS => ?_)
  have hP : va_P D cls (mW cI h m1 p1 q1 r1 w1 o1 f1 s1 nc my (upd fp (4 * t + d) gp) (upd fq (4 * t + d) gq) (upd fr (4 * t + d) gr) up sm top bot lv ol fi se x y fd) H := hP
  have hD : va_D A (mW cI h m1 p1 q1 r1 w1 o1 f1 s1 nc my (upd fp (4 * t + d) gp) (upd fq (4 * t + d) gq) (upd fr (4 * t + d) gr) up sm top bot lv ol fi se x y fd) := hD
  refine lv_aload_n X.1.1 X.1.2.1 d_LoopRankerModel_guard_85 rfl (lv_at hl 1 rfl) ?_
  refine fg_LoopRankerModel_7 X hP 0 rfl rfl d_LoopRankerModel_guard_86 ?_
  refine lv_iload_n X.1.1 X.1.2.1 d_LoopRankerModel_guard_89 rfl (lv_at hl 2 rfl) ?_
  refine lv_dup2_11 X.1.1 X.1.2.1 d_LoopRankerModel_guard_90 rfl rfl ?_
  refine wa_ild X.1.1 X.1.2.1 X.2.1 hP 1 0 rfl rfl t rfl (by omega) (by decide) d_LoopRankerModel_guard_91 ?_
  refine wn_top hm ?_
  refine lv_iconst (v := (1 : Int32)) X.1.1 X.1.2.1 d_LoopRankerModel_guard_92 (by decide) ?_
  refine wn_add (a := d) (b := 1) X.1.1 X.1.2.1 d_LoopRankerModel_guard_93 ?_
  refine wa_ist X.1.1 X.1.2.1 X.2.1 hP hD hS 1 0 rfl rfl t rfl (by omega) (by decide) d_LoopRankerModel_guard_94 (fun H locs hP hD hS => ?_)
  have hP : va_P D cls (mW cI h m1 p1 q1 r1 w1 o1 f1 s1 nc (upd my t (nI (d + 1))) (upd fp (4 * t + d) gp) (upd fq (4 * t + d) gq) (upd fr (4 * t + d) gr) up sm top bot lv ol fi se x y fd) H := hP
  have hD : va_D A (mW cI h m1 p1 q1 r1 w1 o1 f1 s1 nc (upd my t (nI (d + 1))) (upd fp (4 * t + d) gp) (upd fq (4 * t + d) gq) (upd fr (4 * t + d) gr) up sm top bot lv ol fi se x y fd) := hD
  refine lv_aload_n X.1.1 X.1.2.1 d_LoopRankerModel_guard_95 rfl (lv_at hl 1 rfl) ?_
  refine fg_LoopRankerModel_7 X hP 0 rfl rfl d_LoopRankerModel_guard_96 ?_
  refine lv_iload_n X.1.1 X.1.2.1 d_LoopRankerModel_guard_99 rfl (lv_at hl 2 rfl) ?_
  refine wa_ild X.1.1 X.1.2.1 X.2.1 hP 1 0 rfl rfl t rfl (by omega) (by decide) d_LoopRankerModel_guard_100 ?_
  exact hret 101 H locs ls _ _ hP hD hS d_LoopRankerModel_guard_101 (by rw [pk_us]) (rfl)
set_option maxHeartbeats 4000000 in
set_option maxRecDepth 100000 in
theorem c_LoopRankerModel_greatest_bad (h m1 p1 q1 r1 w1 o1 f1 s1 : Nat) (nc : Nat) (my fp fq fr up : Nat → Int32) (sm : Int32) (top bot : Int64) (lv : Nat) (ol fi se : Nat → Int32) (x y : Int64) (fd : Int32) (t u v : Int32) (hbad : m_th nc t = 0) : wk_kl l y_LoopRankerModel_greatest (Cond.code y_LoopRankerModel_greatest b_LoopRankerModel_greatest 4 (some .long) :: BW) rm_LoopRankerModel_greatest D cls (kT cI cJ cS) nz [.ref h, .int t, .int u, .int v] (mW cI h m1 p1 q1 r1 w1 o1 f1 s1 nc my fp fq fr up sm top bot lv ol fi se x y fd) (fun wz => wz = mW cI h m1 p1 q1 r1 w1 o1 f1 s1 nc my fp fq fr up sm top bot lv ol fi se x y fd) 4611686018427387904 := by
  refine ws_l (plainFor_of_name (by decide)) (Nat.le_of_ble_eq_true rfl) ?_
  intro p e s m below meth c A ls Q X hret hl hP hD hS
  obtain ⟨H, hH⟩ : ∃ H, H = s.heap := ⟨_, rfl⟩
  obtain ⟨locs, hlo⟩ : ∃ locs : List Loc, locs = [] := ⟨_, rfl⟩
  have hP : va_P D cls (mW cI h m1 p1 q1 r1 w1 o1 f1 s1 nc my fp fq fr up sm top bot lv ol fi se x y fd) H := by rw [hH]; exact hP
  have hS : va_S A s.heap H locs := by rw [hH, hlo]; exact hS
  suffices hgo : W p l e rm_LoopRankerModel_greatest s m ([.ref h, .int t, .int u, .int v] : List Value).toArray below meth c H locs 0 0 Q (F0 m 0 ls ([])) by rw [hH, hlo] at hgo; exact hgo
  clear hH hlo
  have hl : lv_has ls 4 [(0, .ref h), (1, .int t), (2, .int u), (3, .int v)] := hl
  refine lv_aload_n X.1.1 X.1.2.1 d_LoopRankerModel_greatest_0 rfl (lv_at hl 0 rfl) ?_
  refine lv_iload_n X.1.1 X.1.2.1 d_LoopRankerModel_greatest_1 rfl (lv_at hl 1 rfl) ?_
  refine wc_Vi [.int t] 4 0 X nz_nest (c_LoopRankerModel_there h m1 p1 q1 r1 w1 o1 f1 s1 nc my fp fq fr up sm top bot lv ol fi se x y fd t ) (cw_LoopRankerModel_38 X.1.2.2.2.2 X.2.2.1 (by decide)) ([]) ([]) (rfl) hP hD hS rfl rfl rfl rfl hl.1 (Nat.le_of_ble_eq_true rfl) (by decide) d_LoopRankerModel_greatest_2 (fun H locs wn hwn hP hD hS => ?_)
  subst hwn
  have hP : va_P D cls (mW cI h m1 p1 q1 r1 w1 o1 f1 s1 nc my fp fq fr up sm top bot lv ol fi se x y fd) H := hP
  have hD : va_D A (mW cI h m1 p1 q1 r1 w1 o1 f1 s1 nc my fp fq fr up sm top bot lv ol fi se x y fd) := hD
  refine wi0_eq (tgt := 26) X.1.1 X.1.2.1 d_LoopRankerModel_greatest_5 (by decide) (fun h5 => ?_) (fun h5 => absurd hbad h5)
  refine lv_ldc2 (v := 4611686018427387904) X.1.1 X.1.2.1 X.1.2.2.2.1 (X.1.2.2.2.2 _ kc_LoopRankerModel_73) d_LoopRankerModel_greatest_26 ?_
  exact hret 29 H locs ls _ _ hP hD hS d_LoopRankerModel_greatest_29 (rfl) (rfl)
set_option maxHeartbeats 4000000 in
set_option maxRecDepth 100000 in
theorem c_LoopRankerModel_greatest (h m1 p1 q1 r1 w1 o1 f1 s1 : Nat) (nc : Nat) (my fp fq fr up : Nat → Int32) (sm : Int32) (top bot : Int64) (lv : Nat) (ol fi se : Nat → Int32) (x y : Int64) (fd : Int32) (t : Nat) (u v : Int32) (d : Nat) (hm : my t = nI d) (ht : t < 6) (hd : d ≤ 4) (htn : t < nc) (hc : nc ≤ 6) : wk_kl l y_LoopRankerModel_greatest (Cond.code y_LoopRankerModel_greatest b_LoopRankerModel_greatest 4 (some .long) :: BW) rm_LoopRankerModel_greatest D cls (kT cI cJ cS) nz [.ref h, .int (nI t), .int u, .int v] (mW cI h m1 p1 q1 r1 w1 o1 f1 s1 nc my fp fq fr up sm top bot lv ol fi se x y fd) (fun wz => ∃ sm2 t2 b2, wz = mW cI h m1 p1 q1 r1 w1 o1 f1 s1 nc my fp fq fr up sm2 t2 b2 lv ol fi se x y fd) (m_gr fp fq fr (4 * t) d u v) := by
  refine ws_l (plainFor_of_name (by decide)) (Nat.le_of_ble_eq_true rfl) ?_
  intro p e s m below meth c A ls Q X hret hl hP hD hS
  obtain ⟨H, hH⟩ : ∃ H, H = s.heap := ⟨_, rfl⟩
  obtain ⟨locs, hlo⟩ : ∃ locs : List Loc, locs = [] := ⟨_, rfl⟩
  have hP : va_P D cls (mW cI h m1 p1 q1 r1 w1 o1 f1 s1 nc my fp fq fr up sm top bot lv ol fi se x y fd) H := by rw [hH]; exact hP
  have hS : va_S A s.heap H locs := by rw [hH, hlo]; exact hS
  suffices hgo : W p l e rm_LoopRankerModel_greatest s m ([.ref h, .int (nI t), .int u, .int v] : List Value).toArray below meth c H locs 0 0 Q (F0 m 0 ls ([])) by rw [hH, hlo] at hgo; exact hgo
  clear hH hlo
  have hl : lv_has ls 4 [(0, .ref h), (1, .int (nI t)), (2, .int u), (3, .int v)] := hl
  refine lv_aload_n X.1.1 X.1.2.1 d_LoopRankerModel_greatest_0 rfl (lv_at hl 0 rfl) ?_
  refine lv_iload_n X.1.1 X.1.2.1 d_LoopRankerModel_greatest_1 rfl (lv_at hl 1 rfl) ?_
  refine wc_Vi [.int (nI t)] 4 0 X nz_nest (c_LoopRankerModel_there h m1 p1 q1 r1 w1 o1 f1 s1 nc my fp fq fr up sm top bot lv ol fi se x y fd (nI t) ) (cw_LoopRankerModel_38 X.1.2.2.2.2 X.2.2.1 (by decide)) ([]) ([]) (rfl) hP hD hS rfl rfl rfl rfl hl.1 (Nat.le_of_ble_eq_true rfl) (by decide) d_LoopRankerModel_greatest_2 (fun H locs wn hwn hP hD hS => ?_)
  subst hwn
  have hP : va_P D cls (mW cI h m1 p1 q1 r1 w1 o1 f1 s1 nc my fp fq fr up sm top bot lv ol fi se x y fd) H := hP
  have hD : va_D A (mW cI h m1 p1 q1 r1 w1 o1 f1 s1 nc my fp fq fr up sm top bot lv ol fi se x y fd) := hD
  refine wi0_eq (tgt := 26) X.1.1 X.1.2.1 d_LoopRankerModel_greatest_5 (by decide) (fun h5 => absurd h5 (by rw [m_th_1 (by omega) (by omega)]; decide)) (fun h5 => ?_)
  refine lv_iload_n X.1.1 X.1.2.1 d_LoopRankerModel_greatest_8 rfl (lv_at hl 2 rfl) ?_
  refine lv_bipush (v := (60 : Int32)) X.1.1 X.1.2.1 d_LoopRankerModel_greatest_9 (by decide) ?_
  refine wc_Si [.int u, .int (60 : Int32)] X nz_nest (c_LoopRankerModel_within u (60 : Int32) ) (cw_LoopRankerModel_42 X.1.2.2.2.2 X.2.2.1 (by decide)) (mW cI h m1 p1 q1 r1 w1 o1 f1 s1 nc my fp fq fr up sm top bot lv ol fi se x y fd) ([]) (rfl) hP hD hS rfl rfl hl.1 (Nat.le_of_ble_eq_true rfl) (by decide) d_LoopRankerModel_greatest_11 (fun H locs wn hwn hP hD hS => ?_)
  subst hwn
  have hP : va_P D cls (mW cI h m1 p1 q1 r1 w1 o1 f1 s1 nc my fp fq fr up sm top bot lv ol fi se x y fd) H := hP
  have hD : va_D A (mW cI h m1 p1 q1 r1 w1 o1 f1 s1 nc my fp fq fr up sm top bot lv ol fi se x y fd) := hD
  refine wi0_eq (tgt := 26) X.1.1 X.1.2.1 d_LoopRankerModel_greatest_14 (by decide) (fun h14 => ?_) (fun h14 => ?_)
  · refine lv_ldc2 (v := 4611686018427387904) X.1.1 X.1.2.1 X.1.2.2.2.1 (X.1.2.2.2.2 _ kc_LoopRankerModel_73) d_LoopRankerModel_greatest_26 ?_
    exact hret 29 H locs ls _ _ hP hD hS d_LoopRankerModel_greatest_29 (by first | (simp only [m_gr, if_neg h5, if_pos h14]; done) | simp [m_gr, h5, h14]) (⟨_, _, _, rfl⟩)
  · refine lv_iload_n X.1.1 X.1.2.1 d_LoopRankerModel_greatest_17 rfl (lv_at hl 3 rfl) ?_
    refine lv_bipush (v := (60 : Int32)) X.1.1 X.1.2.1 d_LoopRankerModel_greatest_18 (by decide) ?_
    refine wc_Si [.int v, .int (60 : Int32)] X nz_nest (c_LoopRankerModel_within v (60 : Int32) ) (cw_LoopRankerModel_42 X.1.2.2.2.2 X.2.2.1 (by decide)) (mW cI h m1 p1 q1 r1 w1 o1 f1 s1 nc my fp fq fr up sm top bot lv ol fi se x y fd) ([]) (rfl) hP hD hS rfl rfl hl.1 (Nat.le_of_ble_eq_true rfl) (by decide) d_LoopRankerModel_greatest_20 (fun H locs wn hwn hP hD hS => ?_)
    subst hwn
    have hP : va_P D cls (mW cI h m1 p1 q1 r1 w1 o1 f1 s1 nc my fp fq fr up sm top bot lv ol fi se x y fd) H := hP
    have hD : va_D A (mW cI h m1 p1 q1 r1 w1 o1 f1 s1 nc my fp fq fr up sm top bot lv ol fi se x y fd) := hD
    refine wi0_ne (tgt := 30) X.1.1 X.1.2.1 d_LoopRankerModel_greatest_23 (by decide) (fun h23 => ?_) (fun h23 => ?_)
    · refine lv_aload_n X.1.1 X.1.2.1 d_LoopRankerModel_greatest_30 rfl (lv_at hl 0 rfl) ?_
      refine lv_iload_n X.1.1 X.1.2.1 d_LoopRankerModel_greatest_31 rfl (lv_at hl 1 rfl) ?_
      refine wc_Vi [.int (nI t)] 4 0 X nz_nest (c_LoopRankerModel_empty h m1 p1 q1 r1 w1 o1 f1 s1 nc my fp fq fr up sm top bot lv ol fi se x y fd t d hm ht hd) (cw_LoopRankerModel_75 X.1.2.2.2.2 X.2.2.1 (by decide)) ([]) ([]) (rfl) hP hD hS rfl rfl rfl rfl hl.1 (Nat.le_of_ble_eq_true rfl) (by decide) d_LoopRankerModel_greatest_32 (fun H locs wn hwn hP hD hS => ?_)
      obtain ⟨sm4, top4, bot4, rfl⟩ := hwn
      have hP : va_P D cls (mW cI h m1 p1 q1 r1 w1 o1 f1 s1 nc my fp fq fr up sm4 top4 bot4 lv ol fi se x y fd) H := hP
      have hD : va_D A (mW cI h m1 p1 q1 r1 w1 o1 f1 s1 nc my fp fq fr up sm4 top4 bot4 lv ol fi se x y fd) := hD
      refine wi0_eq (tgt := 42) X.1.1 X.1.2.1 d_LoopRankerModel_greatest_35 (by decide) (fun h35 => ?_) (fun h35 => ?_)
      · refine lv_aload_n X.1.1 X.1.2.1 d_LoopRankerModel_greatest_42 rfl (lv_at hl 0 rfl) ?_
        refine lv_iload_n X.1.1 X.1.2.1 d_LoopRankerModel_greatest_43 rfl (lv_at hl 1 rfl) ?_
        refine lv_iload_n X.1.1 X.1.2.1 d_LoopRankerModel_greatest_44 rfl (lv_at hl 2 rfl) ?_
        refine lv_iload_n X.1.1 X.1.2.1 d_LoopRankerModel_greatest_45 rfl (lv_at hl 3 rfl) ?_
        refine wc_Vi [.int (nI t), .int u, .int v] 4 0 X nz_nest (c_LoopRankerModel_said h m1 p1 q1 r1 w1 o1 f1 s1 nc my fp fq fr up sm4 top4 bot4 lv ol fi se x y fd t u v d hm ht hd) (cw_LoopRankerModel_80 X.1.2.2.2.2 X.2.2.1 (by decide)) ([]) ([]) (rfl) hP hD hS rfl rfl rfl rfl hl.1 (Nat.le_of_ble_eq_true rfl) (by decide) d_LoopRankerModel_greatest_46 (fun H locs wn hwn hP hD hS => ?_)
        subst hwn
        have hP : va_P D cls (mW cI h m1 p1 q1 r1 w1 o1 f1 s1 nc my fp fq fr up ((m_lk fp fq fr (4 * t) d u v).1) ((m_lk fp fq fr (4 * t) d u v).2.1) ((m_lk fp fq fr (4 * t) d u v).2.2) lv ol fi se x y fd) H := hP
        have hD : va_D A (mW cI h m1 p1 q1 r1 w1 o1 f1 s1 nc my fp fq fr up ((m_lk fp fq fr (4 * t) d u v).1) ((m_lk fp fq fr (4 * t) d u v).2.1) ((m_lk fp fq fr (4 * t) d u v).2.2) lv ol fi se x y fd) := hD
        refine wi0_eq (tgt := 66) X.1.1 X.1.2.1 d_LoopRankerModel_greatest_49 (by decide) (fun h49 => ?_) (fun h49 => ?_)
        · refine lv_ldc2 (v := 4611686018427387904) X.1.1 X.1.2.1 X.1.2.2.2.1 (X.1.2.2.2.2 _ kc_LoopRankerModel_73) d_LoopRankerModel_greatest_66 ?_
          exact hret 69 H locs ls _ _ hP hD hS d_LoopRankerModel_greatest_69 (by first | (simp only [m_gr, if_neg h5, if_neg h14, if_neg h23, if_pos h35, if_pos h49]; done) | simp [m_gr, h5, h14, h23, h35, h49]) (⟨_, _, _, rfl⟩)
        · refine lv_aload_n X.1.1 X.1.2.1 d_LoopRankerModel_greatest_52 rfl (lv_at hl 0 rfl) ?_
          refine fg_LoopRankerModel_54 X hP 0 rfl rfl d_LoopRankerModel_greatest_53 ?_
          refine lv_aload_n X.1.1 X.1.2.1 d_LoopRankerModel_greatest_56 rfl (lv_at hl 0 rfl) ?_
          refine fg_LoopRankerModel_50 X hP 0 rfl rfl d_LoopRankerModel_greatest_57 ?_
          refine wc_Sl [.long ((m_lk fp fq fr (4 * t) d u v).2.1), .long ((m_lk fp fq fr (4 * t) d u v).2.2)] X nz_nest (c_LoopRankerModel_down ((m_lk fp fq fr (4 * t) d u v).2.1) ((m_lk fp fq fr (4 * t) d u v).2.2) (m_lk_bot _ _ _ _ _ _ _)) (cw_LoopRankerModel_83 X.1.2.2.2.2 X.2.2.1 (by decide)) (mW cI h m1 p1 q1 r1 w1 o1 f1 s1 nc my fp fq fr up ((m_lk fp fq fr (4 * t) d u v).1) ((m_lk fp fq fr (4 * t) d u v).2.1) ((m_lk fp fq fr (4 * t) d u v).2.2) lv ol fi se x y fd) ([]) (rfl) hP hD hS rfl rfl hl.1 (Nat.le_of_ble_eq_true rfl) (by decide) d_LoopRankerModel_greatest_60 (fun H locs wn hwn hP hD hS => ?_)
          subst hwn
          have hP : va_P D cls (mW cI h m1 p1 q1 r1 w1 o1 f1 s1 nc my fp fq fr up ((m_lk fp fq fr (4 * t) d u v).1) ((m_lk fp fq fr (4 * t) d u v).2.1) ((m_lk fp fq fr (4 * t) d u v).2.2) lv ol fi se x y fd) H := hP
          have hD : va_D A (mW cI h m1 p1 q1 r1 w1 o1 f1 s1 nc my fp fq fr up ((m_lk fp fq fr (4 * t) d u v).1) ((m_lk fp fq fr (4 * t) d u v).2.1) ((m_lk fp fq fr (4 * t) d u v).2.2) lv ol fi se x y fd) := hD
          refine lv_goto (tgt := 69) X.1.1 X.1.2.1 d_LoopRankerModel_greatest_63 (by decide) ?_
          exact hret 69 H locs ls _ _ hP hD hS d_LoopRankerModel_greatest_69 (by first | (simp only [m_gr, if_neg h5, if_neg h14, if_neg h23, if_pos h35, if_neg h49]; done) | simp [m_gr, h5, h14, h23, h35, h49]) (⟨_, _, _, rfl⟩)
      · refine lv_ldc2 (v := -4611686018427387904) X.1.1 X.1.2.1 X.1.2.2.2.1 (X.1.2.2.2.2 _ kc_LoopRankerModel_78) d_LoopRankerModel_greatest_38 ?_
        exact hret 41 H locs ls _ _ hP hD hS d_LoopRankerModel_greatest_41 (by first | (simp only [m_gr, if_neg h5, if_neg h14, if_neg h23, if_neg h35]; done) | simp [m_gr, h5, h14, h23, h35]) (⟨_, _, _, rfl⟩)
    · refine lv_ldc2 (v := 4611686018427387904) X.1.1 X.1.2.1 X.1.2.2.2.1 (X.1.2.2.2.2 _ kc_LoopRankerModel_73) d_LoopRankerModel_greatest_26 ?_
      exact hret 29 H locs ls _ _ hP hD hS d_LoopRankerModel_greatest_29 (by first | (simp only [m_gr, if_neg h5, if_neg h14, if_pos h23]; done) | simp [m_gr, h5, h14, h23]) (⟨_, _, _, rfl⟩)
set_option maxHeartbeats 4000000 in
set_option maxRecDepth 100000 in
theorem c_LoopRankerModel_holds_bad (h m1 p1 q1 r1 w1 o1 f1 s1 : Nat) (nc : Nat) (my fp fq fr up : Nat → Int32) (sm : Int32) (top bot : Int64) (lv : Nat) (ol fi se : Nat → Int32) (x y : Int64) (fd : Int32) (t u v what : Int32) (hbad : m_th nc t = 0) : wk_ki l y_LoopRankerModel_holds (Cond.code y_LoopRankerModel_holds b_LoopRankerModel_holds 5 (some .boolean) :: BW) rm_LoopRankerModel_holds D cls (kT cI cJ cS) nz [.ref h, .int t, .int u, .int v, .int what] (mW cI h m1 p1 q1 r1 w1 o1 f1 s1 nc my fp fq fr up sm top bot lv ol fi se x y fd) (fun wz => wz = mW cI h m1 p1 q1 r1 w1 o1 f1 s1 nc my fp fq fr up sm top bot lv ol fi se x y fd) 0 := by
  refine ws_z (plainFor_of_name (by decide)) (Nat.le_of_ble_eq_true rfl) ?_
  intro p e s m below meth c A ls Q X hret hl hP hD hS
  obtain ⟨H, hH⟩ : ∃ H, H = s.heap := ⟨_, rfl⟩
  obtain ⟨locs, hlo⟩ : ∃ locs : List Loc, locs = [] := ⟨_, rfl⟩
  have hP : va_P D cls (mW cI h m1 p1 q1 r1 w1 o1 f1 s1 nc my fp fq fr up sm top bot lv ol fi se x y fd) H := by rw [hH]; exact hP
  have hS : va_S A s.heap H locs := by rw [hH, hlo]; exact hS
  suffices hgo : W p l e rm_LoopRankerModel_holds s m ([.ref h, .int t, .int u, .int v, .int what] : List Value).toArray below meth c H locs 0 0 Q (F0 m 0 ls ([])) by rw [hH, hlo] at hgo; exact hgo
  clear hH hlo
  have hl : lv_has ls 5 [(0, .ref h), (1, .int t), (2, .int u), (3, .int v), (4, .int what)] := hl
  refine lv_aload_n X.1.1 X.1.2.1 d_LoopRankerModel_holds_0 rfl (lv_at hl 0 rfl) ?_
  refine lv_iload_n X.1.1 X.1.2.1 d_LoopRankerModel_holds_1 rfl (lv_at hl 1 rfl) ?_
  refine wc_Vi [.int t] 4 0 X nz_nest (c_LoopRankerModel_there h m1 p1 q1 r1 w1 o1 f1 s1 nc my fp fq fr up sm top bot lv ol fi se x y fd t ) (cw_LoopRankerModel_38 X.1.2.2.2.2 X.2.2.1 (by decide)) ([]) ([]) (rfl) hP hD hS rfl rfl rfl rfl hl.1 (Nat.le_of_ble_eq_true rfl) (by decide) d_LoopRankerModel_holds_2 (fun H locs wn hwn hP hD hS => ?_)
  subst hwn
  have hP : va_P D cls (mW cI h m1 p1 q1 r1 w1 o1 f1 s1 nc my fp fq fr up sm top bot lv ol fi se x y fd) H := hP
  have hD : va_D A (mW cI h m1 p1 q1 r1 w1 o1 f1 s1 nc my fp fq fr up sm top bot lv ol fi se x y fd) := hD
  refine wi0_eq (tgt := 43) X.1.1 X.1.2.1 d_LoopRankerModel_holds_5 (by decide) (fun h5 => ?_) (fun h5 => absurd hbad h5)
  refine lv_iconst (v := (0 : Int32)) X.1.1 X.1.2.1 d_LoopRankerModel_holds_43 (by decide) ?_
  exact hret 44 H locs ls _ _ hP hD hS d_LoopRankerModel_holds_44 (Or.inl rfl) (rfl) (rfl)
set_option maxHeartbeats 4000000 in
set_option maxRecDepth 100000 in
theorem c_LoopRankerModel_holds (h m1 p1 q1 r1 w1 o1 f1 s1 : Nat) (nc : Nat) (my fp fq fr up : Nat → Int32) (sm : Int32) (top bot : Int64) (lv : Nat) (ol fi se : Nat → Int32) (x y : Int64) (fd : Int32) (t : Nat) (u v what : Int32) (d : Nat) (hm : my t = nI d) (ht : t < 6) (hd : d ≤ 4) (htn : t < nc) (hc : nc ≤ 6) : wk_ki l y_LoopRankerModel_holds (Cond.code y_LoopRankerModel_holds b_LoopRankerModel_holds 5 (some .boolean) :: BW) rm_LoopRankerModel_holds D cls (kT cI cJ cS) nz [.ref h, .int (nI t), .int u, .int v, .int what] (mW cI h m1 p1 q1 r1 w1 o1 f1 s1 nc my fp fq fr up sm top bot lv ol fi se x y fd) (fun wz => ∃ sm2 t2 b2, wz = mW cI h m1 p1 q1 r1 w1 o1 f1 s1 nc my fp fq fr up sm2 t2 b2 lv ol fi se x y fd) (m_ho fp fq fr up t d u v what) := by
  refine ws_z (plainFor_of_name (by decide)) (Nat.le_of_ble_eq_true rfl) ?_
  intro p e s m below meth c A ls Q X hret hl hP hD hS
  obtain ⟨H, hH⟩ : ∃ H, H = s.heap := ⟨_, rfl⟩
  obtain ⟨locs, hlo⟩ : ∃ locs : List Loc, locs = [] := ⟨_, rfl⟩
  have hP : va_P D cls (mW cI h m1 p1 q1 r1 w1 o1 f1 s1 nc my fp fq fr up sm top bot lv ol fi se x y fd) H := by rw [hH]; exact hP
  have hS : va_S A s.heap H locs := by rw [hH, hlo]; exact hS
  suffices hgo : W p l e rm_LoopRankerModel_holds s m ([.ref h, .int (nI t), .int u, .int v, .int what] : List Value).toArray below meth c H locs 0 0 Q (F0 m 0 ls ([])) by rw [hH, hlo] at hgo; exact hgo
  clear hH hlo
  have hl : lv_has ls 5 [(0, .ref h), (1, .int (nI t)), (2, .int u), (3, .int v), (4, .int what)] := hl
  refine lv_aload_n X.1.1 X.1.2.1 d_LoopRankerModel_holds_0 rfl (lv_at hl 0 rfl) ?_
  refine lv_iload_n X.1.1 X.1.2.1 d_LoopRankerModel_holds_1 rfl (lv_at hl 1 rfl) ?_
  refine wc_Vi [.int (nI t)] 4 0 X nz_nest (c_LoopRankerModel_there h m1 p1 q1 r1 w1 o1 f1 s1 nc my fp fq fr up sm top bot lv ol fi se x y fd (nI t) ) (cw_LoopRankerModel_38 X.1.2.2.2.2 X.2.2.1 (by decide)) ([]) ([]) (rfl) hP hD hS rfl rfl rfl rfl hl.1 (Nat.le_of_ble_eq_true rfl) (by decide) d_LoopRankerModel_holds_2 (fun H locs wn hwn hP hD hS => ?_)
  subst hwn
  have hP : va_P D cls (mW cI h m1 p1 q1 r1 w1 o1 f1 s1 nc my fp fq fr up sm top bot lv ol fi se x y fd) H := hP
  have hD : va_D A (mW cI h m1 p1 q1 r1 w1 o1 f1 s1 nc my fp fq fr up sm top bot lv ol fi se x y fd) := hD
  refine wi0_eq (tgt := 43) X.1.1 X.1.2.1 d_LoopRankerModel_holds_5 (by decide) (fun h5 => absurd h5 (by rw [m_th_1 (by omega) (by omega)]; decide)) (fun h5 => ?_)
  refine lv_iload_n X.1.1 X.1.2.1 d_LoopRankerModel_holds_8 rfl (lv_at hl 2 rfl) ?_
  refine lv_iconst (v := (4 : Int32)) X.1.1 X.1.2.1 d_LoopRankerModel_holds_9 (by decide) ?_
  refine wc_Si [.int u, .int (4 : Int32)] X nz_nest (c_LoopRankerModel_within u (4 : Int32) ) (cw_LoopRankerModel_42 X.1.2.2.2.2 X.2.2.1 (by decide)) (mW cI h m1 p1 q1 r1 w1 o1 f1 s1 nc my fp fq fr up sm top bot lv ol fi se x y fd) ([]) (rfl) hP hD hS rfl rfl hl.1 (Nat.le_of_ble_eq_true rfl) (by decide) d_LoopRankerModel_holds_10 (fun H locs wn hwn hP hD hS => ?_)
  subst hwn
  have hP : va_P D cls (mW cI h m1 p1 q1 r1 w1 o1 f1 s1 nc my fp fq fr up sm top bot lv ol fi se x y fd) H := hP
  have hD : va_D A (mW cI h m1 p1 q1 r1 w1 o1 f1 s1 nc my fp fq fr up sm top bot lv ol fi se x y fd) := hD
  refine wi0_eq (tgt := 43) X.1.1 X.1.2.1 d_LoopRankerModel_holds_13 (by decide) (fun h13 => ?_) (fun h13 => ?_)
  · refine lv_iconst (v := (0 : Int32)) X.1.1 X.1.2.1 d_LoopRankerModel_holds_43 (by decide) ?_
    exact hret 44 H locs ls _ _ hP hD hS d_LoopRankerModel_holds_44 (Or.inl rfl) (by first | (simp only [m_ho, m_ho2, if_neg h5, if_pos h13]; done) | simp [m_ho, m_ho2, h5, h13]) (⟨_, _, _, rfl⟩)
  · refine lv_iload_n X.1.1 X.1.2.1 d_LoopRankerModel_holds_16 rfl (lv_at hl 3 rfl) ?_
    refine lv_iconst (v := (4 : Int32)) X.1.1 X.1.2.1 d_LoopRankerModel_holds_17 (by decide) ?_
    refine wc_Si [.int v, .int (4 : Int32)] X nz_nest (c_LoopRankerModel_within v (4 : Int32) ) (cw_LoopRankerModel_42 X.1.2.2.2.2 X.2.2.1 (by decide)) (mW cI h m1 p1 q1 r1 w1 o1 f1 s1 nc my fp fq fr up sm top bot lv ol fi se x y fd) ([]) (rfl) hP hD hS rfl rfl hl.1 (Nat.le_of_ble_eq_true rfl) (by decide) d_LoopRankerModel_holds_18 (fun H locs wn hwn hP hD hS => ?_)
    subst hwn
    have hP : va_P D cls (mW cI h m1 p1 q1 r1 w1 o1 f1 s1 nc my fp fq fr up sm top bot lv ol fi se x y fd) H := hP
    have hD : va_D A (mW cI h m1 p1 q1 r1 w1 o1 f1 s1 nc my fp fq fr up sm top bot lv ol fi se x y fd) := hD
    refine wi0_eq (tgt := 43) X.1.1 X.1.2.1 d_LoopRankerModel_holds_21 (by decide) (fun h21 => ?_) (fun h21 => ?_)
    · refine lv_iconst (v := (0 : Int32)) X.1.1 X.1.2.1 d_LoopRankerModel_holds_43 (by decide) ?_
      exact hret 44 H locs ls _ _ hP hD hS d_LoopRankerModel_holds_44 (Or.inl rfl) (by first | (simp only [m_ho, m_ho2, if_neg h5, if_neg h13, if_pos h21]; done) | simp [m_ho, m_ho2, h5, h13, h21]) (⟨_, _, _, rfl⟩)
    · refine lv_iload_n X.1.1 X.1.2.1 d_LoopRankerModel_holds_24 rfl (lv_at hl 2 rfl) ?_
      refine wi0_ne (tgt := 32) X.1.1 X.1.2.1 d_LoopRankerModel_holds_25 (by decide) (fun h25 => ?_) (fun h25 => ?_)
      · refine lv_iload X.1.1 X.1.2.1 d_LoopRankerModel_holds_32 (lv_at hl 4 rfl) ?_
        refine wi0_lt (tgt := 43) X.1.1 X.1.2.1 d_LoopRankerModel_holds_34 (by decide) (fun h34 => ?_) (fun h34 => ?_)
        · refine lv_iconst (v := (0 : Int32)) X.1.1 X.1.2.1 d_LoopRankerModel_holds_43 (by decide) ?_
          exact hret 44 H locs ls _ _ hP hD hS d_LoopRankerModel_holds_44 (Or.inl rfl) (by first | (simp only [m_ho, m_ho2, if_neg h5, if_neg h13, if_neg h21, if_neg h25, if_pos h34]; done) | simp [m_ho, m_ho2, h5, h13, h21, h25, h34]) (⟨_, _, _, rfl⟩)
        · refine lv_iload X.1.1 X.1.2.1 d_LoopRankerModel_holds_37 (lv_at hl 4 rfl) ?_
          refine lv_iconst (v := (2 : Int32)) X.1.1 X.1.2.1 d_LoopRankerModel_holds_39 (by decide) ?_
          refine wi_le (tgt := 45) X.1.1 X.1.2.1 d_LoopRankerModel_holds_40 (by decide) (fun h40 => ?_) (fun h40 => ?_)
          · refine lv_aload_n X.1.1 X.1.2.1 d_LoopRankerModel_holds_45 rfl (lv_at hl 0 rfl) ?_
            refine lv_iload_n X.1.1 X.1.2.1 d_LoopRankerModel_holds_46 rfl (lv_at hl 1 rfl) ?_
            refine lv_iload_n X.1.1 X.1.2.1 d_LoopRankerModel_holds_47 rfl (lv_at hl 2 rfl) ?_
            refine lv_iload_n X.1.1 X.1.2.1 d_LoopRankerModel_holds_48 rfl (lv_at hl 3 rfl) ?_
            refine lv_iload X.1.1 X.1.2.1 d_LoopRankerModel_holds_49 (lv_at hl 4 rfl) ?_
            refine wc_Vi [.int (nI t), .int u, .int v, .int what] 4 0 X nz_nest (c_LoopRankerModel_has h m1 p1 q1 r1 w1 o1 f1 s1 nc my fp fq fr up sm top bot lv ol fi se x y fd t u v what d hm ht hd) (cw_LoopRankerModel_91 X.1.2.2.2.2 X.2.2.1 (by decide)) ([]) ([]) (rfl) hP hD hS rfl rfl rfl rfl hl.1 (Nat.le_of_ble_eq_true rfl) (by decide) d_LoopRankerModel_holds_51 (fun H locs wn hwn hP hD hS => ?_)
            obtain ⟨sm4, top4, bot4, rfl⟩ := hwn
            have hP : va_P D cls (mW cI h m1 p1 q1 r1 w1 o1 f1 s1 nc my fp fq fr up sm4 top4 bot4 lv ol fi se x y fd) H := hP
            have hD : va_D A (mW cI h m1 p1 q1 r1 w1 o1 f1 s1 nc my fp fq fr up sm4 top4 bot4 lv ol fi se x y fd) := hD
            exact hret 54 H locs ls _ _ hP hD hS d_LoopRankerModel_holds_54 (m_has_01 _ _ _ _ _ _ _ _ _) (by first | (simp only [m_ho, m_ho2, if_neg h5, if_neg h13, if_neg h21, if_neg h25, if_neg h34, if_neg h40]; done) | simp [m_ho, m_ho2, h5, h13, h21, h25, h34, h40]) (⟨_, _, _, rfl⟩)
          · refine lv_iconst (v := (0 : Int32)) X.1.1 X.1.2.1 d_LoopRankerModel_holds_43 (by decide) ?_
            exact hret 44 H locs ls _ _ hP hD hS d_LoopRankerModel_holds_44 (Or.inl rfl) (by first | (simp only [m_ho, m_ho2, if_neg h5, if_neg h13, if_neg h21, if_neg h25, if_neg h34, if_pos h40]; done) | simp [m_ho, m_ho2, h5, h13, h21, h25, h34, h40]) (⟨_, _, _, rfl⟩)
      · refine lv_iload_n X.1.1 X.1.2.1 d_LoopRankerModel_holds_28 rfl (lv_at hl 3 rfl) ?_
        refine wi0_eq (tgt := 43) X.1.1 X.1.2.1 d_LoopRankerModel_holds_29 (by decide) (fun h29 => ?_) (fun h29 => ?_)
        · refine lv_iconst (v := (0 : Int32)) X.1.1 X.1.2.1 d_LoopRankerModel_holds_43 (by decide) ?_
          exact hret 44 H locs ls _ _ hP hD hS d_LoopRankerModel_holds_44 (Or.inl rfl) (by first | (simp only [m_ho, m_ho2, if_neg h5, if_neg h13, if_neg h21, if_pos h25, if_pos h29]; done) | simp [m_ho, m_ho2, h5, h13, h21, h25, h29]) (⟨_, _, _, rfl⟩)
        · refine lv_iload X.1.1 X.1.2.1 d_LoopRankerModel_holds_32 (lv_at hl 4 rfl) ?_
          refine wi0_lt (tgt := 43) X.1.1 X.1.2.1 d_LoopRankerModel_holds_34 (by decide) (fun h34 => ?_) (fun h34 => ?_)
          · refine lv_iconst (v := (0 : Int32)) X.1.1 X.1.2.1 d_LoopRankerModel_holds_43 (by decide) ?_
            exact hret 44 H locs ls _ _ hP hD hS d_LoopRankerModel_holds_44 (Or.inl rfl) (by first | (simp only [m_ho, m_ho2, if_neg h5, if_neg h13, if_neg h21, if_pos h25, if_neg h29, if_pos h34]; done) | simp [m_ho, m_ho2, h5, h13, h21, h25, h29, h34]) (⟨_, _, _, rfl⟩)
          · refine lv_iload X.1.1 X.1.2.1 d_LoopRankerModel_holds_37 (lv_at hl 4 rfl) ?_
            refine lv_iconst (v := (2 : Int32)) X.1.1 X.1.2.1 d_LoopRankerModel_holds_39 (by decide) ?_
            refine wi_le (tgt := 45) X.1.1 X.1.2.1 d_LoopRankerModel_holds_40 (by decide) (fun h40 => ?_) (fun h40 => ?_)
            · refine lv_aload_n X.1.1 X.1.2.1 d_LoopRankerModel_holds_45 rfl (lv_at hl 0 rfl) ?_
              refine lv_iload_n X.1.1 X.1.2.1 d_LoopRankerModel_holds_46 rfl (lv_at hl 1 rfl) ?_
              refine lv_iload_n X.1.1 X.1.2.1 d_LoopRankerModel_holds_47 rfl (lv_at hl 2 rfl) ?_
              refine lv_iload_n X.1.1 X.1.2.1 d_LoopRankerModel_holds_48 rfl (lv_at hl 3 rfl) ?_
              refine lv_iload X.1.1 X.1.2.1 d_LoopRankerModel_holds_49 (lv_at hl 4 rfl) ?_
              refine wc_Vi [.int (nI t), .int u, .int v, .int what] 4 0 X nz_nest (c_LoopRankerModel_has h m1 p1 q1 r1 w1 o1 f1 s1 nc my fp fq fr up sm top bot lv ol fi se x y fd t u v what d hm ht hd) (cw_LoopRankerModel_91 X.1.2.2.2.2 X.2.2.1 (by decide)) ([]) ([]) (rfl) hP hD hS rfl rfl rfl rfl hl.1 (Nat.le_of_ble_eq_true rfl) (by decide) d_LoopRankerModel_holds_51 (fun H locs wn hwn hP hD hS => ?_)
              obtain ⟨sm5, top5, bot5, rfl⟩ := hwn
              have hP : va_P D cls (mW cI h m1 p1 q1 r1 w1 o1 f1 s1 nc my fp fq fr up sm5 top5 bot5 lv ol fi se x y fd) H := hP
              have hD : va_D A (mW cI h m1 p1 q1 r1 w1 o1 f1 s1 nc my fp fq fr up sm5 top5 bot5 lv ol fi se x y fd) := hD
              exact hret 54 H locs ls _ _ hP hD hS d_LoopRankerModel_holds_54 (m_has_01 _ _ _ _ _ _ _ _ _) (by first | (simp only [m_ho, m_ho2, if_neg h5, if_neg h13, if_neg h21, if_pos h25, if_neg h29, if_neg h34, if_neg h40]; done) | simp [m_ho, m_ho2, h5, h13, h21, h25, h29, h34, h40]) (⟨_, _, _, rfl⟩)
            · refine lv_iconst (v := (0 : Int32)) X.1.1 X.1.2.1 d_LoopRankerModel_holds_43 (by decide) ?_
              exact hret 44 H locs ls _ _ hP hD hS d_LoopRankerModel_holds_44 (Or.inl rfl) (by first | (simp only [m_ho, m_ho2, if_neg h5, if_neg h13, if_neg h21, if_pos h25, if_neg h29, if_neg h34, if_pos h40]; done) | simp [m_ho, m_ho2, h5, h13, h21, h25, h29, h34, h40]) (⟨_, _, _, rfl⟩)
set_option maxHeartbeats 4000000 in
set_option maxRecDepth 100000 in
theorem c_LoopRankerModel_transitions (h m1 p1 q1 r1 w1 o1 f1 s1 : Nat) (nc : Nat) (my fp fq fr up : Nat → Int32) (sm : Int32) (top bot : Int64) (lv : Nat) (ol fi se : Nat → Int32) (x y : Int64) (fd : Int32) : wk_ki l y_LoopRankerModel_transitions (Cond.code y_LoopRankerModel_transitions b_LoopRankerModel_transitions 1 (some .int) :: BW) rm_LoopRankerModel_transitions D cls (kT cI cJ cS) nz [.ref h] (mW cI h m1 p1 q1 r1 w1 o1 f1 s1 nc my fp fq fr up sm top bot lv ol fi se x y fd) (fun wz => wz = mW cI h m1 p1 q1 r1 w1 o1 f1 s1 nc my fp fq fr up sm top bot lv ol fi se x y fd) (nI nc) := by
  refine ws_i (plainFor_of_name (by decide)) (Nat.le_of_ble_eq_true rfl) ?_
  intro p e s m below meth c A ls Q X hret hl hP hD hS
  obtain ⟨H, hH⟩ : ∃ H, H = s.heap := ⟨_, rfl⟩
  obtain ⟨locs, hlo⟩ : ∃ locs : List Loc, locs = [] := ⟨_, rfl⟩
  have hP : va_P D cls (mW cI h m1 p1 q1 r1 w1 o1 f1 s1 nc my fp fq fr up sm top bot lv ol fi se x y fd) H := by rw [hH]; exact hP
  have hS : va_S A s.heap H locs := by rw [hH, hlo]; exact hS
  suffices hgo : W p l e rm_LoopRankerModel_transitions s m ([.ref h] : List Value).toArray below meth c H locs 0 0 Q (F0 m 0 ls ([])) by rw [hH, hlo] at hgo; exact hgo
  clear hH hlo
  have hl : lv_has ls 1 [(0, .ref h)] := hl
  refine lv_aload_n X.1.1 X.1.2.1 d_LoopRankerModel_transitions_0 rfl (lv_at hl 0 rfl) ?_
  refine fg_LoopRankerModel_34 X hP 0 rfl rfl d_LoopRankerModel_transitions_1 ?_
  exact hret 4 H locs ls _ _ hP hD hS d_LoopRankerModel_transitions_4 (rfl) (rfl)
set_option maxHeartbeats 4000000 in
set_option maxRecDepth 100000 in
theorem c_LoopRankerModel_fired (h m1 p1 q1 r1 w1 o1 f1 s1 : Nat) (nc : Nat) (my fp fq fr up : Nat → Int32) (sm : Int32) (top bot : Int64) (lv : Nat) (ol fi se : Nat → Int32) (x y : Int64) (fd : Int32) : wk_ki l y_LoopRankerModel_fired (Cond.code y_LoopRankerModel_fired b_LoopRankerModel_fired 1 (some .int) :: BW) rm_LoopRankerModel_fired D cls (kT cI cJ cS) nz [.ref h] (mW cI h m1 p1 q1 r1 w1 o1 f1 s1 nc my fp fq fr up sm top bot lv ol fi se x y fd) (fun wz => wz = mW cI h m1 p1 q1 r1 w1 o1 f1 s1 nc my fp fq fr up sm top bot lv ol fi se x y fd) fd := by
  refine ws_i (plainFor_of_name (by decide)) (Nat.le_of_ble_eq_true rfl) ?_
  intro p e s m below meth c A ls Q X hret hl hP hD hS
  obtain ⟨H, hH⟩ : ∃ H, H = s.heap := ⟨_, rfl⟩
  obtain ⟨locs, hlo⟩ : ∃ locs : List Loc, locs = [] := ⟨_, rfl⟩
  have hP : va_P D cls (mW cI h m1 p1 q1 r1 w1 o1 f1 s1 nc my fp fq fr up sm top bot lv ol fi se x y fd) H := by rw [hH]; exact hP
  have hS : va_S A s.heap H locs := by rw [hH, hlo]; exact hS
  suffices hgo : W p l e rm_LoopRankerModel_fired s m ([.ref h] : List Value).toArray below meth c H locs 0 0 Q (F0 m 0 ls ([])) by rw [hH, hlo] at hgo; exact hgo
  clear hH hlo
  have hl : lv_has ls 1 [(0, .ref h)] := hl
  refine lv_aload_n X.1.1 X.1.2.1 d_LoopRankerModel_fired_0 rfl (lv_at hl 0 rfl) ?_
  refine fg_LoopRankerModel_130 X hP 0 rfl rfl d_LoopRankerModel_fired_1 ?_
  exact hret 4 H locs ls _ _ hP hD hS d_LoopRankerModel_fired_4 (rfl) (rfl)
set_option maxHeartbeats 4000000 in
set_option maxRecDepth 100000 in
theorem c_LoopRankerModel_value (h m1 p1 q1 r1 w1 o1 f1 s1 : Nat) (nc : Nat) (my fp fq fr up : Nat → Int32) (sm : Int32) (top bot : Int64) (lv : Nat) (ol fi se : Nat → Int32) (x y : Int64) (fd : Int32) (v : Int32) : wk_kl l y_LoopRankerModel_value (Cond.code y_LoopRankerModel_value b_LoopRankerModel_value 2 (some .long) :: BW) rm_LoopRankerModel_value D cls (kT cI cJ cS) nz [.ref h, .int v] (mW cI h m1 p1 q1 r1 w1 o1 f1 s1 nc my fp fq fr up sm top bot lv ol fi se x y fd) (fun wz => wz = mW cI h m1 p1 q1 r1 w1 o1 f1 s1 nc my fp fq fr up sm top bot lv ol fi se x y fd) (m_vx v x y) := by
  refine ws_l (plainFor_of_name (by decide)) (Nat.le_of_ble_eq_true rfl) ?_
  intro p e s m below meth c A ls Q X hret hl hP hD hS
  obtain ⟨H, hH⟩ : ∃ H, H = s.heap := ⟨_, rfl⟩
  obtain ⟨locs, hlo⟩ : ∃ locs : List Loc, locs = [] := ⟨_, rfl⟩
  have hP : va_P D cls (mW cI h m1 p1 q1 r1 w1 o1 f1 s1 nc my fp fq fr up sm top bot lv ol fi se x y fd) H := by rw [hH]; exact hP
  have hS : va_S A s.heap H locs := by rw [hH, hlo]; exact hS
  suffices hgo : W p l e rm_LoopRankerModel_value s m ([.ref h, .int v] : List Value).toArray below meth c H locs 0 0 Q (F0 m 0 ls ([])) by rw [hH, hlo] at hgo; exact hgo
  clear hH hlo
  have hl : lv_has ls 2 [(0, .ref h), (1, .int v)] := hl
  refine lv_iload_n X.1.1 X.1.2.1 d_LoopRankerModel_value_0 rfl (lv_at hl 1 rfl) ?_
  refine wi0_ne (tgt := 11) X.1.1 X.1.2.1 d_LoopRankerModel_value_1 (by decide) (fun h1 => ?_) (fun h1 => ?_)
  · refine lv_iload_n X.1.1 X.1.2.1 d_LoopRankerModel_value_11 rfl (lv_at hl 1 rfl) ?_
    refine lv_iconst (v := (1 : Int32)) X.1.1 X.1.2.1 d_LoopRankerModel_value_12 (by decide) ?_
    refine wi_ne (tgt := 23) X.1.1 X.1.2.1 d_LoopRankerModel_value_13 (by decide) (fun h13 => ?_) (fun h13 => ?_)
    · refine lv_lconst (v := 0) X.1.1 X.1.2.1 d_LoopRankerModel_value_23 (by decide) ?_
      exact hret 24 H locs ls _ _ hP hD hS d_LoopRankerModel_value_24 (by first | (simp only [m_vx, if_neg h1, if_neg h13]; done) | simp [m_vx, h1, h13]) (rfl)
    · refine lv_aload_n X.1.1 X.1.2.1 d_LoopRankerModel_value_16 rfl (lv_at hl 0 rfl) ?_
      refine fg_LoopRankerModel_127 X hP 0 rfl rfl d_LoopRankerModel_value_17 ?_
      refine lv_goto (tgt := 24) X.1.1 X.1.2.1 d_LoopRankerModel_value_20 (by decide) ?_
      exact hret 24 H locs ls _ _ hP hD hS d_LoopRankerModel_value_24 (by first | (simp only [m_vx, if_neg h1, if_pos h13]; done) | simp [m_vx, h1, h13]) (rfl)
  · refine lv_aload_n X.1.1 X.1.2.1 d_LoopRankerModel_value_4 rfl (lv_at hl 0 rfl) ?_
    refine fg_LoopRankerModel_124 X hP 0 rfl rfl d_LoopRankerModel_value_5 ?_
    refine lv_goto (tgt := 24) X.1.1 X.1.2.1 d_LoopRankerModel_value_8 (by decide) ?_
    exact hret 24 H locs ls _ _ hP hD hS d_LoopRankerModel_value_24 (by first | (simp only [m_vx, if_pos h1]; done) | simp [m_vx, h1]) (rfl)
set_option maxHeartbeats 4000000 in
set_option maxRecDepth 100000 in
theorem c_LoopRankerModel_start (h m1 p1 q1 r1 w1 o1 f1 s1 : Nat) (nc : Nat) (my fp fq fr up : Nat → Int32) (sm : Int32) (top bot : Int64) (lv : Nat) (ol fi se : Nat → Int32) (x y : Int64) (fd : Int32) (nx ny : Int32) : wk_ki l y_LoopRankerModel_start (Cond.code y_LoopRankerModel_start b_LoopRankerModel_start 3 (some .boolean) :: BW) rm_LoopRankerModel_start D cls (kT cI cJ cS) nz [.ref h, .int nx, .int ny] (mW cI h m1 p1 q1 r1 w1 o1 f1 s1 nc my fp fq fr up sm top bot lv ol fi se x y fd) (fun wz => wz = if m_wi nx 1000000 = 0 ∨ m_wi ny 1000000 = 0 then mW cI h m1 p1 q1 r1 w1 o1 f1 s1 nc my fp fq fr up sm top bot lv ol fi se x y fd else mW cI h m1 p1 q1 r1 w1 o1 f1 s1 nc my fp fq fr up sm top bot lv ol fi se nx.toInt64 ny.toInt64 0) (if m_wi nx 1000000 = 0 ∨ m_wi ny 1000000 = 0 then 0 else 1) := by
  refine ws_z (plainFor_of_name (by decide)) (Nat.le_of_ble_eq_true rfl) ?_
  intro p e s m below meth c A ls Q X hret hl hP hD hS
  obtain ⟨H, hH⟩ : ∃ H, H = s.heap := ⟨_, rfl⟩
  obtain ⟨locs, hlo⟩ : ∃ locs : List Loc, locs = [] := ⟨_, rfl⟩
  have hP : va_P D cls (mW cI h m1 p1 q1 r1 w1 o1 f1 s1 nc my fp fq fr up sm top bot lv ol fi se x y fd) H := by rw [hH]; exact hP
  have hS : va_S A s.heap H locs := by rw [hH, hlo]; exact hS
  suffices hgo : W p l e rm_LoopRankerModel_start s m ([.ref h, .int nx, .int ny] : List Value).toArray below meth c H locs 0 0 Q (F0 m 0 ls ([])) by rw [hH, hlo] at hgo; exact hgo
  clear hH hlo
  have hl : lv_has ls 3 [(0, .ref h), (1, .int nx), (2, .int ny)] := hl
  refine lv_iload_n X.1.1 X.1.2.1 d_LoopRankerModel_start_0 rfl (lv_at hl 1 rfl) ?_
  refine lv_ldc (v := 1000000) X.1.1 X.1.2.1 X.1.2.2.2.1 (X.1.2.2.2.2 _ kc_LoopRankerModel_123) d_LoopRankerModel_start_1 ?_
  refine wc_Si [.int nx, .int (1000000 : Int32)] X nz_nest (c_LoopRankerModel_within nx (1000000 : Int32) ) (cw_LoopRankerModel_42 X.1.2.2.2.2 X.2.2.1 (by decide)) (mW cI h m1 p1 q1 r1 w1 o1 f1 s1 nc my fp fq fr up sm top bot lv ol fi se x y fd) ([]) (rfl) hP hD hS rfl rfl hl.1 (Nat.le_of_ble_eq_true rfl) (by decide) d_LoopRankerModel_start_3 (fun H locs wn hwn hP hD hS => ?_)
  subst hwn
  have hP : va_P D cls (mW cI h m1 p1 q1 r1 w1 o1 f1 s1 nc my fp fq fr up sm top bot lv ol fi se x y fd) H := hP
  have hD : va_D A (mW cI h m1 p1 q1 r1 w1 o1 f1 s1 nc my fp fq fr up sm top bot lv ol fi se x y fd) := hD
  refine wi0_eq (tgt := 18) X.1.1 X.1.2.1 d_LoopRankerModel_start_6 (by decide) (fun h6 => ?_) (fun h6 => ?_)
  · refine lv_iconst (v := (0 : Int32)) X.1.1 X.1.2.1 d_LoopRankerModel_start_18 (by decide) ?_
    exact hret 19 H locs ls _ _ hP hD hS d_LoopRankerModel_start_19 (Or.inl rfl) (by first | (simp only [if_pos h6]; done) | simp [h6]) (by first | (simp only [if_pos h6]; done) | simp [h6])
  · refine lv_iload_n X.1.1 X.1.2.1 d_LoopRankerModel_start_9 rfl (lv_at hl 2 rfl) ?_
    refine lv_ldc (v := 1000000) X.1.1 X.1.2.1 X.1.2.2.2.1 (X.1.2.2.2.2 _ kc_LoopRankerModel_123) d_LoopRankerModel_start_10 ?_
    refine wc_Si [.int ny, .int (1000000 : Int32)] X nz_nest (c_LoopRankerModel_within ny (1000000 : Int32) ) (cw_LoopRankerModel_42 X.1.2.2.2.2 X.2.2.1 (by decide)) (mW cI h m1 p1 q1 r1 w1 o1 f1 s1 nc my fp fq fr up sm top bot lv ol fi se x y fd) ([]) (rfl) hP hD hS rfl rfl hl.1 (Nat.le_of_ble_eq_true rfl) (by decide) d_LoopRankerModel_start_12 (fun H locs wn hwn hP hD hS => ?_)
    subst hwn
    have hP : va_P D cls (mW cI h m1 p1 q1 r1 w1 o1 f1 s1 nc my fp fq fr up sm top bot lv ol fi se x y fd) H := hP
    have hD : va_D A (mW cI h m1 p1 q1 r1 w1 o1 f1 s1 nc my fp fq fr up sm top bot lv ol fi se x y fd) := hD
    refine wi0_ne (tgt := 20) X.1.1 X.1.2.1 d_LoopRankerModel_start_15 (by decide) (fun h15 => ?_) (fun h15 => ?_)
    · refine lv_aload_n X.1.1 X.1.2.1 d_LoopRankerModel_start_20 rfl (lv_at hl 0 rfl) ?_
      refine lv_iload_n X.1.1 X.1.2.1 d_LoopRankerModel_start_21 rfl (lv_at hl 1 rfl) ?_
      refine lv_i2l X.1.1 X.1.2.1 d_LoopRankerModel_start_22 rfl ?_
      refine fp_LoopRankerModel_124 X hP hD hS 0 rfl rfl rfl rfl d_LoopRankerModel_start_23 (fun H locs hP hD hS => ?_)
      have hP : va_P D cls (mW cI h m1 p1 q1 r1 w1 o1 f1 s1 nc my fp fq fr up sm top bot lv ol fi se nx.toInt64 y fd) H := hP
      have hD : va_D A (mW cI h m1 p1 q1 r1 w1 o1 f1 s1 nc my fp fq fr up sm top bot lv ol fi se nx.toInt64 y fd) := hD
      refine lv_aload_n X.1.1 X.1.2.1 d_LoopRankerModel_start_26 rfl (lv_at hl 0 rfl) ?_
      refine lv_iload_n X.1.1 X.1.2.1 d_LoopRankerModel_start_27 rfl (lv_at hl 2 rfl) ?_
      refine lv_i2l X.1.1 X.1.2.1 d_LoopRankerModel_start_28 rfl ?_
      refine fp_LoopRankerModel_127 X hP hD hS 0 rfl rfl rfl rfl d_LoopRankerModel_start_29 (fun H locs hP hD hS => ?_)
      have hP : va_P D cls (mW cI h m1 p1 q1 r1 w1 o1 f1 s1 nc my fp fq fr up sm top bot lv ol fi se nx.toInt64 ny.toInt64 fd) H := hP
      have hD : va_D A (mW cI h m1 p1 q1 r1 w1 o1 f1 s1 nc my fp fq fr up sm top bot lv ol fi se nx.toInt64 ny.toInt64 fd) := hD
      refine lv_aload_n X.1.1 X.1.2.1 d_LoopRankerModel_start_32 rfl (lv_at hl 0 rfl) ?_
      refine lv_iconst (v := (0 : Int32)) X.1.1 X.1.2.1 d_LoopRankerModel_start_33 (by decide) ?_
      refine fp_LoopRankerModel_130 X hP hD hS 0 rfl rfl rfl rfl d_LoopRankerModel_start_34 (fun H locs hP hD hS => ?_)
      have hP : va_P D cls (mW cI h m1 p1 q1 r1 w1 o1 f1 s1 nc my fp fq fr up sm top bot lv ol fi se nx.toInt64 ny.toInt64 (0 : Int32)) H := hP
      have hD : va_D A (mW cI h m1 p1 q1 r1 w1 o1 f1 s1 nc my fp fq fr up sm top bot lv ol fi se nx.toInt64 ny.toInt64 (0 : Int32)) := hD
      refine lv_iconst (v := (1 : Int32)) X.1.1 X.1.2.1 d_LoopRankerModel_start_37 (by decide) ?_
      exact hret 38 H locs ls _ _ hP hD hS d_LoopRankerModel_start_38 (Or.inr rfl) (by first | (simp only [if_neg h6, if_neg h15]; done) | simp [h6, h15]) (by first | (simp only [if_neg h6, if_neg h15]; done) | simp [h6, h15])
    · refine lv_iconst (v := (0 : Int32)) X.1.1 X.1.2.1 d_LoopRankerModel_start_18 (by decide) ?_
      exact hret 19 H locs ls _ _ hP hD hS d_LoopRankerModel_start_19 (Or.inl rfl) (by first | (simp only [if_neg h6, if_pos h15]; done) | simp [h6, h15]) (by first | (simp only [if_neg h6, if_pos h15]; done) | simp [h6, h15])
end CT
