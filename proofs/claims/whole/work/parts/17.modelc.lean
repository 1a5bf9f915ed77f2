section WN2
variable {p : Program} {l : Launch} {e : Env} {R : Room} {s : State} {m : MethodId} {args : Array Value} {below : List Frame} {meth : Method} {c : Code} {H : Heap} {locs : List Loc} {cells slots : Nat} {Q : State → Prop}
variable {cc : ByteArray} {pc : Nat} {ls : Array Slot} {rest : List Value}
theorem wn_if_lt {a : Nat} (hx : p.tables.exec = Jvm.exec) (hb : c.code = cc) {off : Int} {tgt : Nat} (hdg : decode cc pc = .ok (.ifCond .lt off, 3)) (ht : (pc : Int) + off = (tgt : Int)) (ba : a < 2 ^ 31)
    (kt : False → W p l e R s m args below meth c H locs cells slots Q (F0 m tgt ls rest)) (kf : ¬ False → W p l e R s m args below meth c H locs cells slots Q (F0 m (pc + 3) ls rest)) : W p l e R s m args below meth c H locs cells slots Q (F0 m pc ls (.int (nI a) :: rest)) :=
  lv_if_lt hx hb hdg ht (fun h => absurd h (nI_pos ba)) (fun _ => kf id)
end WN2
section CT
variable {l : Launch} {D : va_G} {cI cJ cS : ClassId}
set_option maxHeartbeats 4000000 in
set_option maxRecDepth 100000 in
theorem c_LoopRankerModel_update_bad (h m1 p1 q1 r1 w1 o1 f1 s1 : Nat) (nc : Nat) (my fp fq fr up : Nat → Int32) (sm : Int32) (top bot : Int64) (lv : Nat) (ol fi se : Nat → Int32) (x y : Int64) (fd : Int32) (t v ua ub uk : Int32) (hbad : m_th nc t = 0) : wk_ki l y_LoopRankerModel_update (Cond.code y_LoopRankerModel_update b_LoopRankerModel_update 7 (some .boolean) :: BW) rm_LoopRankerModel_update D cls (kT cI cJ cS) nz [.ref h, .int t, .int v, .int ua, .int ub, .int uk] (mW cI h m1 p1 q1 r1 w1 o1 f1 s1 nc my fp fq fr up sm top bot lv ol fi se x y fd) (fun wz => wz = mW cI h m1 p1 q1 r1 w1 o1 f1 s1 nc my fp fq fr up sm top bot lv ol fi se x y fd) 0 := by
  refine ws_z (plainFor_of_name (by decide)) (Nat.le_of_ble_eq_true rfl) ?_
  intro p e s m below meth c A ls Q X hret hl hP hD hS
  obtain ⟨H, hH⟩ : ∃ H, H = s.heap := ⟨_, rfl⟩
  obtain ⟨locs, hlo⟩ : ∃ locs : List Loc, locs = [] := ⟨_, rfl⟩
  have hP : va_P D cls (mW cI h m1 p1 q1 r1 w1 o1 f1 s1 nc my fp fq fr up sm top bot lv ol fi se x y fd) H := by rw [hH]; exact hP
  have hS : va_S A s.heap H locs := by rw [hH, hlo]; exact hS
  suffices hgo : W p l e rm_LoopRankerModel_update s m ([.ref h, .int t, .int v, .int ua, .int ub, .int uk] : List Value).toArray below meth c H locs 0 0 Q (F0 m 0 ls ([])) by rw [hH, hlo] at hgo; exact hgo
  clear hH hlo
  have hl : lv_has ls 7 [(0, .ref h), (1, .int t), (2, .int v), (3, .int ua), (4, .int ub), (5, .int uk)] := hl
  refine lv_aload_n X.1.1 X.1.2.1 d_LoopRankerModel_update_0 rfl (lv_at hl 0 rfl) ?_
  refine lv_iload_n X.1.1 X.1.2.1 d_LoopRankerModel_update_1 rfl (lv_at hl 1 rfl) ?_
  refine wc_Vi [.int t] 4 0 X nz_nest (c_LoopRankerModel_there h m1 p1 q1 r1 w1 o1 f1 s1 nc my fp fq fr up sm top bot lv ol fi se x y fd t ) (cw_LoopRankerModel_38 X.1.2.2.2.2 X.2.2.1 (by decide)) ([]) ([]) (rfl) hP hD hS rfl rfl rfl rfl hl.1 (Nat.le_of_ble_eq_true rfl) (by decide) d_LoopRankerModel_update_2 (fun H locs wn hwn hP hD hS => ?_)
  subst hwn
  have hP : va_P D cls (mW cI h m1 p1 q1 r1 w1 o1 f1 s1 nc my fp fq fr up sm top bot lv ol fi se x y fd) H := hP
  have hD : va_D A (mW cI h m1 p1 q1 r1 w1 o1 f1 s1 nc my fp fq fr up sm top bot lv ol fi se x y fd) := hD
  refine wi0_eq (tgt := 44) X.1.1 X.1.2.1 d_LoopRankerModel_update_5 (by decide) (fun h5 => ?_) (fun h5 => absurd hbad h5)
  refine lv_iconst (v := (0 : Int32)) X.1.1 X.1.2.1 d_LoopRankerModel_update_44 (by decide) ?_
  exact hret 45 H locs ls _ _ hP hD hS d_LoopRankerModel_update_45 (Or.inl rfl) (rfl) (rfl)
set_option maxHeartbeats 4000000 in
set_option maxRecDepth 100000 in
theorem c_LoopRankerModel_update_no (h m1 p1 q1 r1 w1 o1 f1 s1 : Nat) (nc : Nat) (my fp fq fr up : Nat → Int32) (sm : Int32) (top bot : Int64) (lv : Nat) (ol fi se : Nat → Int32) (x y : Int64) (fd : Int32) (t : Nat) (v ua ub uk : Int32) (ht : t < nc) (hc : nc ≤ 6) (hno : v < 0 ∨ 1 < v ∨ m_wi ua 3 = 0 ∨ m_wi ub 3 = 0 ∨ m_wi uk 20 = 0) : wk_ki l y_LoopRankerModel_update (Cond.code y_LoopRankerModel_update b_LoopRankerModel_update 7 (some .boolean) :: BW) rm_LoopRankerModel_update D cls (kT cI cJ cS) nz [.ref h, .int (nI t), .int v, .int ua, .int ub, .int uk] (mW cI h m1 p1 q1 r1 w1 o1 f1 s1 nc my fp fq fr up sm top bot lv ol fi se x y fd) (fun wz => wz = mW cI h m1 p1 q1 r1 w1 o1 f1 s1 nc my fp fq fr up sm top bot lv ol fi se x y fd) 0 := by
  refine ws_z (plainFor_of_name (by decide)) (Nat.le_of_ble_eq_true rfl) ?_
  intro p e s m below meth c A ls Q X hret hl hP hD hS
  obtain ⟨H, hH⟩ : ∃ H, H = s.heap := ⟨_, rfl⟩
  obtain ⟨locs, hlo⟩ : ∃ locs : List Loc, locs = [] := ⟨_, rfl⟩
  have hP : va_P D cls (mW cI h m1 p1 q1 r1 w1 o1 f1 s1 nc my fp fq fr up sm top bot lv ol fi se x y fd) H := by rw [hH]; exact hP
  have hS : va_S A s.heap H locs := by rw [hH, hlo]; exact hS
  suffices hgo : W p l e rm_LoopRankerModel_update s m ([.ref h, .int (nI t), .int v, .int ua, .int ub, .int uk] : List Value).toArray below meth c H locs 0 0 Q (F0 m 0 ls ([])) by rw [hH, hlo] at hgo; exact hgo
  clear hH hlo
  have hl : lv_has ls 7 [(0, .ref h), (1, .int (nI t)), (2, .int v), (3, .int ua), (4, .int ub), (5, .int uk)] := hl
  refine lv_aload_n X.1.1 X.1.2.1 d_LoopRankerModel_update_0 rfl (lv_at hl 0 rfl) ?_
  refine lv_iload_n X.1.1 X.1.2.1 d_LoopRankerModel_update_1 rfl (lv_at hl 1 rfl) ?_
  refine wc_Vi [.int (nI t)] 4 0 X nz_nest (c_LoopRankerModel_there h m1 p1 q1 r1 w1 o1 f1 s1 nc my fp fq fr up sm top bot lv ol fi se x y fd (nI t) ) (cw_LoopRankerModel_38 X.1.2.2.2.2 X.2.2.1 (by decide)) ([]) ([]) (rfl) hP hD hS rfl rfl rfl rfl hl.1 (Nat.le_of_ble_eq_true rfl) (by decide) d_LoopRankerModel_update_2 (fun H locs wn hwn hP hD hS => ?_)
  subst hwn
  have hP : va_P D cls (mW cI h m1 p1 q1 r1 w1 o1 f1 s1 nc my fp fq fr up sm top bot lv ol fi se x y fd) H := hP
  have hD : va_D A (mW cI h m1 p1 q1 r1 w1 o1 f1 s1 nc my fp fq fr up sm top bot lv ol fi se x y fd) := hD
  refine wi0_eq (tgt := 44) X.1.1 X.1.2.1 d_LoopRankerModel_update_5 (by decide) (fun h5 => absurd h5 (by rw [m_th_1 (by omega) (by omega)]; decide)) (fun h5 => ?_)
  refine lv_iload_n X.1.1 X.1.2.1 d_LoopRankerModel_update_8 rfl (lv_at hl 2 rfl) ?_
  refine wi0_lt (tgt := 44) X.1.1 X.1.2.1 d_LoopRankerModel_update_9 (by decide) (fun h9 => ?_) (fun h9 => ?_)
  · refine lv_iconst (v := (0 : Int32)) X.1.1 X.1.2.1 d_LoopRankerModel_update_44 (by decide) ?_
    exact hret 45 H locs ls _ _ hP hD hS d_LoopRankerModel_update_45 (Or.inl rfl) (rfl) (rfl)
  · refine lv_iload_n X.1.1 X.1.2.1 d_LoopRankerModel_update_12 rfl (lv_at hl 2 rfl) ?_
    refine lv_iconst (v := (1 : Int32)) X.1.1 X.1.2.1 d_LoopRankerModel_update_13 (by decide) ?_
    refine wi_gt (tgt := 44) X.1.1 X.1.2.1 d_LoopRankerModel_update_14 (by decide) (fun h14 => ?_) (fun h14 => ?_)
    · refine lv_iconst (v := (0 : Int32)) X.1.1 X.1.2.1 d_LoopRankerModel_update_44 (by decide) ?_
      exact hret 45 H locs ls _ _ hP hD hS d_LoopRankerModel_update_45 (Or.inl rfl) (rfl) (rfl)
    · refine lv_iload_n X.1.1 X.1.2.1 d_LoopRankerModel_update_17 rfl (lv_at hl 3 rfl) ?_
      refine lv_iconst (v := (3 : Int32)) X.1.1 X.1.2.1 d_LoopRankerModel_update_18 (by decide) ?_
      refine wc_Si [.int ua, .int (3 : Int32)] X nz_nest (c_LoopRankerModel_within ua (3 : Int32) ) (cw_LoopRankerModel_42 X.1.2.2.2.2 X.2.2.1 (by decide)) (mW cI h m1 p1 q1 r1 w1 o1 f1 s1 nc my fp fq fr up sm top bot lv ol fi se x y fd) ([]) (rfl) hP hD hS rfl rfl hl.1 (Nat.le_of_ble_eq_true rfl) (by decide) d_LoopRankerModel_update_19 (fun H locs wn hwn hP hD hS => ?_)
      subst hwn
      have hP : va_P D cls (mW cI h m1 p1 q1 r1 w1 o1 f1 s1 nc my fp fq fr up sm top bot lv ol fi se x y fd) H := hP
      have hD : va_D A (mW cI h m1 p1 q1 r1 w1 o1 f1 s1 nc my fp fq fr up sm top bot lv ol fi se x y fd) := hD
      refine wi0_eq (tgt := 44) X.1.1 X.1.2.1 d_LoopRankerModel_update_22 (by decide) (fun h22 => ?_) (fun h22 => ?_)
      · refine lv_iconst (v := (0 : Int32)) X.1.1 X.1.2.1 d_LoopRankerModel_update_44 (by decide) ?_
        exact hret 45 H locs ls _ _ hP hD hS d_LoopRankerModel_update_45 (Or.inl rfl) (rfl) (rfl)
      · refine lv_iload X.1.1 X.1.2.1 d_LoopRankerModel_update_25 (lv_at hl 4 rfl) ?_
        refine lv_iconst (v := (3 : Int32)) X.1.1 X.1.2.1 d_LoopRankerModel_update_27 (by decide) ?_
        refine wc_Si [.int ub, .int (3 : Int32)] X nz_nest (c_LoopRankerModel_within ub (3 : Int32) ) (cw_LoopRankerModel_42 X.1.2.2.2.2 X.2.2.1 (by decide)) (mW cI h m1 p1 q1 r1 w1 o1 f1 s1 nc my fp fq fr up sm top bot lv ol fi se x y fd) ([]) (rfl) hP hD hS rfl rfl hl.1 (Nat.le_of_ble_eq_true rfl) (by decide) d_LoopRankerModel_update_28 (fun H locs wn hwn hP hD hS => ?_)
        subst hwn
        have hP : va_P D cls (mW cI h m1 p1 q1 r1 w1 o1 f1 s1 nc my fp fq fr up sm top bot lv ol fi se x y fd) H := hP
        have hD : va_D A (mW cI h m1 p1 q1 r1 w1 o1 f1 s1 nc my fp fq fr up sm top bot lv ol fi se x y fd) := hD
        refine wi0_eq (tgt := 44) X.1.1 X.1.2.1 d_LoopRankerModel_update_31 (by decide) (fun h31 => ?_) (fun h31 => ?_)
        · refine lv_iconst (v := (0 : Int32)) X.1.1 X.1.2.1 d_LoopRankerModel_update_44 (by decide) ?_
          exact hret 45 H locs ls _ _ hP hD hS d_LoopRankerModel_update_45 (Or.inl rfl) (rfl) (rfl)
        · refine lv_iload X.1.1 X.1.2.1 d_LoopRankerModel_update_34 (lv_at hl 5 rfl) ?_
          refine lv_bipush (v := (20 : Int32)) X.1.1 X.1.2.1 d_LoopRankerModel_update_36 (by decide) ?_
          refine wc_Si [.int uk, .int (20 : Int32)] X nz_nest (c_LoopRankerModel_within uk (20 : Int32) ) (cw_LoopRankerModel_42 X.1.2.2.2.2 X.2.2.1 (by decide)) (mW cI h m1 p1 q1 r1 w1 o1 f1 s1 nc my fp fq fr up sm top bot lv ol fi se x y fd) ([]) (rfl) hP hD hS rfl rfl hl.1 (Nat.le_of_ble_eq_true rfl) (by decide) d_LoopRankerModel_update_38 (fun H locs wn hwn hP hD hS => ?_)
          subst hwn
          have hP : va_P D cls (mW cI h m1 p1 q1 r1 w1 o1 f1 s1 nc my fp fq fr up sm top bot lv ol fi se x y fd) H := hP
          have hD : va_D A (mW cI h m1 p1 q1 r1 w1 o1 f1 s1 nc my fp fq fr up sm top bot lv ol fi se x y fd) := hD
          refine wi0_ne (tgt := 46) X.1.1 X.1.2.1 d_LoopRankerModel_update_41 (by decide) (fun h41 => absurd hno (by rintro (z | z | z | z | z) <;> first | exact h9 z | exact h14 z | exact h22 z | exact h31 z | exact h41 z)) (fun h41 => ?_)
          refine lv_iconst (v := (0 : Int32)) X.1.1 X.1.2.1 d_LoopRankerModel_update_44 (by decide) ?_
          exact hret 45 H locs ls _ _ hP hD hS d_LoopRankerModel_update_45 (Or.inl rfl) (rfl) (rfl)
set_option maxHeartbeats 4000000 in
set_option maxRecDepth 100000 in
theorem c_LoopRankerModel_update (h m1 p1 q1 r1 w1 o1 f1 s1 : Nat) (nc : Nat) (my fp fq fr up : Nat → Int32) (sm : Int32) (top bot : Int64) (lv : Nat) (ol fi se : Nat → Int32) (x y : Int64) (fd : Int32) (t w : Nat) (ua ub uk : Int32) (ht : t < nc) (hc : nc ≤ 6) (hw : w < 2) (hok : ¬ (m_wi ua 3 = 0 ∨ m_wi ub 3 = 0 ∨ m_wi uk 20 = 0)) : wk_ki l y_LoopRankerModel_update (Cond.code y_LoopRankerModel_update b_LoopRankerModel_update 7 (some .boolean) :: BW) rm_LoopRankerModel_update D cls (kT cI cJ cS) nz [.ref h, .int (nI t), .int (nI w), .int ua, .int ub, .int uk] (mW cI h m1 p1 q1 r1 w1 o1 f1 s1 nc my fp fq fr up sm top bot lv ol fi se x y fd) (fun wz => wz = mW cI h m1 p1 q1 r1 w1 o1 f1 s1 nc my fp fq fr (m_upd up t w ua ub uk) sm top bot lv ol fi se x y fd) 1 := by
  refine ws_z (plainFor_of_name (by decide)) (Nat.le_of_ble_eq_true rfl) ?_
  intro p e s m below meth c A ls Q X hret hl hP hD hS
  obtain ⟨H, hH⟩ : ∃ H, H = s.heap := ⟨_, rfl⟩
  obtain ⟨locs, hlo⟩ : ∃ locs : List Loc, locs = [] := ⟨_, rfl⟩
  have hP : va_P D cls (mW cI h m1 p1 q1 r1 w1 o1 f1 s1 nc my fp fq fr up sm top bot lv ol fi se x y fd) H := by rw [hH]; exact hP
  have hS : va_S A s.heap H locs := by rw [hH, hlo]; exact hS
  suffices hgo : W p l e rm_LoopRankerModel_update s m ([.ref h, .int (nI t), .int (nI w), .int ua, .int ub, .int uk] : List Value).toArray below meth c H locs 0 0 Q (F0 m 0 ls ([])) by rw [hH, hlo] at hgo; exact hgo
  clear hH hlo
  have hl : lv_has ls 7 [(0, .ref h), (1, .int (nI t)), (2, .int (nI w)), (3, .int ua), (4, .int ub), (5, .int uk)] := hl
  refine lv_aload_n X.1.1 X.1.2.1 d_LoopRankerModel_update_0 rfl (lv_at hl 0 rfl) ?_
  refine lv_iload_n X.1.1 X.1.2.1 d_LoopRankerModel_update_1 rfl (lv_at hl 1 rfl) ?_
  refine wc_Vi [.int (nI t)] 4 0 X nz_nest (c_LoopRankerModel_there h m1 p1 q1 r1 w1 o1 f1 s1 nc my fp fq fr up sm top bot lv ol fi se x y fd (nI t) ) (cw_LoopRankerModel_38 X.1.2.2.2.2 X.2.2.1 (by decide)) ([]) ([]) (rfl) hP hD hS rfl rfl rfl rfl hl.1 (Nat.le_of_ble_eq_true rfl) (by decide) d_LoopRankerModel_update_2 (fun H locs wn hwn hP hD hS => ?_)
  subst hwn
  have hP : va_P D cls (mW cI h m1 p1 q1 r1 w1 o1 f1 s1 nc my fp fq fr up sm top bot lv ol fi se x y fd) H := hP
  have hD : va_D A (mW cI h m1 p1 q1 r1 w1 o1 f1 s1 nc my fp fq fr up sm top bot lv ol fi se x y fd) := hD
  refine wi0_eq (tgt := 44) X.1.1 X.1.2.1 d_LoopRankerModel_update_5 (by decide) (fun h5 => absurd h5 (by rw [m_th_1 (by omega) (by omega)]; decide)) (fun h5 => ?_)
  refine lv_iload_n X.1.1 X.1.2.1 d_LoopRankerModel_update_8 rfl (lv_at hl 2 rfl) ?_
  refine wn_if_lt (a := w) (tgt := 44) X.1.1 X.1.2.1 d_LoopRankerModel_update_9 (by decide) (by omega) (fun h9 => False.elim h9) (fun h9 => ?_)
  refine lv_iload_n X.1.1 X.1.2.1 d_LoopRankerModel_update_12 rfl (lv_at hl 2 rfl) ?_
  refine lv_iconst (v := (1 : Int32)) X.1.1 X.1.2.1 d_LoopRankerModel_update_13 (by decide) ?_
  refine wn_gt (a := w) (b := 1) (tgt := 44) X.1.1 X.1.2.1 d_LoopRankerModel_update_14 (by decide) (by omega) (by omega) (fun h14 => by exfalso; omega) (fun h14 => ?_)
  refine lv_iload_n X.1.1 X.1.2.1 d_LoopRankerModel_update_17 rfl (lv_at hl 3 rfl) ?_
  refine lv_iconst (v := (3 : Int32)) X.1.1 X.1.2.1 d_LoopRankerModel_update_18 (by decide) ?_
  refine wc_Si [.int ua, .int (3 : Int32)] X nz_nest (c_LoopRankerModel_within ua (3 : Int32) ) (cw_LoopRankerModel_42 X.1.2.2.2.2 X.2.2.1 (by decide)) (mW cI h m1 p1 q1 r1 w1 o1 f1 s1 nc my fp fq fr up sm top bot lv ol fi se x y fd) ([]) (rfl) hP hD hS rfl rfl hl.1 (Nat.le_of_ble_eq_true rfl) (by decide) d_LoopRankerModel_update_19 (fun H locs wn hwn hP hD hS => ?_)
  subst hwn
  have hP : va_P D cls (mW cI h m1 p1 q1 r1 w1 o1 f1 s1 nc my fp fq fr up sm top bot lv ol fi se x y fd) H := hP
  have hD : va_D A (mW cI h m1 p1 q1 r1 w1 o1 f1 s1 nc my fp fq fr up sm top bot lv ol fi se x y fd) := hD
  refine wi0_eq (tgt := 44) X.1.1 X.1.2.1 d_LoopRankerModel_update_22 (by decide) (fun h22 => absurd (by simp [h22]) hok) (fun h22 => ?_)
  refine lv_iload X.1.1 X.1.2.1 d_LoopRankerModel_update_25 (lv_at hl 4 rfl) ?_
  refine lv_iconst (v := (3 : Int32)) X.1.1 X.1.2.1 d_LoopRankerModel_update_27 (by decide) ?_
  refine wc_Si [.int ub, .int (3 : Int32)] X nz_nest (c_LoopRankerModel_within ub (3 : Int32) ) (cw_LoopRankerModel_42 X.1.2.2.2.2 X.2.2.1 (by decide)) (mW cI h m1 p1 q1 r1 w1 o1 f1 s1 nc my fp fq fr up sm top bot lv ol fi se x y fd) ([]) (rfl) hP hD hS rfl rfl hl.1 (Nat.le_of_ble_eq_true rfl) (by decide) d_LoopRankerModel_update_28 (fun H locs wn hwn hP hD hS => ?_)
  subst hwn
  have hP : va_P D cls (mW cI h m1 p1 q1 r1 w1 o1 f1 s1 nc my fp fq fr up sm top bot lv ol fi se x y fd) H := hP
  have hD : va_D A (mW cI h m1 p1 q1 r1 w1 o1 f1 s1 nc my fp fq fr up sm top bot lv ol fi se x y fd) := hD
  refine wi0_eq (tgt := 44) X.1.1 X.1.2.1 d_LoopRankerModel_update_31 (by decide) (fun h31 => absurd (by simp [h31]) hok) (fun h31 => ?_)
  refine lv_iload X.1.1 X.1.2.1 d_LoopRankerModel_update_34 (lv_at hl 5 rfl) ?_
  refine lv_bipush (v := (20 : Int32)) X.1.1 X.1.2.1 d_LoopRankerModel_update_36 (by decide) ?_
  refine wc_Si [.int uk, .int (20 : Int32)] X nz_nest (c_LoopRankerModel_within uk (20 : Int32) ) (cw_LoopRankerModel_42 X.1.2.2.2.2 X.2.2.1 (by decide)) (mW cI h m1 p1 q1 r1 w1 o1 f1 s1 nc my fp fq fr up sm top bot lv ol fi se x y fd) ([]) (rfl) hP hD hS rfl rfl hl.1 (Nat.le_of_ble_eq_true rfl) (by decide) d_LoopRankerModel_update_38 (fun H locs wn hwn hP hD hS => ?_)
  subst hwn
  have hP : va_P D cls (mW cI h m1 p1 q1 r1 w1 o1 f1 s1 nc my fp fq fr up sm top bot lv ol fi se x y fd) H := hP
  have hD : va_D A (mW cI h m1 p1 q1 r1 w1 o1 f1 s1 nc my fp fq fr up sm top bot lv ol fi se x y fd) := hD
  refine wi0_ne (tgt := 46) X.1.1 X.1.2.1 d_LoopRankerModel_update_41 (by decide) (fun h41 => ?_) (fun h41 => absurd (by simp [h41]) hok)
  refine lv_bipush (v := (6 : Int32)) X.1.1 X.1.2.1 d_LoopRankerModel_update_46 (by decide) ?_
  refine lv_iload_n X.1.1 X.1.2.1 d_LoopRankerModel_update_48 rfl (lv_at hl 1 rfl) ?_
  refine wn_mul (a := 6) (b := t) X.1.1 X.1.2.1 d_LoopRankerModel_update_49 ?_
  refine lv_iconst (v := (3 : Int32)) X.1.1 X.1.2.1 d_LoopRankerModel_update_50 (by decide) ?_
  refine lv_iload_n X.1.1 X.1.2.1 d_LoopRankerModel_update_51 rfl (lv_at hl 2 rfl) ?_
  refine wn_mul (a := 3) (b := w) X.1.1 X.1.2.1 d_LoopRankerModel_update_52 ?_
  refine wn_add (a := 6 * t) (b := 3 * w) X.1.1 X.1.2.1 d_LoopRankerModel_update_53 ?_
  refine lv_istore X.1.1 X.1.2.1 d_LoopRankerModel_update_54 hl (by decide) rfl (fun ls hl => ?_)
  have hl : lv_has ls 7 [(6, .int (nI (6 * t + (3 * w)))), (0, .ref h), (1, .int (nI t)), (2, .int (nI w)), (3, .int ua), (4, .int ub), (5, .int uk)] := hl
  refine lv_aload_n X.1.1 X.1.2.1 d_LoopRankerModel_update_56 rfl (lv_at hl 1 rfl) ?_
  refine fg_LoopRankerModel_22 X hP 0 rfl rfl d_LoopRankerModel_update_57 ?_
  refine lv_iload X.1.1 X.1.2.1 d_LoopRankerModel_update_60 (lv_at hl 0 rfl) ?_
  refine lv_iload_n X.1.1 X.1.2.1 d_LoopRankerModel_update_62 rfl (lv_at hl 4 rfl) ?_
  refine wa_ist X.1.1 X.1.2.1 X.2.1 hP hD hS 5 0 rfl rfl (6 * t + (3 * w)) rfl (by omega) (by decide) d_LoopRankerModel_update_63 (fun H locs hP hD hS => ?_)
  have hP : va_P D cls (mW cI h m1 p1 q1 r1 w1 o1 f1 s1 nc my fp fq fr (upd up (6 * t + (3 * w)) ua) sm top bot lv ol fi se x y fd) H := hP
  have hD : va_D A (mW cI h m1 p1 q1 r1 w1 o1 f1 s1 nc my fp fq fr (upd up (6 * t + (3 * w)) ua) sm top bot lv ol fi se x y fd) := hD
  refine lv_aload_n X.1.1 X.1.2.1 d_LoopRankerModel_update_64 rfl (lv_at hl 1 rfl) ?_
  refine fg_LoopRankerModel_22 X hP 0 rfl rfl d_LoopRankerModel_update_65 ?_
  refine lv_iload X.1.1 X.1.2.1 d_LoopRankerModel_update_68 (lv_at hl 0 rfl) ?_
  refine lv_iconst (v := (1 : Int32)) X.1.1 X.1.2.1 d_LoopRankerModel_update_70 (by decide) ?_
  refine wn_add (a := 6 * t + (3 * w)) (b := 1) X.1.1 X.1.2.1 d_LoopRankerModel_update_71 ?_
  refine lv_iload X.1.1 X.1.2.1 d_LoopRankerModel_update_72 (lv_at hl 5 rfl) ?_
  refine wa_ist X.1.1 X.1.2.1 X.2.1 hP hD hS 5 0 rfl rfl (6 * t + (3 * w) + 1) rfl (by omega) (by decide) d_LoopRankerModel_update_74 (fun H locs hP hD hS => ?_)
  have hP : va_P D cls (mW cI h m1 p1 q1 r1 w1 o1 f1 s1 nc my fp fq fr (upd (upd up (6 * t + (3 * w)) ua) (6 * t + (3 * w) + 1) ub) sm top bot lv ol fi se x y fd) H := hP
  have hD : va_D A (mW cI h m1 p1 q1 r1 w1 o1 f1 s1 nc my fp fq fr (upd (upd up (6 * t + (3 * w)) ua) (6 * t + (3 * w) + 1) ub) sm top bot lv ol fi se x y fd) := hD
  refine lv_aload_n X.1.1 X.1.2.1 d_LoopRankerModel_update_75 rfl (lv_at hl 1 rfl) ?_
  refine fg_LoopRankerModel_22 X hP 0 rfl rfl d_LoopRankerModel_update_76 ?_
  refine lv_iload X.1.1 X.1.2.1 d_LoopRankerModel_update_79 (lv_at hl 0 rfl) ?_
  refine lv_iconst (v := (2 : Int32)) X.1.1 X.1.2.1 d_LoopRankerModel_update_81 (by decide) ?_
  refine wn_add (a := 6 * t + (3 * w)) (b := 2) X.1.1 X.1.2.1 d_LoopRankerModel_update_82 ?_
  refine lv_iload X.1.1 X.1.2.1 d_LoopRankerModel_update_83 (lv_at hl 6 rfl) ?_
  refine wa_ist X.1.1 X.1.2.1 X.2.1 hP hD hS 5 0 rfl rfl (6 * t + (3 * w) + 2) rfl (by omega) (by decide) d_LoopRankerModel_update_85 (fun H locs hP hD hS => ?_)
  have hP : va_P D cls (mW cI h m1 p1 q1 r1 w1 o1 f1 s1 nc my fp fq fr (upd (upd (upd up (6 * t + (3 * w)) ua) (6 * t + (3 * w) + 1) ub) (6 * t + (3 * w) + 2) uk) sm top bot lv ol fi se x y fd) H := hP
  have hD : va_D A (mW cI h m1 p1 q1 r1 w1 o1 f1 s1 nc my fp fq fr (upd (upd (upd up (6 * t + (3 * w)) ua) (6 * t + (3 * w) + 1) ub) (6 * t + (3 * w) + 2) uk) sm top bot lv ol fi se x y fd) := hD
  refine lv_iconst (v := (1 : Int32)) X.1.1 X.1.2.1 d_LoopRankerModel_update_86 (by decide) ?_
  exact hret 87 H locs ls _ _ hP hD hS d_LoopRankerModel_update_87 (Or.inr rfl) (rfl) (rfl)
set_option maxHeartbeats 4000000 in
set_option maxRecDepth 100000 in
theorem c_LoopRankerModel_fire_bad (h m1 p1 q1 r1 w1 o1 f1 s1 : Nat) (nc : Nat) (my fp fq fr up : Nat → Int32) (sm : Int32) (top bot : Int64) (lv : Nat) (ol fi se : Nat → Int32) (x y : Int64) (fd : Int32) (t : Int32) (hbad : m_th nc t = 0) : wk_ki l y_LoopRankerModel_fire (Cond.code y_LoopRankerModel_fire b_LoopRankerModel_fire 7 (some .boolean) :: BW) rm_LoopRankerModel_fire D cls (kT cI cJ cS) nz [.ref h, .int t] (mW cI h m1 p1 q1 r1 w1 o1 f1 s1 nc my fp fq fr up sm top bot lv ol fi se x y fd) (fun wz => wz = mW cI h m1 p1 q1 r1 w1 o1 f1 s1 nc my fp fq fr up sm top bot lv ol fi se x y fd) 0 := by
  refine ws_z (plainFor_of_name (by decide)) (Nat.le_of_ble_eq_true rfl) ?_
  intro p e s m below meth c A ls Q X hret hl hP hD hS
  obtain ⟨H, hH⟩ : ∃ H, H = s.heap := ⟨_, rfl⟩
  obtain ⟨locs, hlo⟩ : ∃ locs : List Loc, locs = [] := ⟨_, rfl⟩
  have hP : va_P D cls (mW cI h m1 p1 q1 r1 w1 o1 f1 s1 nc my fp fq fr up sm top bot lv ol fi se x y fd) H := by rw [hH]; exact hP
  have hS : va_S A s.heap H locs := by rw [hH, hlo]; exact hS
  suffices hgo : W p l e rm_LoopRankerModel_fire s m ([.ref h, .int t] : List Value).toArray below meth c H locs 0 0 Q (F0 m 0 ls ([])) by rw [hH, hlo] at hgo; exact hgo
  clear hH hlo
  have hl : lv_has ls 7 [(0, .ref h), (1, .int t)] := hl
  refine lv_aload_n X.1.1 X.1.2.1 d_LoopRankerModel_fire_0 rfl (lv_at hl 0 rfl) ?_
  refine lv_iload_n X.1.1 X.1.2.1 d_LoopRankerModel_fire_1 rfl (lv_at hl 1 rfl) ?_
  refine wc_Vi [.int t] 4 0 X nz_nest (c_LoopRankerModel_there h m1 p1 q1 r1 w1 o1 f1 s1 nc my fp fq fr up sm top bot lv ol fi se x y fd t ) (cw_LoopRankerModel_38 X.1.2.2.2.2 X.2.2.1 (by decide)) ([]) ([]) (rfl) hP hD hS rfl rfl rfl rfl hl.1 (Nat.le_of_ble_eq_true rfl) (by decide) d_LoopRankerModel_fire_2 (fun H locs wn hwn hP hD hS => ?_)
  subst hwn
  have hP : va_P D cls (mW cI h m1 p1 q1 r1 w1 o1 f1 s1 nc my fp fq fr up sm top bot lv ol fi se x y fd) H := hP
  have hD : va_D A (mW cI h m1 p1 q1 r1 w1 o1 f1 s1 nc my fp fq fr up sm top bot lv ol fi se x y fd) := hD
  refine wi0_ne (tgt := 10) X.1.1 X.1.2.1 d_LoopRankerModel_fire_5 (by decide) (fun h5 => absurd hbad h5) (fun h5 => ?_)
  refine lv_iconst (v := (0 : Int32)) X.1.1 X.1.2.1 d_LoopRankerModel_fire_8 (by decide) ?_
  exact hret 9 H locs ls _ _ hP hD hS d_LoopRankerModel_fire_9 (Or.inl rfl) (rfl) (rfl)
set_option maxHeartbeats 4000000 in
set_option maxRecDepth 100000 in
theorem c_LoopRankerModel_fire (h m1 p1 q1 r1 w1 o1 f1 s1 : Nat) (nc : Nat) (my fp fq fr up : Nat → Int32) (sm : Int32) (top bot : Int64) (lv : Nat) (ol fi se : Nat → Int32) (x y : Int64) (fd : Int32) (t : Nat) (d : Nat) (hm : my t = nI d) (htn : t < nc) (hc : nc ≤ 6) (hd : d ≤ 4) : wk_ki l y_LoopRankerModel_fire (Cond.code y_LoopRankerModel_fire b_LoopRankerModel_fire 7 (some .boolean) :: BW) rm_LoopRankerModel_fire D cls (kT cI cJ cS) nz [.ref h, .int (nI t)] (mW cI h m1 p1 q1 r1 w1 o1 f1 s1 nc my fp fq fr up sm top bot lv ol fi se x y fd) (fun wz => wz = if m_fr fp fq fr up t d x y = 0 then mW cI h m1 p1 q1 r1 w1 o1 f1 s1 nc my fp fq fr up sm top bot lv ol fi se x y fd else mW cI h m1 p1 q1 r1 w1 o1 f1 s1 nc my fp fq fr up sm top bot lv ol fi se (m_nx up (6 * t) x y) (m_ny up (6 * t) x y) (fd + 1)) (m_fr fp fq fr up t d x y) := by
  refine ws_z (plainFor_of_name (by decide)) (Nat.le_of_ble_eq_true rfl) ?_
  intro p e s m below meth c A ls Q X hret hl hP hD hS
  obtain ⟨H, hH⟩ : ∃ H, H = s.heap := ⟨_, rfl⟩
  obtain ⟨locs, hlo⟩ : ∃ locs : List Loc, locs = [] := ⟨_, rfl⟩
  have hP : va_P D cls (mW cI h m1 p1 q1 r1 w1 o1 f1 s1 nc my fp fq fr up sm top bot lv ol fi se x y fd) H := by rw [hH]; exact hP
  have hS : va_S A s.heap H locs := by rw [hH, hlo]; exact hS
  suffices hgo : W p l e rm_LoopRankerModel_fire s m ([.ref h, .int (nI t)] : List Value).toArray below meth c H locs 0 0 Q (F0 m 0 ls ([])) by rw [hH, hlo] at hgo; exact hgo
  clear hH hlo
  have hl : lv_has ls 7 [(0, .ref h), (1, .int (nI t))] := hl
  refine lv_aload_n X.1.1 X.1.2.1 d_LoopRankerModel_fire_0 rfl (lv_at hl 0 rfl) ?_
  refine lv_iload_n X.1.1 X.1.2.1 d_LoopRankerModel_fire_1 rfl (lv_at hl 1 rfl) ?_
  refine wc_Vi [.int (nI t)] 4 0 X nz_nest (c_LoopRankerModel_there h m1 p1 q1 r1 w1 o1 f1 s1 nc my fp fq fr up sm top bot lv ol fi se x y fd (nI t) ) (cw_LoopRankerModel_38 X.1.2.2.2.2 X.2.2.1 (by decide)) ([]) ([]) (rfl) hP hD hS rfl rfl rfl rfl hl.1 (Nat.le_of_ble_eq_true rfl) (by decide) d_LoopRankerModel_fire_2 (fun H locs wn hwn hP hD hS => ?_)
  subst hwn
  have hP : va_P D cls (mW cI h m1 p1 q1 r1 w1 o1 f1 s1 nc my fp fq fr up sm top bot lv ol fi se x y fd) H := hP
  have hD : va_D A (mW cI h m1 p1 q1 r1 w1 o1 f1 s1 nc my fp fq fr up sm top bot lv ol fi se x y fd) := hD
  refine wi0_ne (tgt := 10) X.1.1 X.1.2.1 d_LoopRankerModel_fire_5 (by decide) (fun h5 => ?_) (fun h5 => absurd h5 (by rw [m_th_1 (by omega) (by omega)]; decide))
  refine lv_iconst (v := (4 : Int32)) X.1.1 X.1.2.1 d_LoopRankerModel_fire_10 (by decide) ?_
  refine lv_iload_n X.1.1 X.1.2.1 d_LoopRankerModel_fire_11 rfl (lv_at hl 1 rfl) ?_
  refine wn_mul (a := 4) (b := t) X.1.1 X.1.2.1 d_LoopRankerModel_fire_12 ?_
  refine lv_istore_n X.1.1 X.1.2.1 d_LoopRankerModel_fire_13 rfl hl (by decide) rfl (fun ls hl => ?_)
  have hl : lv_has ls 7 [(2, .int (nI (4 * t))), (0, .ref h), (1, .int (nI t))] := hl
  have lp14 : ∀ (k14 : Nat) (i : Nat) (ls : Array Slot) (H : Heap) (locs : List Loc), i + k14 = 4 * t + d → g_al fp fq fr x y k14 i = g_al fp fq fr x y d (4 * t) → lv_has ls 7 [(2, .int (nI i)), (0, .ref h), (1, .int (nI t))] → va_P D cls (mW cI h m1 p1 q1 r1 w1 o1 f1 s1 nc my fp fq fr up sm top bot lv ol fi se x y fd) H → va_D A (mW cI h m1 p1 q1 r1 w1 o1 f1 s1 nc my fp fq fr up sm top bot lv ol fi se x y fd) → va_S A s.heap H locs → W p l e rm_LoopRankerModel_fire s m ([.ref h, .int (nI t)] : List Value).toArray below meth c H locs 0 0 Q (F0 m 14 ls ([])) := by
    intro k14
    induction k14 with
    | zero =>
      intro i ls H locs hik hE hl hP hD hS
      refine lv_iload_n X.1.1 X.1.2.1 d_LoopRankerModel_fire_14 rfl (lv_at hl 0 rfl) ?_
      refine lv_iconst (v := (4 : Int32)) X.1.1 X.1.2.1 d_LoopRankerModel_fire_15 (by decide) ?_
      refine lv_iload_n X.1.1 X.1.2.1 d_LoopRankerModel_fire_16 rfl (lv_at hl 2 rfl) ?_
      refine wn_mul (a := 4) (b := t) X.1.1 X.1.2.1 d_LoopRankerModel_fire_17 ?_
      refine lv_aload_n X.1.1 X.1.2.1 d_LoopRankerModel_fire_18 rfl (lv_at hl 1 rfl) ?_
      refine fg_LoopRankerModel_7 X hP 0 rfl rfl d_LoopRankerModel_fire_19 ?_
      refine lv_iload_n X.1.1 X.1.2.1 d_LoopRankerModel_fire_22 rfl (lv_at hl 2 rfl) ?_
      refine wa_ild X.1.1 X.1.2.1 X.2.1 hP 1 0 rfl rfl t rfl (by omega) (by decide) d_LoopRankerModel_fire_23 ?_
      refine wn_top hm ?_
      refine wn_add (a := 4 * t) (b := d) X.1.1 X.1.2.1 d_LoopRankerModel_fire_24 ?_
      refine wn_ge (a := i) (b := 4 * t + d) (tgt := 72) X.1.1 X.1.2.1 d_LoopRankerModel_fire_25 (by decide) (by omega) (by omega) (fun h25 => ?_) (fun h25 => by exfalso; omega)
      refine lv_bipush (v := (6 : Int32)) X.1.1 X.1.2.1 d_LoopRankerModel_fire_72 (by decide) ?_
      refine lv_iload_n X.1.1 X.1.2.1 d_LoopRankerModel_fire_74 rfl (lv_at hl 2 rfl) ?_
      refine wn_mul (a := 6) (b := t) X.1.1 X.1.2.1 d_LoopRankerModel_fire_75 ?_
      refine lv_istore_n X.1.1 X.1.2.1 d_LoopRankerModel_fire_76 rfl hl (by decide) rfl (fun ls hl => ?_)
      have hl : lv_has ls 7 [(2, .int (nI (6 * t))), (0, .ref h), (1, .int (nI t))] := hl
      refine lv_aload_n X.1.1 X.1.2.1 d_LoopRankerModel_fire_77 rfl (lv_at hl 1 rfl) ?_
      refine fg_LoopRankerModel_22 X hP 0 rfl rfl d_LoopRankerModel_fire_78 ?_
      refine lv_iload_n X.1.1 X.1.2.1 d_LoopRankerModel_fire_81 rfl (lv_at hl 0 rfl) ?_
      refine wa_ild X.1.1 X.1.2.1 X.2.1 hP 5 0 rfl rfl (6 * t) rfl (by omega) (by decide) d_LoopRankerModel_fire_82 ?_
      refine lv_i2l X.1.1 X.1.2.1 d_LoopRankerModel_fire_83 rfl ?_
      refine lv_aload_n X.1.1 X.1.2.1 d_LoopRankerModel_fire_84 rfl (lv_at hl 1 rfl) ?_
      refine fg_LoopRankerModel_124 X hP 0 rfl rfl d_LoopRankerModel_fire_85 ?_
      refine lv_lmul X.1.1 X.1.2.1 d_LoopRankerModel_fire_88 ?_
      refine lv_aload_n X.1.1 X.1.2.1 d_LoopRankerModel_fire_89 rfl (lv_at hl 1 rfl) ?_
      refine fg_LoopRankerModel_22 X hP 0 rfl rfl d_LoopRankerModel_fire_90 ?_
      refine lv_iload_n X.1.1 X.1.2.1 d_LoopRankerModel_fire_93 rfl (lv_at hl 0 rfl) ?_
      refine lv_iconst (v := (1 : Int32)) X.1.1 X.1.2.1 d_LoopRankerModel_fire_94 (by decide) ?_
      refine wn_add (a := 6 * t) (b := 1) X.1.1 X.1.2.1 d_LoopRankerModel_fire_95 ?_
      refine wa_ild X.1.1 X.1.2.1 X.2.1 hP 5 0 rfl rfl (6 * t + 1) rfl (by omega) (by decide) d_LoopRankerModel_fire_96 ?_
      refine lv_i2l X.1.1 X.1.2.1 d_LoopRankerModel_fire_97 rfl ?_
      refine lv_aload_n X.1.1 X.1.2.1 d_LoopRankerModel_fire_98 rfl (lv_at hl 1 rfl) ?_
      refine fg_LoopRankerModel_127 X hP 0 rfl rfl d_LoopRankerModel_fire_99 ?_
      refine lv_lmul X.1.1 X.1.2.1 d_LoopRankerModel_fire_102 ?_
      refine lv_ladd X.1.1 X.1.2.1 d_LoopRankerModel_fire_103 ?_
      refine lv_aload_n X.1.1 X.1.2.1 d_LoopRankerModel_fire_104 rfl (lv_at hl 1 rfl) ?_
      refine fg_LoopRankerModel_22 X hP 0 rfl rfl d_LoopRankerModel_fire_105 ?_
      refine lv_iload_n X.1.1 X.1.2.1 d_LoopRankerModel_fire_108 rfl (lv_at hl 0 rfl) ?_
      refine lv_iconst (v := (2 : Int32)) X.1.1 X.1.2.1 d_LoopRankerModel_fire_109 (by decide) ?_
      refine wn_add (a := 6 * t) (b := 2) X.1.1 X.1.2.1 d_LoopRankerModel_fire_110 ?_
      refine wa_ild X.1.1 X.1.2.1 X.2.1 hP 5 0 rfl rfl (6 * t + 2) rfl (by omega) (by decide) d_LoopRankerModel_fire_111 ?_
      refine lv_i2l X.1.1 X.1.2.1 d_LoopRankerModel_fire_112 rfl ?_
      refine lv_ladd X.1.1 X.1.2.1 d_LoopRankerModel_fire_113 ?_
      refine lv_lstore_n X.1.1 X.1.2.1 d_LoopRankerModel_fire_114 rfl hl (by decide) rfl (fun ls hl => ?_)
      have hl : lv_has ls 7 [(3, .long (((((up (6 * t)).toInt64) * x) + (((up (6 * t + 1)).toInt64) * y)) + ((up (6 * t + 2)).toInt64))), (2, .int (nI (6 * t))), (0, .ref h), (1, .int (nI t))] := hl
      refine lv_aload_n X.1.1 X.1.2.1 d_LoopRankerModel_fire_115 rfl (lv_at hl 2 rfl) ?_
      refine fg_LoopRankerModel_22 X hP 0 rfl rfl d_LoopRankerModel_fire_116 ?_
      refine lv_iload_n X.1.1 X.1.2.1 d_LoopRankerModel_fire_119 rfl (lv_at hl 1 rfl) ?_
      refine lv_iconst (v := (3 : Int32)) X.1.1 X.1.2.1 d_LoopRankerModel_fire_120 (by decide) ?_
      refine wn_add (a := 6 * t) (b := 3) X.1.1 X.1.2.1 d_LoopRankerModel_fire_121 ?_
      refine wa_ild X.1.1 X.1.2.1 X.2.1 hP 5 0 rfl rfl (6 * t + 3) rfl (by omega) (by decide) d_LoopRankerModel_fire_122 ?_
      refine lv_i2l X.1.1 X.1.2.1 d_LoopRankerModel_fire_123 rfl ?_
      refine lv_aload_n X.1.1 X.1.2.1 d_LoopRankerModel_fire_124 rfl (lv_at hl 2 rfl) ?_
      refine fg_LoopRankerModel_124 X hP 0 rfl rfl d_LoopRankerModel_fire_125 ?_
      refine lv_lmul X.1.1 X.1.2.1 d_LoopRankerModel_fire_128 ?_
      refine lv_aload_n X.1.1 X.1.2.1 d_LoopRankerModel_fire_129 rfl (lv_at hl 2 rfl) ?_
      refine fg_LoopRankerModel_22 X hP 0 rfl rfl d_LoopRankerModel_fire_130 ?_
      refine lv_iload_n X.1.1 X.1.2.1 d_LoopRankerModel_fire_133 rfl (lv_at hl 1 rfl) ?_
      refine lv_iconst (v := (4 : Int32)) X.1.1 X.1.2.1 d_LoopRankerModel_fire_134 (by decide) ?_
      refine wn_add (a := 6 * t) (b := 4) X.1.1 X.1.2.1 d_LoopRankerModel_fire_135 ?_
      refine wa_ild X.1.1 X.1.2.1 X.2.1 hP 5 0 rfl rfl (6 * t + 4) rfl (by omega) (by decide) d_LoopRankerModel_fire_136 ?_
      refine lv_i2l X.1.1 X.1.2.1 d_LoopRankerModel_fire_137 rfl ?_
      refine lv_aload_n X.1.1 X.1.2.1 d_LoopRankerModel_fire_138 rfl (lv_at hl 2 rfl) ?_
      refine fg_LoopRankerModel_127 X hP 0 rfl rfl d_LoopRankerModel_fire_139 ?_
      refine lv_lmul X.1.1 X.1.2.1 d_LoopRankerModel_fire_142 ?_
      refine lv_ladd X.1.1 X.1.2.1 d_LoopRankerModel_fire_143 ?_
      refine lv_aload_n X.1.1 X.1.2.1 d_LoopRankerModel_fire_144 rfl (lv_at hl 2 rfl) ?_
      refine fg_LoopRankerModel_22 X hP 0 rfl rfl d_LoopRankerModel_fire_145 ?_
      refine lv_iload_n X.1.1 X.1.2.1 d_LoopRankerModel_fire_148 rfl (lv_at hl 1 rfl) ?_
      refine lv_iconst (v := (5 : Int32)) X.1.1 X.1.2.1 d_LoopRankerModel_fire_149 (by decide) ?_
      refine wn_add (a := 6 * t) (b := 5) X.1.1 X.1.2.1 d_LoopRankerModel_fire_150 ?_
      refine wa_ild X.1.1 X.1.2.1 X.2.1 hP 5 0 rfl rfl (6 * t + 5) rfl (by omega) (by decide) d_LoopRankerModel_fire_151 ?_
      refine lv_i2l X.1.1 X.1.2.1 d_LoopRankerModel_fire_152 rfl ?_
      refine lv_ladd X.1.1 X.1.2.1 d_LoopRankerModel_fire_153 ?_
      refine lv_lstore X.1.1 X.1.2.1 d_LoopRankerModel_fire_154 hl (by decide) rfl (fun ls hl => ?_)
      have hl : lv_has ls 7 [(5, .long (((((up (6 * t + 3)).toInt64) * x) + (((up (6 * t + 4)).toInt64) * y)) + ((up (6 * t + 5)).toInt64))), (3, .long (((((up (6 * t)).toInt64) * x) + (((up (6 * t + 1)).toInt64) * y)) + ((up (6 * t + 2)).toInt64))), (2, .int (nI (6 * t))), (0, .ref h), (1, .int (nI t))] := hl
      refine lv_lload_n X.1.1 X.1.2.1 d_LoopRankerModel_fire_156 rfl (lv_at hl 1 rfl) ?_
      refine wc_Si [.long (((((up (6 * t)).toInt64) * x) + (((up (6 * t + 1)).toInt64) * y)) + ((up (6 * t + 2)).toInt64))] X nz_nest (c_LoopRankerModel_far (((((up (6 * t)).toInt64) * x) + (((up (6 * t + 1)).toInt64) * y)) + ((up (6 * t + 2)).toInt64)) ) (cw_LoopRankerModel_137 X.1.2.2.2.2 X.2.2.1 (by decide)) (mW cI h m1 p1 q1 r1 w1 o1 f1 s1 nc my fp fq fr up sm top bot lv ol fi se x y fd) ([]) (rfl) hP hD hS rfl rfl hl.1 (Nat.le_of_ble_eq_true rfl) (by decide) d_LoopRankerModel_fire_157 (fun H locs wn hwn hP hD hS => ?_)
      subst hwn
      have hP : va_P D cls (mW cI h m1 p1 q1 r1 w1 o1 f1 s1 nc my fp fq fr up sm top bot lv ol fi se x y fd) H := hP
      have hD : va_D A (mW cI h m1 p1 q1 r1 w1 o1 f1 s1 nc my fp fq fr up sm top bot lv ol fi se x y fd) := hD
      refine wi0_ne (tgt := 171) X.1.1 X.1.2.1 d_LoopRankerModel_fire_160 (by decide) (fun h160 => ?_) (fun h160 => ?_)
      · refine lv_iconst (v := (0 : Int32)) X.1.1 X.1.2.1 d_LoopRankerModel_fire_171 (by decide) ?_
        exact hret 172 H locs ls _ _ hP hD hS d_LoopRankerModel_fire_172 (Or.inl rfl) (by unfold m_fr; rw [if_neg (show ¬ g_al fp fq fr x y d (4 * t) = 0 from by rw [← hE]; exact (by decide : ¬ (1 : Int32) = 0))]; simp [m_nx, m_ny, h160]) (by show _ = _; have hz := (show ¬ g_al fp fq fr x y d (4 * t) = 0 from by rw [← hE]; exact (by decide : ¬ (1 : Int32) = 0)); simp [m_fr, m_nx, m_ny, hz, h160])
      · refine lv_lload X.1.1 X.1.2.1 d_LoopRankerModel_fire_163 (lv_at hl 0 rfl) ?_
        refine wc_Si [.long (((((up (6 * t + 3)).toInt64) * x) + (((up (6 * t + 4)).toInt64) * y)) + ((up (6 * t + 5)).toInt64))] X nz_nest (c_LoopRankerModel_far (((((up (6 * t + 3)).toInt64) * x) + (((up (6 * t + 4)).toInt64) * y)) + ((up (6 * t + 5)).toInt64)) ) (cw_LoopRankerModel_137 X.1.2.2.2.2 X.2.2.1 (by decide)) (mW cI h m1 p1 q1 r1 w1 o1 f1 s1 nc my fp fq fr up sm top bot lv ol fi se x y fd) ([]) (rfl) hP hD hS rfl rfl hl.1 (Nat.le_of_ble_eq_true rfl) (by decide) d_LoopRankerModel_fire_165 (fun H locs wn hwn hP hD hS => ?_)
        subst hwn
        have hP : va_P D cls (mW cI h m1 p1 q1 r1 w1 o1 f1 s1 nc my fp fq fr up sm top bot lv ol fi se x y fd) H := hP
        have hD : va_D A (mW cI h m1 p1 q1 r1 w1 o1 f1 s1 nc my fp fq fr up sm top bot lv ol fi se x y fd) := hD
        refine wi0_eq (tgt := 173) X.1.1 X.1.2.1 d_LoopRankerModel_fire_168 (by decide) (fun h168 => ?_) (fun h168 => ?_)
        · refine lv_aload_n X.1.1 X.1.2.1 d_LoopRankerModel_fire_173 rfl (lv_at hl 3 rfl) ?_
          refine lv_lload_n X.1.1 X.1.2.1 d_LoopRankerModel_fire_174 rfl (lv_at hl 1 rfl) ?_
          refine fp_LoopRankerModel_124 X hP hD hS 0 rfl rfl rfl rfl d_LoopRankerModel_fire_175 (fun H locs hP hD hS => ?_)
          have hP : va_P D cls (mW cI h m1 p1 q1 r1 w1 o1 f1 s1 nc my fp fq fr up sm top bot lv ol fi se (((((up (6 * t)).toInt64) * x) + (((up (6 * t + 1)).toInt64) * y)) + ((up (6 * t + 2)).toInt64)) y fd) H := hP
          have hD : va_D A (mW cI h m1 p1 q1 r1 w1 o1 f1 s1 nc my fp fq fr up sm top bot lv ol fi se (((((up (6 * t)).toInt64) * x) + (((up (6 * t + 1)).toInt64) * y)) + ((up (6 * t + 2)).toInt64)) y fd) := hD
          refine lv_aload_n X.1.1 X.1.2.1 d_LoopRankerModel_fire_178 rfl (lv_at hl 3 rfl) ?_
          refine lv_lload X.1.1 X.1.2.1 d_LoopRankerModel_fire_179 (lv_at hl 0 rfl) ?_
          refine fp_LoopRankerModel_127 X hP hD hS 0 rfl rfl rfl rfl d_LoopRankerModel_fire_181 (fun H locs hP hD hS => ?_)
          have hP : va_P D cls (mW cI h m1 p1 q1 r1 w1 o1 f1 s1 nc my fp fq fr up sm top bot lv ol fi se (((((up (6 * t)).toInt64) * x) + (((up (6 * t + 1)).toInt64) * y)) + ((up (6 * t + 2)).toInt64)) (((((up (6 * t + 3)).toInt64) * x) + (((up (6 * t + 4)).toInt64) * y)) + ((up (6 * t + 5)).toInt64)) fd) H := hP
          have hD : va_D A (mW cI h m1 p1 q1 r1 w1 o1 f1 s1 nc my fp fq fr up sm top bot lv ol fi se (((((up (6 * t)).toInt64) * x) + (((up (6 * t + 1)).toInt64) * y)) + ((up (6 * t + 2)).toInt64)) (((((up (6 * t + 3)).toInt64) * x) + (((up (6 * t + 4)).toInt64) * y)) + ((up (6 * t + 5)).toInt64)) fd) := hD
          refine lv_aload_n X.1.1 X.1.2.1 d_LoopRankerModel_fire_184 rfl (lv_at hl 3 rfl) ?_
          refine lv_dup X.1.1 X.1.2.1 d_LoopRankerModel_fire_185 rfl ?_
          refine fg_LoopRankerModel_130 X hP 0 rfl rfl d_LoopRankerModel_fire_186 ?_
          refine lv_iconst (v := (1 : Int32)) X.1.1 X.1.2.1 d_LoopRankerModel_fire_189 (by decide) ?_
          refine lv_iadd X.1.1 X.1.2.1 d_LoopRankerModel_fire_190 ?_
          refine fp_LoopRankerModel_130 X hP hD hS 0 rfl rfl rfl rfl d_LoopRankerModel_fire_191 (fun H locs hP hD hS => ?_)
          have hP : va_P D cls (mW cI h m1 p1 q1 r1 w1 o1 f1 s1 nc my fp fq fr up sm top bot lv ol fi se (((((up (6 * t)).toInt64) * x) + (((up (6 * t + 1)).toInt64) * y)) + ((up (6 * t + 2)).toInt64)) (((((up (6 * t + 3)).toInt64) * x) + (((up (6 * t + 4)).toInt64) * y)) + ((up (6 * t + 5)).toInt64)) (fd + (1 : Int32))) H := hP
          have hD : va_D A (mW cI h m1 p1 q1 r1 w1 o1 f1 s1 nc my fp fq fr up sm top bot lv ol fi se (((((up (6 * t)).toInt64) * x) + (((up (6 * t + 1)).toInt64) * y)) + ((up (6 * t + 2)).toInt64)) (((((up (6 * t + 3)).toInt64) * x) + (((up (6 * t + 4)).toInt64) * y)) + ((up (6 * t + 5)).toInt64)) (fd + (1 : Int32))) := hD
          refine lv_iconst (v := (1 : Int32)) X.1.1 X.1.2.1 d_LoopRankerModel_fire_194 (by decide) ?_
          exact hret 195 H locs ls _ _ hP hD hS d_LoopRankerModel_fire_195 (Or.inr rfl) (by unfold m_fr; rw [if_neg (show ¬ g_al fp fq fr x y d (4 * t) = 0 from by rw [← hE]; exact (by decide : ¬ (1 : Int32) = 0))]; simp [m_nx, m_ny, h160, h168]) (by show _ = _; have hz := (show ¬ g_al fp fq fr x y d (4 * t) = 0 from by rw [← hE]; exact (by decide : ¬ (1 : Int32) = 0)); simp [m_fr, m_nx, m_ny, hz, h160, h168])
        · refine lv_iconst (v := (0 : Int32)) X.1.1 X.1.2.1 d_LoopRankerModel_fire_171 (by decide) ?_
          exact hret 172 H locs ls _ _ hP hD hS d_LoopRankerModel_fire_172 (Or.inl rfl) (by unfold m_fr; rw [if_neg (show ¬ g_al fp fq fr x y d (4 * t) = 0 from by rw [← hE]; exact (by decide : ¬ (1 : Int32) = 0))]; simp [m_nx, m_ny, h160, h168]) (by show _ = _; have hz := (show ¬ g_al fp fq fr x y d (4 * t) = 0 from by rw [← hE]; exact (by decide : ¬ (1 : Int32) = 0)); simp [m_fr, m_nx, m_ny, hz, h160, h168])
    | succ k14 ih14 =>
      intro i ls H locs hik hE hl hP hD hS
      refine lv_iload_n X.1.1 X.1.2.1 d_LoopRankerModel_fire_14 rfl (lv_at hl 0 rfl) ?_
      refine lv_iconst (v := (4 : Int32)) X.1.1 X.1.2.1 d_LoopRankerModel_fire_15 (by decide) ?_
      refine lv_iload_n X.1.1 X.1.2.1 d_LoopRankerModel_fire_16 rfl (lv_at hl 2 rfl) ?_
      refine wn_mul (a := 4) (b := t) X.1.1 X.1.2.1 d_LoopRankerModel_fire_17 ?_
      refine lv_aload_n X.1.1 X.1.2.1 d_LoopRankerModel_fire_18 rfl (lv_at hl 1 rfl) ?_
      refine fg_LoopRankerModel_7 X hP 0 rfl rfl d_LoopRankerModel_fire_19 ?_
      refine lv_iload_n X.1.1 X.1.2.1 d_LoopRankerModel_fire_22 rfl (lv_at hl 2 rfl) ?_
      refine wa_ild X.1.1 X.1.2.1 X.2.1 hP 1 0 rfl rfl t rfl (by omega) (by decide) d_LoopRankerModel_fire_23 ?_
      refine wn_top hm ?_
      refine wn_add (a := 4 * t) (b := d) X.1.1 X.1.2.1 d_LoopRankerModel_fire_24 ?_
      refine wn_ge (a := i) (b := 4 * t + d) (tgt := 72) X.1.1 X.1.2.1 d_LoopRankerModel_fire_25 (by decide) (by omega) (by omega) (fun h25 => by exfalso; omega) (fun h25 => ?_)
      refine lv_aload_n X.1.1 X.1.2.1 d_LoopRankerModel_fire_28 rfl (lv_at hl 1 rfl) ?_
      refine fg_LoopRankerModel_13 X hP 0 rfl rfl d_LoopRankerModel_fire_29 ?_
      refine lv_iload_n X.1.1 X.1.2.1 d_LoopRankerModel_fire_32 rfl (lv_at hl 0 rfl) ?_
      refine wa_ild X.1.1 X.1.2.1 X.2.1 hP 2 0 rfl rfl i rfl (by omega) (by decide) d_LoopRankerModel_fire_33 ?_
      refine lv_i2l X.1.1 X.1.2.1 d_LoopRankerModel_fire_34 rfl ?_
      refine lv_aload_n X.1.1 X.1.2.1 d_LoopRankerModel_fire_35 rfl (lv_at hl 1 rfl) ?_
      refine fg_LoopRankerModel_124 X hP 0 rfl rfl d_LoopRankerModel_fire_36 ?_
      refine lv_lmul X.1.1 X.1.2.1 d_LoopRankerModel_fire_39 ?_
      refine lv_aload_n X.1.1 X.1.2.1 d_LoopRankerModel_fire_40 rfl (lv_at hl 1 rfl) ?_
      refine fg_LoopRankerModel_16 X hP 0 rfl rfl d_LoopRankerModel_fire_41 ?_
      refine lv_iload_n X.1.1 X.1.2.1 d_LoopRankerModel_fire_44 rfl (lv_at hl 0 rfl) ?_
      refine wa_ild X.1.1 X.1.2.1 X.2.1 hP 3 0 rfl rfl i rfl (by omega) (by decide) d_LoopRankerModel_fire_45 ?_
      refine lv_i2l X.1.1 X.1.2.1 d_LoopRankerModel_fire_46 rfl ?_
      refine lv_aload_n X.1.1 X.1.2.1 d_LoopRankerModel_fire_47 rfl (lv_at hl 1 rfl) ?_
      refine fg_LoopRankerModel_127 X hP 0 rfl rfl d_LoopRankerModel_fire_48 ?_
      refine lv_lmul X.1.1 X.1.2.1 d_LoopRankerModel_fire_51 ?_
      refine lv_ladd X.1.1 X.1.2.1 d_LoopRankerModel_fire_52 ?_
      refine lv_aload_n X.1.1 X.1.2.1 d_LoopRankerModel_fire_53 rfl (lv_at hl 1 rfl) ?_
      refine fg_LoopRankerModel_19 X hP 0 rfl rfl d_LoopRankerModel_fire_54 ?_
      refine lv_iload_n X.1.1 X.1.2.1 d_LoopRankerModel_fire_57 rfl (lv_at hl 0 rfl) ?_
      refine wa_ild X.1.1 X.1.2.1 X.2.1 hP 4 0 rfl rfl i rfl (by omega) (by decide) d_LoopRankerModel_fire_58 ?_
      refine lv_i2l X.1.1 X.1.2.1 d_LoopRankerModel_fire_59 rfl ?_
      refine wl_le (tgt := 66) X.1.1 X.1.2.1 d_LoopRankerModel_fire_60 d_LoopRankerModel_fire_61 (by decide) (fun h60 => ?_) (fun h60 => ?_)
      · refine lv_iinc (k := 0) (v := nI (i + 1)) X.1.1 X.1.2.1 d_LoopRankerModel_fire_66 hl rfl (nI_1 i) (by decide) rfl (fun ls hl => ?_)
        have hl : lv_has ls 7 [(2, .int (nI (i + 1))), (0, .ref h), (1, .int (nI t))] := hl
        refine lv_goto (tgt := 14) X.1.1 X.1.2.1 d_LoopRankerModel_fire_69 (by decide) ?_
        exact ih14 (i + 1) ls H locs (by omega) (by rw [← hE]; exact (if_neg h60).symm) (lv_sub hl [0, 1, 2] rfl) hP hD hS
      · refine lv_iconst (v := (0 : Int32)) X.1.1 X.1.2.1 d_LoopRankerModel_fire_64 (by decide) ?_
        exact hret 65 H locs ls _ _ hP hD hS d_LoopRankerModel_fire_65 (Or.inl rfl) (by unfold m_fr; rw [if_pos (show g_al fp fq fr x y d (4 * t) = 0 from by rw [← hE]; exact if_pos h60)]) (by show _ = _; rw [if_pos (by unfold m_fr; rw [if_pos (show g_al fp fq fr x y d (4 * t) = 0 from by rw [← hE]; exact if_pos h60)])])
  exact lp14 d (4 * t) ls H locs (by omega) (rfl) (lv_sub hl [0, 1, 2] rfl) hP hD hS
set_option maxHeartbeats 4000000 in
set_option maxRecDepth 100000 in
theorem c_LoopRankerModel_remove_bad (h m1 p1 q1 r1 w1 o1 f1 s1 : Nat) (nc : Nat) (my fp fq fr up : Nat → Int32) (sm : Int32) (top bot : Int64) (lv : Nat) (ol fi se : Nat → Int32) (x y : Int64) (fd : Int32) (t : Int32) (hbad : m_th nc t = 0) : wk_ki l y_LoopRankerModel_remove (Cond.code y_LoopRankerModel_remove b_LoopRankerModel_remove 4 (some .boolean) :: BW) rm_LoopRankerModel_remove D cls (kT cI cJ cS) nz [.ref h, .int t] (mW cI h m1 p1 q1 r1 w1 o1 f1 s1 nc my fp fq fr up sm top bot lv ol fi se x y fd) (fun wz => wz = mW cI h m1 p1 q1 r1 w1 o1 f1 s1 nc my fp fq fr up sm top bot lv ol fi se x y fd) 0 := by
  refine ws_z (plainFor_of_name (by decide)) (Nat.le_of_ble_eq_true rfl) ?_
  intro p e s m below meth c A ls Q X hret hl hP hD hS
  obtain ⟨H, hH⟩ : ∃ H, H = s.heap := ⟨_, rfl⟩
  obtain ⟨locs, hlo⟩ : ∃ locs : List Loc, locs = [] := ⟨_, rfl⟩
  have hP : va_P D cls (mW cI h m1 p1 q1 r1 w1 o1 f1 s1 nc my fp fq fr up sm top bot lv ol fi se x y fd) H := by rw [hH]; exact hP
  have hS : va_S A s.heap H locs := by rw [hH, hlo]; exact hS
  suffices hgo : W p l e rm_LoopRankerModel_remove s m ([.ref h, .int t] : List Value).toArray below meth c H locs 0 0 Q (F0 m 0 ls ([])) by rw [hH, hlo] at hgo; exact hgo
  clear hH hlo
  have hl : lv_has ls 4 [(0, .ref h), (1, .int t)] := hl
  refine lv_aload_n X.1.1 X.1.2.1 d_LoopRankerModel_remove_0 rfl (lv_at hl 0 rfl) ?_
  refine lv_iload_n X.1.1 X.1.2.1 d_LoopRankerModel_remove_1 rfl (lv_at hl 1 rfl) ?_
  refine wc_Vi [.int t] 4 0 X nz_nest (c_LoopRankerModel_there h m1 p1 q1 r1 w1 o1 f1 s1 nc my fp fq fr up sm top bot lv ol fi se x y fd t ) (cw_LoopRankerModel_38 X.1.2.2.2.2 X.2.2.1 (by decide)) ([]) ([]) (rfl) hP hD hS rfl rfl rfl rfl hl.1 (Nat.le_of_ble_eq_true rfl) (by decide) d_LoopRankerModel_remove_2 (fun H locs wn hwn hP hD hS => ?_)
  subst hwn
  have hP : va_P D cls (mW cI h m1 p1 q1 r1 w1 o1 f1 s1 nc my fp fq fr up sm top bot lv ol fi se x y fd) H := hP
  have hD : va_D A (mW cI h m1 p1 q1 r1 w1 o1 f1 s1 nc my fp fq fr up sm top bot lv ol fi se x y fd) := hD
  refine wi0_ne (tgt := 10) X.1.1 X.1.2.1 d_LoopRankerModel_remove_5 (by decide) (fun h5 => absurd hbad h5) (fun h5 => ?_)
  refine lv_iconst (v := (0 : Int32)) X.1.1 X.1.2.1 d_LoopRankerModel_remove_8 (by decide) ?_
  exact hret 9 H locs ls _ _ hP hD hS d_LoopRankerModel_remove_9 (Or.inl rfl) (rfl) (rfl)
set_option maxHeartbeats 4000000 in
set_option maxRecDepth 100000 in
theorem c_LoopRankerModel_remove (h m1 p1 q1 r1 w1 o1 f1 s1 : Nat) (nc : Nat) (my fp fq fr up : Nat → Int32) (sm : Int32) (top bot : Int64) (lv : Nat) (ol fi se : Nat → Int32) (x y : Int64) (fd : Int32) (t : Nat) (htn : t < nc) (hc : nc ≤ 6) : wk_ki l y_LoopRankerModel_remove (Cond.code y_LoopRankerModel_remove b_LoopRankerModel_remove 4 (some .boolean) :: BW) rm_LoopRankerModel_remove D cls (kT cI cJ cS) nz [.ref h, .int (nI t)] (mW cI h m1 p1 q1 r1 w1 o1 f1 s1 nc my fp fq fr up sm top bot lv ol fi se x y fd) (fun wz => wz = mW cI h m1 p1 q1 r1 w1 o1 f1 s1 (nc - 1) (m_o1 (nc - 1 - t) t my) (m_os 4 (nc - 1 - t) t fp) (m_os 4 (nc - 1 - t) t fq) (m_os 4 (nc - 1 - t) t fr) (m_os 6 (nc - 1 - t) t up) sm top bot lv ol fi se x y fd) 1 := by
  refine ws_z (plainFor_of_name (by decide)) (Nat.le_of_ble_eq_true rfl) ?_
  intro p e s m below meth c A ls Q X hret hl hP hD hS
  obtain ⟨H, hH⟩ : ∃ H, H = s.heap := ⟨_, rfl⟩
  obtain ⟨locs, hlo⟩ : ∃ locs : List Loc, locs = [] := ⟨_, rfl⟩
  have hP : va_P D cls (mW cI h m1 p1 q1 r1 w1 o1 f1 s1 nc my fp fq fr up sm top bot lv ol fi se x y fd) H := by rw [hH]; exact hP
  have hS : va_S A s.heap H locs := by rw [hH, hlo]; exact hS
  suffices hgo : W p l e rm_LoopRankerModel_remove s m ([.ref h, .int (nI t)] : List Value).toArray below meth c H locs 0 0 Q (F0 m 0 ls ([])) by rw [hH, hlo] at hgo; exact hgo
  clear hH hlo
  have hl : lv_has ls 4 [(0, .ref h), (1, .int (nI t))] := hl
  obtain ⟨fp0, hfp⟩ : ∃ f, f = fp := ⟨_, rfl⟩
  obtain ⟨fq0, hfq⟩ : ∃ f, f = fq := ⟨_, rfl⟩
  obtain ⟨fr0, hfr⟩ : ∃ f, f = fr := ⟨_, rfl⟩
  obtain ⟨up0, hup⟩ : ∃ f, f = up := ⟨_, rfl⟩
  obtain ⟨my0, hmy⟩ : ∃ f, f = my := ⟨_, rfl⟩
  refine lv_aload_n X.1.1 X.1.2.1 d_LoopRankerModel_remove_0 rfl (lv_at hl 0 rfl) ?_
  refine lv_iload_n X.1.1 X.1.2.1 d_LoopRankerModel_remove_1 rfl (lv_at hl 1 rfl) ?_
  refine wc_Vi [.int (nI t)] 4 0 X nz_nest (c_LoopRankerModel_there h m1 p1 q1 r1 w1 o1 f1 s1 nc my fp fq fr up sm top bot lv ol fi se x y fd (nI t) ) (cw_LoopRankerModel_38 X.1.2.2.2.2 X.2.2.1 (by decide)) ([]) ([]) (rfl) hP hD hS rfl rfl rfl rfl hl.1 (Nat.le_of_ble_eq_true rfl) (by decide) d_LoopRankerModel_remove_2 (fun H locs wn hwn hP hD hS => ?_)
  subst hwn
  have hP : va_P D cls (mW cI h m1 p1 q1 r1 w1 o1 f1 s1 nc my fp fq fr up sm top bot lv ol fi se x y fd) H := hP
  have hD : va_D A (mW cI h m1 p1 q1 r1 w1 o1 f1 s1 nc my fp fq fr up sm top bot lv ol fi se x y fd) := hD
  refine wi0_ne (tgt := 10) X.1.1 X.1.2.1 d_LoopRankerModel_remove_5 (by decide) (fun h5 => ?_) (fun h5 => absurd h5 (by rw [m_th_1 (by omega) (by omega)]; decide))
  refine lv_aload_n X.1.1 X.1.2.1 d_LoopRankerModel_remove_10 rfl (lv_at hl 0 rfl) ?_
  refine lv_dup X.1.1 X.1.2.1 d_LoopRankerModel_remove_11 rfl ?_
  refine fg_LoopRankerModel_34 X hP 0 rfl rfl d_LoopRankerModel_remove_12 ?_
  refine lv_iconst (v := (1 : Int32)) X.1.1 X.1.2.1 d_LoopRankerModel_remove_15 (by decide) ?_
  refine wn_sub (a := nc) (b := 1) X.1.1 X.1.2.1 d_LoopRankerModel_remove_16 (by omega) ?_
  refine fp_LoopRankerModel_34 X hP hD hS 0 rfl rfl rfl rfl d_LoopRankerModel_remove_17 (fun H locs hP hD hS => ?_)
  have hP : va_P D cls (mW cI h m1 p1 q1 r1 w1 o1 f1 s1 (nc - 1) my fp fq fr up sm top bot lv ol fi se x y fd) H := hP
  have hD : va_D A (mW cI h m1 p1 q1 r1 w1 o1 f1 s1 (nc - 1) my fp fq fr up sm top bot lv ol fi se x y fd) := hD
  refine lv_iload_n X.1.1 X.1.2.1 d_LoopRankerModel_remove_20 rfl (lv_at hl 1 rfl) ?_
  refine lv_istore_n X.1.1 X.1.2.1 d_LoopRankerModel_remove_21 rfl hl (by decide) rfl (fun ls hl => ?_)
  have hl : lv_has ls 4 [(2, .int (nI t)), (0, .ref h), (1, .int (nI t))] := hl
  have lp22 : ∀ (k22 : Nat) (i : Nat) (fp : Nat → Int32) (fq : Nat → Int32) (fr : Nat → Int32) (up : Nat → Int32) (my : Nat → Int32) (ls : Array Slot) (H : Heap) (locs : List Loc), i + k22 = nc - 1 → m_os 4 k22 i fp = m_os 4 (nc - 1 - t) t fp0 → m_os 4 k22 i fq = m_os 4 (nc - 1 - t) t fq0 → m_os 4 k22 i fr = m_os 4 (nc - 1 - t) t fr0 → m_os 6 k22 i up = m_os 6 (nc - 1 - t) t up0 → m_o1 k22 i my = m_o1 (nc - 1 - t) t my0 → lv_has ls 4 [(2, .int (nI i)), (0, .ref h), (1, .int (nI t))] → va_P D cls (mW cI h m1 p1 q1 r1 w1 o1 f1 s1 (nc - 1) my fp fq fr up sm top bot lv ol fi se x y fd) H → va_D A (mW cI h m1 p1 q1 r1 w1 o1 f1 s1 (nc - 1) my fp fq fr up sm top bot lv ol fi se x y fd) → va_S A s.heap H locs → W p l e rm_LoopRankerModel_remove s m ([.ref h, .int (nI t)] : List Value).toArray below meth c H locs 0 0 Q (F0 m 22 ls ([])) := by
    intro k22
    induction k22 with
    | zero =>
      intro i fp fq fr up my ls H locs hik efp efq efr eup emy hl hP hD hS
      refine lv_iload_n X.1.1 X.1.2.1 d_LoopRankerModel_remove_22 rfl (lv_at hl 0 rfl) ?_
      refine lv_aload_n X.1.1 X.1.2.1 d_LoopRankerModel_remove_23 rfl (lv_at hl 1 rfl) ?_
      refine fg_LoopRankerModel_34 X hP 0 rfl rfl d_LoopRankerModel_remove_24 ?_
      refine wn_ge (a := i) (b := nc - 1) (tgt := 168) X.1.1 X.1.2.1 d_LoopRankerModel_remove_27 (by decide) (by omega) (by omega) (fun h27 => ?_) (fun h27 => by exfalso; omega)
      refine lv_iconst (v := (1 : Int32)) X.1.1 X.1.2.1 d_LoopRankerModel_remove_168 (by decide) ?_
      exact hret 169 H locs ls _ _ hP hD hS d_LoopRankerModel_remove_169 (Or.inr rfl) (rfl) (by show _ = _; rw [← hfp, ← hfq, ← hfr, ← hup, ← hmy, ← efp, ← efq, ← efr, ← eup, ← emy]; rfl)
    | succ k22 ih22 =>
      intro i fp fq fr up my ls H locs hik efp efq efr eup emy hl hP hD hS
      refine lv_iload_n X.1.1 X.1.2.1 d_LoopRankerModel_remove_22 rfl (lv_at hl 0 rfl) ?_
      refine lv_aload_n X.1.1 X.1.2.1 d_LoopRankerModel_remove_23 rfl (lv_at hl 1 rfl) ?_
      refine fg_LoopRankerModel_34 X hP 0 rfl rfl d_LoopRankerModel_remove_24 ?_
      refine wn_ge (a := i) (b := nc - 1) (tgt := 168) X.1.1 X.1.2.1 d_LoopRankerModel_remove_27 (by decide) (by omega) (by omega) (fun h27 => by exfalso; omega) (fun h27 => ?_)
      refine lv_aload_n X.1.1 X.1.2.1 d_LoopRankerModel_remove_30 rfl (lv_at hl 1 rfl) ?_
      refine fg_LoopRankerModel_7 X hP 0 rfl rfl d_LoopRankerModel_remove_31 ?_
      refine lv_iload_n X.1.1 X.1.2.1 d_LoopRankerModel_remove_34 rfl (lv_at hl 0 rfl) ?_
      refine lv_aload_n X.1.1 X.1.2.1 d_LoopRankerModel_remove_35 rfl (lv_at hl 1 rfl) ?_
      refine fg_LoopRankerModel_7 X hP 0 rfl rfl d_LoopRankerModel_remove_36 ?_
      refine lv_iload_n X.1.1 X.1.2.1 d_LoopRankerModel_remove_39 rfl (lv_at hl 0 rfl) ?_
      refine lv_iconst (v := (1 : Int32)) X.1.1 X.1.2.1 d_LoopRankerModel_remove_40 (by decide) ?_
      refine wn_add (a := i) (b := 1) X.1.1 X.1.2.1 d_LoopRankerModel_remove_41 ?_
      refine wa_ild X.1.1 X.1.2.1 X.2.1 hP 1 0 rfl rfl (i + 1) rfl (by omega) (by decide) d_LoopRankerModel_remove_42 ?_
      refine wa_ist X.1.1 X.1.2.1 X.2.1 hP hD hS 1 0 rfl rfl i rfl (by omega) (by decide) d_LoopRankerModel_remove_43 (fun H locs hP hD hS => ?_)
      have hP : va_P D cls (mW cI h m1 p1 q1 r1 w1 o1 f1 s1 (nc - 1) (upd my i (my (i + 1))) fp fq fr up sm top bot lv ol fi se x y fd) H := hP
      have hD : va_D A (mW cI h m1 p1 q1 r1 w1 o1 f1 s1 (nc - 1) (upd my i (my (i + 1))) fp fq fr up sm top bot lv ol fi se x y fd) := hD
      refine lv_iconst (v := (0 : Int32)) X.1.1 X.1.2.1 d_LoopRankerModel_remove_44 (by decide) ?_
      refine lv_istore_n X.1.1 X.1.2.1 d_LoopRankerModel_remove_45 rfl hl (by decide) rfl (fun ls hl => ?_)
      have hl : lv_has ls 4 [(3, .int (0 : Int32)), (2, .int (nI i)), (0, .ref h), (1, .int (nI t))] := hl
      have lp46 : ∀ (k46 : Nat) (j : Nat) (fp2 : Nat → Int32) (fq2 : Nat → Int32) (fr2 : Nat → Int32) (ls : Array Slot) (H : Heap) (locs : List Loc), j + k46 = 4 → m_s 4 i k46 j fp2 = m_s 4 i 4 0 fp → m_s 4 i k46 j fq2 = m_s 4 i 4 0 fq → m_s 4 i k46 j fr2 = m_s 4 i 4 0 fr → lv_has ls 4 [(3, .int (nI j)), (2, .int (nI i)), (0, .ref h), (1, .int (nI t))] → va_P D cls (mW cI h m1 p1 q1 r1 w1 o1 f1 s1 (nc - 1) (upd my i (my (i + 1))) fp2 fq2 fr2 up sm top bot lv ol fi se x y fd) H → va_D A (mW cI h m1 p1 q1 r1 w1 o1 f1 s1 (nc - 1) (upd my i (my (i + 1))) fp2 fq2 fr2 up sm top bot lv ol fi se x y fd) → va_S A s.heap H locs → W p l e rm_LoopRankerModel_remove s m ([.ref h, .int (nI t)] : List Value).toArray below meth c H locs 0 0 Q (F0 m 46 ls ([])) := by
        intro k46
        induction k46 with
        | zero =>
          intro j fp2 fq2 fr2 ls H locs hjk e2p e2q e2r hl hP hD hS
          refine lv_iload_n X.1.1 X.1.2.1 d_LoopRankerModel_remove_46 rfl (lv_at hl 0 rfl) ?_
          refine lv_iconst (v := (4 : Int32)) X.1.1 X.1.2.1 d_LoopRankerModel_remove_47 (by decide) ?_
          refine wn_ge (a := j) (b := 4) (tgt := 123) X.1.1 X.1.2.1 d_LoopRankerModel_remove_48 (by decide) (by omega) (by omega) (fun h48 => ?_) (fun h48 => by exfalso; omega)
          refine lv_iconst (v := (0 : Int32)) X.1.1 X.1.2.1 d_LoopRankerModel_remove_123 (by decide) ?_
          refine lv_istore_n X.1.1 X.1.2.1 d_LoopRankerModel_remove_124 rfl hl (by decide) rfl (fun ls hl => ?_)
          have hl : lv_has ls 4 [(3, .int (0 : Int32)), (2, .int (nI i)), (0, .ref h), (1, .int (nI t))] := hl
          have lp125 : ∀ (k125 : Nat) (j3 : Nat) (up3 : Nat → Int32) (ls : Array Slot) (H : Heap) (locs : List Loc), j3 + k125 = 6 → m_s 6 i k125 j3 up3 = m_s 6 i 6 0 up → lv_has ls 4 [(3, .int (nI j3)), (2, .int (nI i)), (0, .ref h), (1, .int (nI t))] → va_P D cls (mW cI h m1 p1 q1 r1 w1 o1 f1 s1 (nc - 1) (upd my i (my (i + 1))) fp2 fq2 fr2 up3 sm top bot lv ol fi se x y fd) H → va_D A (mW cI h m1 p1 q1 r1 w1 o1 f1 s1 (nc - 1) (upd my i (my (i + 1))) fp2 fq2 fr2 up3 sm top bot lv ol fi se x y fd) → va_S A s.heap H locs → W p l e rm_LoopRankerModel_remove s m ([.ref h, .int (nI t)] : List Value).toArray below meth c H locs 0 0 Q (F0 m 125 ls ([])) := by
            intro k125
            induction k125 with
            | zero =>
              intro j3 up3 ls H locs hj3 e3 hl hP hD hS
              refine lv_iload_n X.1.1 X.1.2.1 d_LoopRankerModel_remove_125 rfl (lv_at hl 0 rfl) ?_
              refine lv_bipush (v := (6 : Int32)) X.1.1 X.1.2.1 d_LoopRankerModel_remove_126 (by decide) ?_
              refine wn_ge (a := j3) (b := 6) (tgt := 162) X.1.1 X.1.2.1 d_LoopRankerModel_remove_128 (by decide) (by omega) (by omega) (fun h128 => ?_) (fun h128 => by exfalso; omega)
              refine lv_iinc (k := 1) (v := nI (i + 1)) X.1.1 X.1.2.1 d_LoopRankerModel_remove_162 hl rfl (nI_1 i) (by decide) rfl (fun ls hl => ?_)
              have hl : lv_has ls 4 [(2, .int (nI (i + 1))), (3, .int (nI j3)), (0, .ref h), (1, .int (nI t))] := hl
              refine lv_goto (tgt := 22) X.1.1 X.1.2.1 d_LoopRankerModel_remove_165 (by decide) ?_
              exact ih22 (i + 1) fp2 fq2 fr2 up3 _ ls H locs (by omega) (by rw [show fp2 = _ from e2p]; exact efp) (by rw [show fq2 = _ from e2q]; exact efq) (by rw [show fr2 = _ from e2r]; exact efr) (by rw [show up3 = _ from e3]; exact eup) (emy) (lv_sub hl [0, 2, 3] rfl) hP hD hS
            | succ k125 ih125 =>
              intro j3 up3 ls H locs hj3 e3 hl hP hD hS
              refine lv_iload_n X.1.1 X.1.2.1 d_LoopRankerModel_remove_125 rfl (lv_at hl 0 rfl) ?_
              refine lv_bipush (v := (6 : Int32)) X.1.1 X.1.2.1 d_LoopRankerModel_remove_126 (by decide) ?_
              refine wn_ge (a := j3) (b := 6) (tgt := 162) X.1.1 X.1.2.1 d_LoopRankerModel_remove_128 (by decide) (by omega) (by omega) (fun h128 => by exfalso; omega) (fun h128 => ?_)
              refine lv_aload_n X.1.1 X.1.2.1 d_LoopRankerModel_remove_131 rfl (lv_at hl 2 rfl) ?_
              refine fg_LoopRankerModel_22 X hP 0 rfl rfl d_LoopRankerModel_remove_132 ?_
              refine lv_bipush (v := (6 : Int32)) X.1.1 X.1.2.1 d_LoopRankerModel_remove_135 (by decide) ?_
              refine lv_iload_n X.1.1 X.1.2.1 d_LoopRankerModel_remove_137 rfl (lv_at hl 1 rfl) ?_
              refine wn_mul (a := 6) (b := i) X.1.1 X.1.2.1 d_LoopRankerModel_remove_138 ?_
              refine lv_iload_n X.1.1 X.1.2.1 d_LoopRankerModel_remove_139 rfl (lv_at hl 0 rfl) ?_
              refine wn_add (a := 6 * i) (b := j3) X.1.1 X.1.2.1 d_LoopRankerModel_remove_140 ?_
              refine lv_aload_n X.1.1 X.1.2.1 d_LoopRankerModel_remove_141 rfl (lv_at hl 2 rfl) ?_
              refine fg_LoopRankerModel_22 X hP 0 rfl rfl d_LoopRankerModel_remove_142 ?_
              refine lv_bipush (v := (6 : Int32)) X.1.1 X.1.2.1 d_LoopRankerModel_remove_145 (by decide) ?_
              refine lv_iload_n X.1.1 X.1.2.1 d_LoopRankerModel_remove_147 rfl (lv_at hl 1 rfl) ?_
              refine wn_mul (a := 6) (b := i) X.1.1 X.1.2.1 d_LoopRankerModel_remove_148 ?_
              refine lv_bipush (v := (6 : Int32)) X.1.1 X.1.2.1 d_LoopRankerModel_remove_149 (by decide) ?_
              refine wn_add (a := 6 * i) (b := 6) X.1.1 X.1.2.1 d_LoopRankerModel_remove_151 ?_
              refine lv_iload_n X.1.1 X.1.2.1 d_LoopRankerModel_remove_152 rfl (lv_at hl 0 rfl) ?_
              refine wn_add (a := 6 * i + 6) (b := j3) X.1.1 X.1.2.1 d_LoopRankerModel_remove_153 ?_
              refine wa_ild X.1.1 X.1.2.1 X.2.1 hP 5 0 rfl rfl (6 * i + 6 + j3) rfl (by omega) (by decide) d_LoopRankerModel_remove_154 ?_
              refine wa_ist X.1.1 X.1.2.1 X.2.1 hP hD hS 5 0 rfl rfl (6 * i + j3) rfl (by omega) (by decide) d_LoopRankerModel_remove_155 (fun H locs hP hD hS => ?_)
              have hP : va_P D cls (mW cI h m1 p1 q1 r1 w1 o1 f1 s1 (nc - 1) (upd my i (my (i + 1))) fp2 fq2 fr2 (upd up3 (6 * i + j3) (up3 (6 * i + 6 + j3))) sm top bot lv ol fi se x y fd) H := hP
              have hD : va_D A (mW cI h m1 p1 q1 r1 w1 o1 f1 s1 (nc - 1) (upd my i (my (i + 1))) fp2 fq2 fr2 (upd up3 (6 * i + j3) (up3 (6 * i + 6 + j3))) sm top bot lv ol fi se x y fd) := hD
              refine lv_iinc (k := 0) (v := nI (j3 + 1)) X.1.1 X.1.2.1 d_LoopRankerModel_remove_156 hl rfl (nI_1 j3) (by decide) rfl (fun ls hl => ?_)
              have hl : lv_has ls 4 [(3, .int (nI (j3 + 1))), (2, .int (nI i)), (0, .ref h), (1, .int (nI t))] := hl
              refine lv_goto (tgt := 125) X.1.1 X.1.2.1 d_LoopRankerModel_remove_159 (by decide) ?_
              exact ih125 (j3 + 1) _ ls H locs (by omega) (e3) (lv_sub hl [0, 1, 2, 3] rfl) hP hD hS
          exact lp125 6 0 up ls H locs (by omega) (rfl) (lv_sub hl [0, 1, 2, 3] rfl) hP hD hS
        | succ k46 ih46 =>
          intro j fp2 fq2 fr2 ls H locs hjk e2p e2q e2r hl hP hD hS
          refine lv_iload_n X.1.1 X.1.2.1 d_LoopRankerModel_remove_46 rfl (lv_at hl 0 rfl) ?_
          refine lv_iconst (v := (4 : Int32)) X.1.1 X.1.2.1 d_LoopRankerModel_remove_47 (by decide) ?_
          refine wn_ge (a := j) (b := 4) (tgt := 123) X.1.1 X.1.2.1 d_LoopRankerModel_remove_48 (by decide) (by omega) (by omega) (fun h48 => by exfalso; omega) (fun h48 => ?_)
          refine lv_aload_n X.1.1 X.1.2.1 d_LoopRankerModel_remove_51 rfl (lv_at hl 2 rfl) ?_
          refine fg_LoopRankerModel_13 X hP 0 rfl rfl d_LoopRankerModel_remove_52 ?_
          refine lv_iconst (v := (4 : Int32)) X.1.1 X.1.2.1 d_LoopRankerModel_remove_55 (by decide) ?_
          refine lv_iload_n X.1.1 X.1.2.1 d_LoopRankerModel_remove_56 rfl (lv_at hl 1 rfl) ?_
          refine wn_mul (a := 4) (b := i) X.1.1 X.1.2.1 d_LoopRankerModel_remove_57 ?_
          refine lv_iload_n X.1.1 X.1.2.1 d_LoopRankerModel_remove_58 rfl (lv_at hl 0 rfl) ?_
          refine wn_add (a := 4 * i) (b := j) X.1.1 X.1.2.1 d_LoopRankerModel_remove_59 ?_
          refine lv_aload_n X.1.1 X.1.2.1 d_LoopRankerModel_remove_60 rfl (lv_at hl 2 rfl) ?_
          refine fg_LoopRankerModel_13 X hP 0 rfl rfl d_LoopRankerModel_remove_61 ?_
          refine lv_iconst (v := (4 : Int32)) X.1.1 X.1.2.1 d_LoopRankerModel_remove_64 (by decide) ?_
          refine lv_iload_n X.1.1 X.1.2.1 d_LoopRankerModel_remove_65 rfl (lv_at hl 1 rfl) ?_
          refine wn_mul (a := 4) (b := i) X.1.1 X.1.2.1 d_LoopRankerModel_remove_66 ?_
          refine lv_iconst (v := (4 : Int32)) X.1.1 X.1.2.1 d_LoopRankerModel_remove_67 (by decide) ?_
          refine wn_add (a := 4 * i) (b := 4) X.1.1 X.1.2.1 d_LoopRankerModel_remove_68 ?_
          refine lv_iload_n X.1.1 X.1.2.1 d_LoopRankerModel_remove_69 rfl (lv_at hl 0 rfl) ?_
          refine wn_add (a := 4 * i + 4) (b := j) X.1.1 X.1.2.1 d_LoopRankerModel_remove_70 ?_
          refine wa_ild X.1.1 X.1.2.1 X.2.1 hP 2 0 rfl rfl (4 * i + 4 + j) rfl (by omega) (by decide) d_LoopRankerModel_remove_71 ?_
          refine wa_ist X.1.1 X.1.2.1 X.2.1 hP hD hS 2 0 rfl rfl (4 * i + j) rfl (by omega) (by decide) d_LoopRankerModel_remove_72 (fun H locs hP hD hS => ?_)
          have hP : va_P D cls (mW cI h m1 p1 q1 r1 w1 o1 f1 s1 (nc - 1) (upd my i (my (i + 1))) (upd fp2 (4 * i + j) (fp2 (4 * i + 4 + j))) fq2 fr2 up sm top bot lv ol fi se x y fd) H := hP
          have hD : va_D A (mW cI h m1 p1 q1 r1 w1 o1 f1 s1 (nc - 1) (upd my i (my (i + 1))) (upd fp2 (4 * i + j) (fp2 (4 * i + 4 + j))) fq2 fr2 up sm top bot lv ol fi se x y fd) := hD
          refine lv_aload_n X.1.1 X.1.2.1 d_LoopRankerModel_remove_73 rfl (lv_at hl 2 rfl) ?_
          refine fg_LoopRankerModel_16 X hP 0 rfl rfl d_LoopRankerModel_remove_74 ?_
          refine lv_iconst (v := (4 : Int32)) X.1.1 X.1.2.1 d_LoopRankerModel_remove_77 (by decide) ?_
          refine lv_iload_n X.1.1 X.1.2.1 d_LoopRankerModel_remove_78 rfl (lv_at hl 1 rfl) ?_
          refine wn_mul (a := 4) (b := i) X.1.1 X.1.2.1 d_LoopRankerModel_remove_79 ?_
          refine lv_iload_n X.1.1 X.1.2.1 d_LoopRankerModel_remove_80 rfl (lv_at hl 0 rfl) ?_
          refine wn_add (a := 4 * i) (b := j) X.1.1 X.1.2.1 d_LoopRankerModel_remove_81 ?_
          refine lv_aload_n X.1.1 X.1.2.1 d_LoopRankerModel_remove_82 rfl (lv_at hl 2 rfl) ?_
          refine fg_LoopRankerModel_16 X hP 0 rfl rfl d_LoopRankerModel_remove_83 ?_
          refine lv_iconst (v := (4 : Int32)) X.1.1 X.1.2.1 d_LoopRankerModel_remove_86 (by decide) ?_
          refine lv_iload_n X.1.1 X.1.2.1 d_LoopRankerModel_remove_87 rfl (lv_at hl 1 rfl) ?_
          refine wn_mul (a := 4) (b := i) X.1.1 X.1.2.1 d_LoopRankerModel_remove_88 ?_
          refine lv_iconst (v := (4 : Int32)) X.1.1 X.1.2.1 d_LoopRankerModel_remove_89 (by decide) ?_
          refine wn_add (a := 4 * i) (b := 4) X.1.1 X.1.2.1 d_LoopRankerModel_remove_90 ?_
          refine lv_iload_n X.1.1 X.1.2.1 d_LoopRankerModel_remove_91 rfl (lv_at hl 0 rfl) ?_
          refine wn_add (a := 4 * i + 4) (b := j) X.1.1 X.1.2.1 d_LoopRankerModel_remove_92 ?_
          refine wa_ild X.1.1 X.1.2.1 X.2.1 hP 3 0 rfl rfl (4 * i + 4 + j) rfl (by omega) (by decide) d_LoopRankerModel_remove_93 ?_
          refine wa_ist X.1.1 X.1.2.1 X.2.1 hP hD hS 3 0 rfl rfl (4 * i + j) rfl (by omega) (by decide) d_LoopRankerModel_remove_94 (fun H locs hP hD hS => ?_)
          have hP : va_P D cls (mW cI h m1 p1 q1 r1 w1 o1 f1 s1 (nc - 1) (upd my i (my (i + 1))) (upd fp2 (4 * i + j) (fp2 (4 * i + 4 + j))) (upd fq2 (4 * i + j) (fq2 (4 * i + 4 + j))) fr2 up sm top bot lv ol fi se x y fd) H := hP
          have hD : va_D A (mW cI h m1 p1 q1 r1 w1 o1 f1 s1 (nc - 1) (upd my i (my (i + 1))) (upd fp2 (4 * i + j) (fp2 (4 * i + 4 + j))) (upd fq2 (4 * i + j) (fq2 (4 * i + 4 + j))) fr2 up sm top bot lv ol fi se x y fd) := hD
          refine lv_aload_n X.1.1 X.1.2.1 d_LoopRankerModel_remove_95 rfl (lv_at hl 2 rfl) ?_
          refine fg_LoopRankerModel_19 X hP 0 rfl rfl d_LoopRankerModel_remove_96 ?_
          refine lv_iconst (v := (4 : Int32)) X.1.1 X.1.2.1 d_LoopRankerModel_remove_99 (by decide) ?_
          refine lv_iload_n X.1.1 X.1.2.1 d_LoopRankerModel_remove_100 rfl (lv_at hl 1 rfl) ?_
          refine wn_mul (a := 4) (b := i) X.1.1 X.1.2.1 d_LoopRankerModel_remove_101 ?_
          refine lv_iload_n X.1.1 X.1.2.1 d_LoopRankerModel_remove_102 rfl (lv_at hl 0 rfl) ?_
          refine wn_add (a := 4 * i) (b := j) X.1.1 X.1.2.1 d_LoopRankerModel_remove_103 ?_
          refine lv_aload_n X.1.1 X.1.2.1 d_LoopRankerModel_remove_104 rfl (lv_at hl 2 rfl) ?_
          refine fg_LoopRankerModel_19 X hP 0 rfl rfl d_LoopRankerModel_remove_105 ?_
          refine lv_iconst (v := (4 : Int32)) X.1.1 X.1.2.1 d_LoopRankerModel_remove_108 (by decide) ?_
          refine lv_iload_n X.1.1 X.1.2.1 d_LoopRankerModel_remove_109 rfl (lv_at hl 1 rfl) ?_
          refine wn_mul (a := 4) (b := i) X.1.1 X.1.2.1 d_LoopRankerModel_remove_110 ?_
          refine lv_iconst (v := (4 : Int32)) X.1.1 X.1.2.1 d_LoopRankerModel_remove_111 (by decide) ?_
          refine wn_add (a := 4 * i) (b := 4) X.1.1 X.1.2.1 d_LoopRankerModel_remove_112 ?_
          refine lv_iload_n X.1.1 X.1.2.1 d_LoopRankerModel_remove_113 rfl (lv_at hl 0 rfl) ?_
          refine wn_add (a := 4 * i + 4) (b := j) X.1.1 X.1.2.1 d_LoopRankerModel_remove_114 ?_
          refine wa_ild X.1.1 X.1.2.1 X.2.1 hP 4 0 rfl rfl (4 * i + 4 + j) rfl (by omega) (by decide) d_LoopRankerModel_remove_115 ?_
          refine wa_ist X.1.1 X.1.2.1 X.2.1 hP hD hS 4 0 rfl rfl (4 * i + j) rfl (by omega) (by decide) d_LoopRankerModel_remove_116 (fun H locs hP hD hS => ?_)
          have hP : va_P D cls (mW cI h m1 p1 q1 r1 w1 o1 f1 s1 (nc - 1) (upd my i (my (i + 1))) (upd fp2 (4 * i + j) (fp2 (4 * i + 4 + j))) (upd fq2 (4 * i + j) (fq2 (4 * i + 4 + j))) (upd fr2 (4 * i + j) (fr2 (4 * i + 4 + j))) up sm top bot lv ol fi se x y fd) H := hP
          have hD : va_D A (mW cI h m1 p1 q1 r1 w1 o1 f1 s1 (nc - 1) (upd my i (my (i + 1))) (upd fp2 (4 * i + j) (fp2 (4 * i + 4 + j))) (upd fq2 (4 * i + j) (fq2 (4 * i + 4 + j))) (upd fr2 (4 * i + j) (fr2 (4 * i + 4 + j))) up sm top bot lv ol fi se x y fd) := hD
          refine lv_iinc (k := 0) (v := nI (j + 1)) X.1.1 X.1.2.1 d_LoopRankerModel_remove_117 hl rfl (nI_1 j) (by decide) rfl (fun ls hl => ?_)
          have hl : lv_has ls 4 [(3, .int (nI (j + 1))), (2, .int (nI i)), (0, .ref h), (1, .int (nI t))] := hl
          refine lv_goto (tgt := 46) X.1.1 X.1.2.1 d_LoopRankerModel_remove_120 (by decide) ?_
          exact ih46 (j + 1) _ _ _ ls H locs (by omega) (e2p) (e2q) (e2r) (lv_sub hl [0, 1, 2, 3] rfl) hP hD hS
      exact lp46 4 0 fp fq fr ls H locs (by omega) (rfl) (rfl) (rfl) (lv_sub hl [0, 1, 2, 3] rfl) hP hD hS
  exact lp22 (nc - 1 - t) t fp fq fr up my ls H locs (by omega) (by rw [hfp]) (by rw [hfq]) (by rw [hfr]) (by rw [hup]) (by rw [hmy]) (lv_sub hl [0, 1, 2] rfl) hP hD hS
end CT
