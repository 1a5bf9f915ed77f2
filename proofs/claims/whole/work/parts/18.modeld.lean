section CT
variable {l : Launch} {D : va_G} {cI cJ cS : ClassId}
set_option maxHeartbeats 4000000 in
set_option maxRecDepth 100000 in
theorem c_LoopRankerModel_removes (h m1 p1 q1 r1 w1 o1 f1 s1 : Nat) (nc : Nat) (my fp fq fr up : Nat → Int32) (sm : Int32) (top bot : Int64) (lv : Nat) (ol fi se : Nat → Int32) (x y : Int64) (fd : Int32) (u v : Int32) (dn : Nat → Nat) (hmy : ∀ t, t < nc → my t = nI (dn t) ∧ dn t ≤ 4) (hc : nc ≤ 6) : wk_ki l y_LoopRankerModel_removes (Cond.code y_LoopRankerModel_removes b_LoopRankerModel_removes 5 (some .int) :: BW) rm_LoopRankerModel_removes D cls (kT cI cJ cS) nz [.ref h, .int u, .int v] (mW cI h m1 p1 q1 r1 w1 o1 f1 s1 nc my fp fq fr up sm top bot lv ol fi se x y fd) (fun wz => ∃ sm2 t2 b2, wz = mW cI h m1 p1 q1 r1 w1 o1 f1 s1 nc my fp fq fr up sm2 t2 b2 lv ol fi se x y fd) (nI (m_rm ol (fun t w => m_H fp fq fr up dn t u v w) nc 0 0)) := by
  refine ws_i (plainFor_of_name (by decide)) (Nat.le_of_ble_eq_true rfl) ?_
  intro p e s m below meth c A ls Q X hret hl hP hD hS
  obtain ⟨H, hH⟩ : ∃ H, H = s.heap := ⟨_, rfl⟩
  obtain ⟨locs, hlo⟩ : ∃ locs : List Loc, locs = [] := ⟨_, rfl⟩
  have hP : va_P D cls (mW cI h m1 p1 q1 r1 w1 o1 f1 s1 nc my fp fq fr up sm top bot lv ol fi se x y fd) H := by rw [hH]; exact hP
  have hS : va_S A s.heap H locs := by rw [hH, hlo]; exact hS
  suffices hgo : W p l e rm_LoopRankerModel_removes s m ([.ref h, .int u, .int v] : List Value).toArray below meth c H locs 0 0 Q (F0 m 0 ls ([])) by rw [hH, hlo] at hgo; exact hgo
  clear hH hlo
  have hl : lv_has ls 5 [(0, .ref h), (1, .int u), (2, .int v)] := hl
  refine lv_iconst (v := (0 : Int32)) X.1.1 X.1.2.1 d_LoopRankerModel_removes_0 (by decide) ?_
  refine lv_istore_n X.1.1 X.1.2.1 d_LoopRankerModel_removes_1 rfl hl (by decide) rfl (fun ls hl => ?_)
  have hl : lv_has ls 5 [(3, .int (0 : Int32)), (0, .ref h), (1, .int u), (2, .int v)] := hl
  refine lv_iconst (v := (0 : Int32)) X.1.1 X.1.2.1 d_LoopRankerModel_removes_2 (by decide) ?_
  refine lv_istore X.1.1 X.1.2.1 d_LoopRankerModel_removes_3 hl (by decide) rfl (fun ls hl => ?_)
  have hl : lv_has ls 5 [(4, .int (0 : Int32)), (3, .int (0 : Int32)), (0, .ref h), (1, .int u), (2, .int v)] := hl
  have lp5 : ∀ (k5 : Nat) (i : Nat) (n : Nat) (sm : Int32) (top : Int64) (bot : Int64) (ls : Array Slot) (H : Heap) (locs : List Loc), i + k5 = nc → m_rm ol (fun t w => m_H fp fq fr up dn t u v w) k5 i n = m_rm ol (fun t w => m_H fp fq fr up dn t u v w) nc 0 0 → lv_has ls 5 [(4, .int (nI i)), (3, .int (nI n)), (0, .ref h), (1, .int u), (2, .int v)] → va_P D cls (mW cI h m1 p1 q1 r1 w1 o1 f1 s1 nc my fp fq fr up sm top bot lv ol fi se x y fd) H → va_D A (mW cI h m1 p1 q1 r1 w1 o1 f1 s1 nc my fp fq fr up sm top bot lv ol fi se x y fd) → va_S A s.heap H locs → W p l e rm_LoopRankerModel_removes s m ([.ref h, .int u, .int v] : List Value).toArray below meth c H locs 0 0 Q (F0 m 5 ls ([])) := by
    intro k5
    induction k5 with
    | zero =>
      intro i n sm top bot ls H locs hik hE hl hP hD hS
      refine lv_iload X.1.1 X.1.2.1 d_LoopRankerModel_removes_5 (lv_at hl 0 rfl) ?_
      refine lv_aload_n X.1.1 X.1.2.1 d_LoopRankerModel_removes_7 rfl (lv_at hl 2 rfl) ?_
      refine fg_LoopRankerModel_34 X hP 0 rfl rfl d_LoopRankerModel_removes_8 ?_
      refine wn_ge (a := i) (b := nc) (tgt := 76) X.1.1 X.1.2.1 d_LoopRankerModel_removes_11 (by decide) (by omega) (by omega) (fun h11 => ?_) (fun h11 => by exfalso; omega)
      refine lv_iload_n X.1.1 X.1.2.1 d_LoopRankerModel_removes_76 rfl (lv_at hl 1 rfl) ?_
      exact hret 77 H locs ls _ _ hP hD hS d_LoopRankerModel_removes_77 (by rw [← hE]; rfl) (⟨_, _, _, rfl⟩)
    | succ k5 ih5 =>
      intro i n sm top bot ls H locs hik hE hl hP hD hS
      refine lv_iload X.1.1 X.1.2.1 d_LoopRankerModel_removes_5 (lv_at hl 0 rfl) ?_
      refine lv_aload_n X.1.1 X.1.2.1 d_LoopRankerModel_removes_7 rfl (lv_at hl 2 rfl) ?_
      refine fg_LoopRankerModel_34 X hP 0 rfl rfl d_LoopRankerModel_removes_8 ?_
      refine wn_ge (a := i) (b := nc) (tgt := 76) X.1.1 X.1.2.1 d_LoopRankerModel_removes_11 (by decide) (by omega) (by omega) (fun h11 => by exfalso; omega) (fun h11 => ?_)
      refine lv_aload_n X.1.1 X.1.2.1 d_LoopRankerModel_removes_14 rfl (lv_at hl 2 rfl) ?_
      refine fg_LoopRankerModel_25 X hP 0 rfl rfl d_LoopRankerModel_removes_15 ?_
      refine lv_iload X.1.1 X.1.2.1 d_LoopRankerModel_removes_18 (lv_at hl 0 rfl) ?_
      refine wa_ild X.1.1 X.1.2.1 X.2.1 hP 6 0 rfl rfl i rfl (by omega) (by decide) d_LoopRankerModel_removes_20 ?_
      refine wi0_ge (tgt := 70) X.1.1 X.1.2.1 d_LoopRankerModel_removes_21 (by decide) (fun h21 => ?_) (fun h21 => ?_)
      · refine lv_iinc (k := 0) (v := nI (i + 1)) X.1.1 X.1.2.1 d_LoopRankerModel_removes_70 hl rfl (nI_1 i) (by decide) rfl (fun ls hl => ?_)
        have hl : lv_has ls 5 [(4, .int (nI (i + 1))), (3, .int (nI n)), (0, .ref h), (1, .int u), (2, .int v)] := hl
        refine lv_goto (tgt := 5) X.1.1 X.1.2.1 d_LoopRankerModel_removes_73 (by decide) ?_
        exact ih5 (i + 1) n _ _ _ ls H locs (by omega) (by rw [← hE]; show _ = m_rm ol (fun t w => m_H fp fq fr up dn t u v w) (k5 + 1) i n; simp only [m_rm]; rw [if_neg h21]) (lv_sub hl [0, 1, 2, 3, 4] rfl) hP hD hS
      · refine lv_aload_n X.1.1 X.1.2.1 d_LoopRankerModel_removes_24 rfl (lv_at hl 2 rfl) ?_
        refine lv_iload X.1.1 X.1.2.1 d_LoopRankerModel_removes_25 (lv_at hl 0 rfl) ?_
        refine lv_iload_n X.1.1 X.1.2.1 d_LoopRankerModel_removes_27 rfl (lv_at hl 3 rfl) ?_
        refine lv_iload_n X.1.1 X.1.2.1 d_LoopRankerModel_removes_28 rfl (lv_at hl 4 rfl) ?_
        refine lv_iconst (v := (0 : Int32)) X.1.1 X.1.2.1 d_LoopRankerModel_removes_29 (by decide) ?_
        refine wc_Vi [.int (nI i), .int u, .int v, .int (0 : Int32)] 4 0 X nz_nest (c_LoopRankerModel_has h m1 p1 q1 r1 w1 o1 f1 s1 nc my fp fq fr up sm top bot lv ol fi se x y fd i u v (0 : Int32) (dn i) (hmy i (by omega)).1 (by omega) (hmy i (by omega)).2) (cw_LoopRankerModel_91 X.1.2.2.2.2 X.2.2.1 (by decide)) ([]) ([]) (rfl) hP hD hS rfl rfl rfl rfl hl.1 (Nat.le_of_ble_eq_true rfl) (by decide) d_LoopRankerModel_removes_30 (fun H locs wn hwn hP hD hS => ?_)
        obtain ⟨sm1, top1, bot1, rfl⟩ := hwn
        have hP : va_P D cls (mW cI h m1 p1 q1 r1 w1 o1 f1 s1 nc my fp fq fr up sm1 top1 bot1 lv ol fi se x y fd) H := hP
        have hD : va_D A (mW cI h m1 p1 q1 r1 w1 o1 f1 s1 nc my fp fq fr up sm1 top1 bot1 lv ol fi se x y fd) := hD
        refine wi0_ne (tgt := 38) X.1.1 X.1.2.1 d_LoopRankerModel_removes_33 (by decide) (fun h33 => ?_) (fun h33 => ?_)
        · refine lv_aload_n X.1.1 X.1.2.1 d_LoopRankerModel_removes_38 rfl (lv_at hl 2 rfl) ?_
          refine lv_iload X.1.1 X.1.2.1 d_LoopRankerModel_removes_39 (lv_at hl 0 rfl) ?_
          refine lv_iload_n X.1.1 X.1.2.1 d_LoopRankerModel_removes_41 rfl (lv_at hl 3 rfl) ?_
          refine lv_iload_n X.1.1 X.1.2.1 d_LoopRankerModel_removes_42 rfl (lv_at hl 4 rfl) ?_
          refine lv_iconst (v := (1 : Int32)) X.1.1 X.1.2.1 d_LoopRankerModel_removes_43 (by decide) ?_
          refine wc_Vi [.int (nI i), .int u, .int v, .int (1 : Int32)] 4 0 X nz_nest (c_LoopRankerModel_has h m1 p1 q1 r1 w1 o1 f1 s1 nc my fp fq fr up sm1 top1 bot1 lv ol fi se x y fd i u v (1 : Int32) (dn i) (hmy i (by omega)).1 (by omega) (hmy i (by omega)).2) (cw_LoopRankerModel_91 X.1.2.2.2.2 X.2.2.1 (by decide)) ([]) ([]) (rfl) hP hD hS rfl rfl rfl rfl hl.1 (Nat.le_of_ble_eq_true rfl) (by decide) d_LoopRankerModel_removes_44 (fun H locs wn hwn hP hD hS => ?_)
          obtain ⟨sm2, top2, bot2, rfl⟩ := hwn
          have hP : va_P D cls (mW cI h m1 p1 q1 r1 w1 o1 f1 s1 nc my fp fq fr up sm2 top2 bot2 lv ol fi se x y fd) H := hP
          have hD : va_D A (mW cI h m1 p1 q1 r1 w1 o1 f1 s1 nc my fp fq fr up sm2 top2 bot2 lv ol fi se x y fd) := hD
          refine wi0_eq (tgt := 68) X.1.1 X.1.2.1 d_LoopRankerModel_removes_47 (by decide) (fun h47 => ?_) (fun h47 => ?_)
          · refine lv_iload_n X.1.1 X.1.2.1 d_LoopRankerModel_removes_68 rfl (lv_at hl 1 rfl) ?_
            refine lv_istore_n X.1.1 X.1.2.1 d_LoopRankerModel_removes_69 rfl hl (by decide) rfl (fun ls hl => ?_)
            have hl : lv_has ls 5 [(3, .int (nI n)), (4, .int (nI i)), (0, .ref h), (1, .int u), (2, .int v)] := hl
            refine lv_iinc (k := 1) (v := nI (i + 1)) X.1.1 X.1.2.1 d_LoopRankerModel_removes_70 hl rfl (nI_1 i) (by decide) rfl (fun ls hl => ?_)
            have hl : lv_has ls 5 [(4, .int (nI (i + 1))), (3, .int (nI n)), (0, .ref h), (1, .int u), (2, .int v)] := hl
            refine lv_goto (tgt := 5) X.1.1 X.1.2.1 d_LoopRankerModel_removes_73 (by decide) ?_
            exact ih5 (i + 1) n _ _ _ ls H locs (by omega) (by rw [← hE]; show _ = m_rm ol (fun t w => m_H fp fq fr up dn t u v w) (k5 + 1) i n; simp only [m_rm]; rw [if_pos h21, if_neg h33, if_pos h47]) (lv_sub hl [0, 1, 2, 3, 4] rfl) hP hD hS
          · refine lv_aload_n X.1.1 X.1.2.1 d_LoopRankerModel_removes_50 rfl (lv_at hl 2 rfl) ?_
            refine lv_iload X.1.1 X.1.2.1 d_LoopRankerModel_removes_51 (lv_at hl 0 rfl) ?_
            refine lv_iload_n X.1.1 X.1.2.1 d_LoopRankerModel_removes_53 rfl (lv_at hl 3 rfl) ?_
            refine lv_iload_n X.1.1 X.1.2.1 d_LoopRankerModel_removes_54 rfl (lv_at hl 4 rfl) ?_
            refine lv_iconst (v := (2 : Int32)) X.1.1 X.1.2.1 d_LoopRankerModel_removes_55 (by decide) ?_
            refine wc_Vi [.int (nI i), .int u, .int v, .int (2 : Int32)] 4 0 X nz_nest (c_LoopRankerModel_has h m1 p1 q1 r1 w1 o1 f1 s1 nc my fp fq fr up sm2 top2 bot2 lv ol fi se x y fd i u v (2 : Int32) (dn i) (hmy i (by omega)).1 (by omega) (hmy i (by omega)).2) (cw_LoopRankerModel_91 X.1.2.2.2.2 X.2.2.1 (by decide)) ([]) ([]) (rfl) hP hD hS rfl rfl rfl rfl hl.1 (Nat.le_of_ble_eq_true rfl) (by decide) d_LoopRankerModel_removes_56 (fun H locs wn hwn hP hD hS => ?_)
            obtain ⟨sm3, top3, bot3, rfl⟩ := hwn
            have hP : va_P D cls (mW cI h m1 p1 q1 r1 w1 o1 f1 s1 nc my fp fq fr up sm3 top3 bot3 lv ol fi se x y fd) H := hP
            have hD : va_D A (mW cI h m1 p1 q1 r1 w1 o1 f1 s1 nc my fp fq fr up sm3 top3 bot3 lv ol fi se x y fd) := hD
            refine wi0_eq (tgt := 68) X.1.1 X.1.2.1 d_LoopRankerModel_removes_59 (by decide) (fun h59 => ?_) (fun h59 => ?_)
            · refine lv_iload_n X.1.1 X.1.2.1 d_LoopRankerModel_removes_68 rfl (lv_at hl 1 rfl) ?_
              refine lv_istore_n X.1.1 X.1.2.1 d_LoopRankerModel_removes_69 rfl hl (by decide) rfl (fun ls hl => ?_)
              have hl : lv_has ls 5 [(3, .int (nI n)), (4, .int (nI i)), (0, .ref h), (1, .int u), (2, .int v)] := hl
              refine lv_iinc (k := 1) (v := nI (i + 1)) X.1.1 X.1.2.1 d_LoopRankerModel_removes_70 hl rfl (nI_1 i) (by decide) rfl (fun ls hl => ?_)
              have hl : lv_has ls 5 [(4, .int (nI (i + 1))), (3, .int (nI n)), (0, .ref h), (1, .int u), (2, .int v)] := hl
              refine lv_goto (tgt := 5) X.1.1 X.1.2.1 d_LoopRankerModel_removes_73 (by decide) ?_
              exact ih5 (i + 1) n _ _ _ ls H locs (by omega) (by rw [← hE]; show _ = m_rm ol (fun t w => m_H fp fq fr up dn t u v w) (k5 + 1) i n; simp only [m_rm]; rw [if_pos h21, if_neg h33, if_neg h47, if_pos h59]) (lv_sub hl [0, 1, 2, 3, 4] rfl) hP hD hS
            · refine lv_iload_n X.1.1 X.1.2.1 d_LoopRankerModel_removes_62 rfl (lv_at hl 1 rfl) ?_
              refine lv_iconst (v := (1 : Int32)) X.1.1 X.1.2.1 d_LoopRankerModel_removes_63 (by decide) ?_
              refine wn_add (a := n) (b := 1) X.1.1 X.1.2.1 d_LoopRankerModel_removes_64 ?_
              refine lv_goto (tgt := 69) X.1.1 X.1.2.1 d_LoopRankerModel_removes_65 (by decide) ?_
              refine lv_istore_n X.1.1 X.1.2.1 d_LoopRankerModel_removes_69 rfl hl (by decide) rfl (fun ls hl => ?_)
              have hl : lv_has ls 5 [(3, .int (nI (n + 1))), (4, .int (nI i)), (0, .ref h), (1, .int u), (2, .int v)] := hl
              refine lv_iinc (k := 1) (v := nI (i + 1)) X.1.1 X.1.2.1 d_LoopRankerModel_removes_70 hl rfl (nI_1 i) (by decide) rfl (fun ls hl => ?_)
              have hl : lv_has ls 5 [(4, .int (nI (i + 1))), (3, .int (nI (n + 1))), (0, .ref h), (1, .int u), (2, .int v)] := hl
              refine lv_goto (tgt := 5) X.1.1 X.1.2.1 d_LoopRankerModel_removes_73 (by decide) ?_
              exact ih5 (i + 1) (n + 1) _ _ _ ls H locs (by omega) (by rw [← hE]; show _ = m_rm ol (fun t w => m_H fp fq fr up dn t u v w) (k5 + 1) i n; simp only [m_rm]; rw [if_pos h21, if_neg h33, if_neg h47, if_neg h59]) (lv_sub hl [0, 1, 2, 3, 4] rfl) hP hD hS
        · refine lv_iconst (v := (0 : Int32)) X.1.1 X.1.2.1 d_LoopRankerModel_removes_36 (by decide) ?_
          exact hret 37 H locs ls _ _ hP hD hS d_LoopRankerModel_removes_37 (by rw [← hE]; show _ = nI (m_rm ol (fun t w => m_H fp fq fr up dn t u v w) (k5 + 1) i n); simp only [m_rm]; rw [if_pos h21, if_pos h33]; rfl) (⟨_, _, _, rfl⟩)
  exact lp5 nc 0 0 _ _ _ ls H locs (by omega) (rfl) (lv_sub hl [0, 1, 2, 3, 4] rfl) hP hD hS
set_option maxHeartbeats 4000000 in
set_option maxRecDepth 100000 in
theorem c_LoopRankerModel_left (h m1 p1 q1 r1 w1 o1 f1 s1 : Nat) (nc : Nat) (my fp fq fr up : Nat → Int32) (sm : Int32) (top bot : Int64) (lv : Nat) (ol fi se : Nat → Int32) (x y : Int64) (fd : Int32) (hc : nc ≤ 6) : wk_ki l y_LoopRankerModel_left (Cond.code y_LoopRankerModel_left b_LoopRankerModel_left 3 (some .int) :: BW) rm_LoopRankerModel_left D cls (kT cI cJ cS) nz [.ref h] (mW cI h m1 p1 q1 r1 w1 o1 f1 s1 nc my fp fq fr up sm top bot lv ol fi se x y fd) (fun wz => wz = mW cI h m1 p1 q1 r1 w1 o1 f1 s1 nc my fp fq fr up sm top bot lv ol fi se x y fd) (nI (m_lf ol nc 0 0)) := by
  refine ws_i (plainFor_of_name (by decide)) (Nat.le_of_ble_eq_true rfl) ?_
  intro p e s m below meth c A ls Q X hret hl hP hD hS
  obtain ⟨H, hH⟩ : ∃ H, H = s.heap := ⟨_, rfl⟩
  obtain ⟨locs, hlo⟩ : ∃ locs : List Loc, locs = [] := ⟨_, rfl⟩
  have hP : va_P D cls (mW cI h m1 p1 q1 r1 w1 o1 f1 s1 nc my fp fq fr up sm top bot lv ol fi se x y fd) H := by rw [hH]; exact hP
  have hS : va_S A s.heap H locs := by rw [hH, hlo]; exact hS
  suffices hgo : W p l e rm_LoopRankerModel_left s m ([.ref h] : List Value).toArray below meth c H locs 0 0 Q (F0 m 0 ls ([])) by rw [hH, hlo] at hgo; exact hgo
  clear hH hlo
  have hl : lv_has ls 3 [(0, .ref h)] := hl
  refine lv_iconst (v := (0 : Int32)) X.1.1 X.1.2.1 d_LoopRankerModel_left_0 (by decide) ?_
  refine lv_istore_n X.1.1 X.1.2.1 d_LoopRankerModel_left_1 rfl hl (by decide) rfl (fun ls hl => ?_)
  have hl : lv_has ls 3 [(1, .int (0 : Int32)), (0, .ref h)] := hl
  refine lv_iconst (v := (0 : Int32)) X.1.1 X.1.2.1 d_LoopRankerModel_left_2 (by decide) ?_
  refine lv_istore_n X.1.1 X.1.2.1 d_LoopRankerModel_left_3 rfl hl (by decide) rfl (fun ls hl => ?_)
  have hl : lv_has ls 3 [(2, .int (0 : Int32)), (1, .int (0 : Int32)), (0, .ref h)] := hl
  have lp4 : ∀ (k4 : Nat) (i : Nat) (n : Nat) (ls : Array Slot) (H : Heap) (locs : List Loc), i + k4 = nc → m_lf ol k4 i n = m_lf ol nc 0 0 → lv_has ls 3 [(2, .int (nI i)), (1, .int (nI n)), (0, .ref h)] → va_P D cls (mW cI h m1 p1 q1 r1 w1 o1 f1 s1 nc my fp fq fr up sm top bot lv ol fi se x y fd) H → va_D A (mW cI h m1 p1 q1 r1 w1 o1 f1 s1 nc my fp fq fr up sm top bot lv ol fi se x y fd) → va_S A s.heap H locs → W p l e rm_LoopRankerModel_left s m ([.ref h] : List Value).toArray below meth c H locs 0 0 Q (F0 m 4 ls ([])) := by
    intro k4
    induction k4 with
    | zero =>
      intro i n ls H locs hik hE hl hP hD hS
      refine lv_iload_n X.1.1 X.1.2.1 d_LoopRankerModel_left_4 rfl (lv_at hl 0 rfl) ?_
      refine lv_aload_n X.1.1 X.1.2.1 d_LoopRankerModel_left_5 rfl (lv_at hl 2 rfl) ?_
      refine fg_LoopRankerModel_34 X hP 0 rfl rfl d_LoopRankerModel_left_6 ?_
      refine wn_ge (a := i) (b := nc) (tgt := 35) X.1.1 X.1.2.1 d_LoopRankerModel_left_9 (by decide) (by omega) (by omega) (fun h9 => ?_) (fun h9 => by exfalso; omega)
      refine lv_iload_n X.1.1 X.1.2.1 d_LoopRankerModel_left_35 rfl (lv_at hl 1 rfl) ?_
      exact hret 36 H locs ls _ _ hP hD hS d_LoopRankerModel_left_36 (by rw [← hE]; rfl) (rfl)
    | succ k4 ih4 =>
      intro i n ls H locs hik hE hl hP hD hS
      refine lv_iload_n X.1.1 X.1.2.1 d_LoopRankerModel_left_4 rfl (lv_at hl 0 rfl) ?_
      refine lv_aload_n X.1.1 X.1.2.1 d_LoopRankerModel_left_5 rfl (lv_at hl 2 rfl) ?_
      refine fg_LoopRankerModel_34 X hP 0 rfl rfl d_LoopRankerModel_left_6 ?_
      refine wn_ge (a := i) (b := nc) (tgt := 35) X.1.1 X.1.2.1 d_LoopRankerModel_left_9 (by decide) (by omega) (by omega) (fun h9 => by exfalso; omega) (fun h9 => ?_)
      refine lv_aload_n X.1.1 X.1.2.1 d_LoopRankerModel_left_12 rfl (lv_at hl 2 rfl) ?_
      refine fg_LoopRankerModel_25 X hP 0 rfl rfl d_LoopRankerModel_left_13 ?_
      refine lv_iload_n X.1.1 X.1.2.1 d_LoopRankerModel_left_16 rfl (lv_at hl 0 rfl) ?_
      refine wa_ild X.1.1 X.1.2.1 X.2.1 hP 6 0 rfl rfl i rfl (by omega) (by decide) d_LoopRankerModel_left_17 ?_
      refine wi0_ge (tgt := 27) X.1.1 X.1.2.1 d_LoopRankerModel_left_18 (by decide) (fun h18 => ?_) (fun h18 => ?_)
      · refine lv_iload_n X.1.1 X.1.2.1 d_LoopRankerModel_left_27 rfl (lv_at hl 1 rfl) ?_
        refine lv_istore_n X.1.1 X.1.2.1 d_LoopRankerModel_left_28 rfl hl (by decide) rfl (fun ls hl => ?_)
        have hl : lv_has ls 3 [(1, .int (nI n)), (2, .int (nI i)), (0, .ref h)] := hl
        refine lv_iinc (k := 1) (v := nI (i + 1)) X.1.1 X.1.2.1 d_LoopRankerModel_left_29 hl rfl (nI_1 i) (by decide) rfl (fun ls hl => ?_)
        have hl : lv_has ls 3 [(2, .int (nI (i + 1))), (1, .int (nI n)), (0, .ref h)] := hl
        refine lv_goto (tgt := 4) X.1.1 X.1.2.1 d_LoopRankerModel_left_32 (by decide) ?_
        exact ih4 (i + 1) n ls H locs (by omega) (by rw [← hE]; show _ = m_lf ol (k4 + 1) i n; simp only [m_lf, if_neg h18]) (lv_sub hl [0, 1, 2] rfl) hP hD hS
      · refine lv_iload_n X.1.1 X.1.2.1 d_LoopRankerModel_left_21 rfl (lv_at hl 1 rfl) ?_
        refine lv_iconst (v := (1 : Int32)) X.1.1 X.1.2.1 d_LoopRankerModel_left_22 (by decide) ?_
        refine wn_add (a := n) (b := 1) X.1.1 X.1.2.1 d_LoopRankerModel_left_23 ?_
        refine lv_goto (tgt := 28) X.1.1 X.1.2.1 d_LoopRankerModel_left_24 (by decide) ?_
        refine lv_istore_n X.1.1 X.1.2.1 d_LoopRankerModel_left_28 rfl hl (by decide) rfl (fun ls hl => ?_)
        have hl : lv_has ls 3 [(1, .int (nI (n + 1))), (2, .int (nI i)), (0, .ref h)] := hl
        refine lv_iinc (k := 1) (v := nI (i + 1)) X.1.1 X.1.2.1 d_LoopRankerModel_left_29 hl rfl (nI_1 i) (by decide) rfl (fun ls hl => ?_)
        have hl : lv_has ls 3 [(2, .int (nI (i + 1))), (1, .int (nI (n + 1))), (0, .ref h)] := hl
        refine lv_goto (tgt := 4) X.1.1 X.1.2.1 d_LoopRankerModel_left_32 (by decide) ?_
        exact ih4 (i + 1) (n + 1) ls H locs (by omega) (by rw [← hE]; show _ = m_lf ol (k4 + 1) i n; simp only [m_lf, if_pos h18]) (lv_sub hl [0, 1, 2] rfl) hP hD hS
  exact lp4 nc 0 0 ls H locs (by omega) (rfl) (lv_sub hl [0, 1, 2] rfl) hP hD hS
end CT
