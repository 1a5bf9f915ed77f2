section CT
variable {l : Launch} {D : va_G} {cI cJ cS : ClassId}
set_option maxHeartbeats 4000000 in
set_option maxRecDepth 100000 in
theorem c_LoopRankerModel_floorOf (h m1 p1 q1 r1 w1 o1 f1 s1 : Nat) (nc : Nat) (my fp fq fr up : Nat → Int32) (sm : Int32) (top bot : Int64) (lv : Nat) (ol fi se : Nat → Int32) (x y : Int64) (fd : Int32) (lev : Nat) (dn : Nat → Nat) (hmy : ∀ t, t < nc → my t = nI (dn t) ∧ dn t ≤ 4) (hc : nc ≤ 6) (hlev : lev < 6) : wk_kl l y_LoopRankerModel_floorOf (Cond.code y_LoopRankerModel_floorOf b_LoopRankerModel_floorOf 9 (some .long) :: BW) rm_LoopRankerModel_floorOf D cls (kT cI cJ cS) nz [.ref h, .int (nI lev)] (mW cI h m1 p1 q1 r1 w1 o1 f1 s1 nc my fp fq fr up sm top bot lv ol fi se x y fd) (fun wz => ∃ sm2 t2 b2, wz = mW cI h m1 p1 q1 r1 w1 o1 f1 s1 nc my fp fq fr up sm2 t2 b2 lv ol fi se x y fd) (m_flo fp fq fr dn ol nc lev (fi lev) (se lev)) := by
  refine ws_l (plainFor_of_name (by decide)) (Nat.le_of_ble_eq_true rfl) ?_
  intro p e s m below meth c A ls Q X hret hl hP hD hS
  obtain ⟨H, hH⟩ : ∃ H, H = s.heap := ⟨_, rfl⟩
  obtain ⟨locs, hlo⟩ : ∃ locs : List Loc, locs = [] := ⟨_, rfl⟩
  have hP : va_P D cls (mW cI h m1 p1 q1 r1 w1 o1 f1 s1 nc my fp fq fr up sm top bot lv ol fi se x y fd) H := by rw [hH]; exact hP
  have hS : va_S A s.heap H locs := by rw [hH, hlo]; exact hS
  suffices hgo : W p l e rm_LoopRankerModel_floorOf s m ([.ref h, .int (nI lev)] : List Value).toArray below meth c H locs 0 0 Q (F0 m 0 ls ([])) by rw [hH, hlo] at hgo; exact hgo
  clear hH hlo
  have hl : lv_has ls 9 [(0, .ref h), (1, .int (nI lev))] := hl
  refine lv_iconst (v := (0 : Int32)) X.1.1 X.1.2.1 d_LoopRankerModel_floorOf_0 (by decide) ?_
  refine lv_istore_n X.1.1 X.1.2.1 d_LoopRankerModel_floorOf_1 rfl hl (by decide) rfl (fun ls hl => ?_)
  have hl : lv_has ls 9 [(2, .int (0 : Int32)), (0, .ref h), (1, .int (nI lev))] := hl
  refine lv_lconst (v := 0) X.1.1 X.1.2.1 d_LoopRankerModel_floorOf_2 (by decide) ?_
  refine lv_lstore_n X.1.1 X.1.2.1 d_LoopRankerModel_floorOf_3 rfl hl (by decide) rfl (fun ls hl => ?_)
  have hl : lv_has ls 9 [(3, .long (0 : Int64)), (2, .int (0 : Int32)), (0, .ref h), (1, .int (nI lev))] := hl
  refine lv_iconst (v := (0 : Int32)) X.1.1 X.1.2.1 d_LoopRankerModel_floorOf_4 (by decide) ?_
  refine lv_istore X.1.1 X.1.2.1 d_LoopRankerModel_floorOf_5 hl (by decide) rfl (fun ls hl => ?_)
  have hl : lv_has ls 9 [(5, .int (0 : Int32)), (3, .long (0 : Int64)), (2, .int (0 : Int32)), (0, .ref h), (1, .int (nI lev))] := hl
  have lp7 : ∀ (k7 : Nat) (i : Nat) (so : Int32) (le : Int64) (sm : Int32) (top : Int64) (bot : Int64) (ls : Array Slot) (H : Heap) (locs : List Loc), i + k7 = nc → m_ff (fun t => m_emp fp fq fr (4 * t) (dn t)) (fun t => m_lo fp fq fr t (dn t) (fi lev) (se lev)) ol (nI lev) k7 i (so, le) = m_ff (fun t => m_emp fp fq fr (4 * t) (dn t)) (fun t => m_lo fp fq fr t (dn t) (fi lev) (se lev)) ol (nI lev) nc 0 (0, 0) → lv_has ls 9 [(5, .int (nI i)), (3, .long le), (2, .int so), (0, .ref h), (1, .int (nI lev))] → va_P D cls (mW cI h m1 p1 q1 r1 w1 o1 f1 s1 nc my fp fq fr up sm top bot lv ol fi se x y fd) H → va_D A (mW cI h m1 p1 q1 r1 w1 o1 f1 s1 nc my fp fq fr up sm top bot lv ol fi se x y fd) → va_S A s.heap H locs → W p l e rm_LoopRankerModel_floorOf s m ([.ref h, .int (nI lev)] : List Value).toArray below meth c H locs 0 0 Q (F0 m 7 ls ([])) := by
    intro k7
    induction k7 with
    | zero =>
      intro i so le sm top bot ls H locs hik hE hl hP hD hS
      refine lv_iload X.1.1 X.1.2.1 d_LoopRankerModel_floorOf_7 (lv_at hl 0 rfl) ?_
      refine lv_aload_n X.1.1 X.1.2.1 d_LoopRankerModel_floorOf_9 rfl (lv_at hl 3 rfl) ?_
      refine fg_LoopRankerModel_34 X hP 0 rfl rfl d_LoopRankerModel_floorOf_10 ?_
      refine wn_ge (a := i) (b := nc) (tgt := 107) X.1.1 X.1.2.1 d_LoopRankerModel_floorOf_13 (by decide) (by omega) (by omega) (fun h13 => ?_) (fun h13 => by exfalso; omega)
      refine lv_lload_n X.1.1 X.1.2.1 d_LoopRankerModel_floorOf_107 rfl (lv_at hl 1 rfl) ?_
      exact hret 108 H locs ls _ _ hP hD hS d_LoopRankerModel_floorOf_108 (by unfold m_flo; rw [← hE]; rfl) (⟨_, _, _, rfl⟩)
    | succ k7 ih7 =>
      intro i so le sm top bot ls H locs hik hE hl hP hD hS
      refine lv_iload X.1.1 X.1.2.1 d_LoopRankerModel_floorOf_7 (lv_at hl 0 rfl) ?_
      refine lv_aload_n X.1.1 X.1.2.1 d_LoopRankerModel_floorOf_9 rfl (lv_at hl 3 rfl) ?_
      refine fg_LoopRankerModel_34 X hP 0 rfl rfl d_LoopRankerModel_floorOf_10 ?_
      refine wn_ge (a := i) (b := nc) (tgt := 107) X.1.1 X.1.2.1 d_LoopRankerModel_floorOf_13 (by decide) (by omega) (by omega) (fun h13 => by exfalso; omega) (fun h13 => ?_)
      refine lv_aload_n X.1.1 X.1.2.1 d_LoopRankerModel_floorOf_16 rfl (lv_at hl 3 rfl) ?_
      refine fg_LoopRankerModel_25 X hP 0 rfl rfl d_LoopRankerModel_floorOf_17 ?_
      refine lv_iload X.1.1 X.1.2.1 d_LoopRankerModel_floorOf_20 (lv_at hl 0 rfl) ?_
      refine wa_ild X.1.1 X.1.2.1 X.2.1 hP 6 0 rfl rfl i rfl (by omega) (by decide) d_LoopRankerModel_floorOf_22 ?_
      refine lv_iload_n X.1.1 X.1.2.1 d_LoopRankerModel_floorOf_23 rfl (lv_at hl 4 rfl) ?_
      refine wi_ne (tgt := 101) X.1.1 X.1.2.1 d_LoopRankerModel_floorOf_24 (by decide) (fun h24 => ?_) (fun h24 => ?_)
      · refine lv_iinc (k := 0) (v := nI (i + 1)) X.1.1 X.1.2.1 d_LoopRankerModel_floorOf_101 hl rfl (nI_1 i) (by decide) rfl (fun ls hl => ?_)
        have hl : lv_has ls 9 [(5, .int (nI (i + 1))), (3, .long le), (2, .int so), (0, .ref h), (1, .int (nI lev))] := hl
        refine lv_goto (tgt := 7) X.1.1 X.1.2.1 d_LoopRankerModel_floorOf_104 (by decide) ?_
        exact ih7 (i + 1) so le _ _ _ ls H locs (by omega) (by rw [← hE]; show _ = m_ff (fun t => m_emp fp fq fr (4 * t) (dn t)) (fun t => m_lo fp fq fr t (dn t) (fi lev) (se lev)) ol (nI lev) (k7 + 1) i (so, le); simp only [m_ff, m_fs]; rw [if_neg h24]) (lv_sub hl [0, 1, 2, 3, 4] rfl) hP hD hS
      · refine lv_aload_n X.1.1 X.1.2.1 d_LoopRankerModel_floorOf_27 rfl (lv_at hl 3 rfl) ?_
        refine lv_iload X.1.1 X.1.2.1 d_LoopRankerModel_floorOf_28 (lv_at hl 0 rfl) ?_
        refine wc_Vi [.int (nI i)] 4 0 X nz_nest (c_LoopRankerModel_empty h m1 p1 q1 r1 w1 o1 f1 s1 nc my fp fq fr up sm top bot lv ol fi se x y fd i (dn i) (hmy i (by omega)).1 (by omega) (hmy i (by omega)).2) (cw_LoopRankerModel_75 X.1.2.2.2.2 X.2.2.1 (by decide)) ([]) ([]) (rfl) hP hD hS rfl rfl rfl rfl hl.1 (Nat.le_of_ble_eq_true rfl) (by decide) d_LoopRankerModel_floorOf_30 (fun H locs wn hwn hP hD hS => ?_)
        obtain ⟨sm1, top1, bot1, rfl⟩ := hwn
        have hP : va_P D cls (mW cI h m1 p1 q1 r1 w1 o1 f1 s1 nc my fp fq fr up sm1 top1 bot1 lv ol fi se x y fd) H := hP
        have hD : va_D A (mW cI h m1 p1 q1 r1 w1 o1 f1 s1 nc my fp fq fr up sm1 top1 bot1 lv ol fi se x y fd) := hD
        refine wi0_ne (tgt := 101) X.1.1 X.1.2.1 d_LoopRankerModel_floorOf_33 (by decide) (fun h33 => ?_) (fun h33 => ?_)
        · refine lv_iinc (k := 0) (v := nI (i + 1)) X.1.1 X.1.2.1 d_LoopRankerModel_floorOf_101 hl rfl (nI_1 i) (by decide) rfl (fun ls hl => ?_)
          have hl : lv_has ls 9 [(5, .int (nI (i + 1))), (3, .long le), (2, .int so), (0, .ref h), (1, .int (nI lev))] := hl
          refine lv_goto (tgt := 7) X.1.1 X.1.2.1 d_LoopRankerModel_floorOf_104 (by decide) ?_
          exact ih7 (i + 1) so le _ _ _ ls H locs (by omega) (by rw [← hE]; show _ = m_ff (fun t => m_emp fp fq fr (4 * t) (dn t)) (fun t => m_lo fp fq fr t (dn t) (fi lev) (se lev)) ol (nI lev) (k7 + 1) i (so, le); simp only [m_ff, m_fs]; rw [if_pos h24, if_neg h33]) (lv_sub hl [0, 1, 2, 3, 4] rfl) hP hD hS
        · refine lv_aload_n X.1.1 X.1.2.1 d_LoopRankerModel_floorOf_36 rfl (lv_at hl 3 rfl) ?_
          refine lv_iload X.1.1 X.1.2.1 d_LoopRankerModel_floorOf_37 (lv_at hl 0 rfl) ?_
          refine lv_aload_n X.1.1 X.1.2.1 d_LoopRankerModel_floorOf_39 rfl (lv_at hl 3 rfl) ?_
          refine fg_LoopRankerModel_28 X hP 0 rfl rfl d_LoopRankerModel_floorOf_40 ?_
          refine lv_iload_n X.1.1 X.1.2.1 d_LoopRankerModel_floorOf_43 rfl (lv_at hl 4 rfl) ?_
          refine wa_ild X.1.1 X.1.2.1 X.2.1 hP 7 0 rfl rfl lev rfl (by omega) (by decide) d_LoopRankerModel_floorOf_44 ?_
          refine lv_ineg X.1.1 X.1.2.1 d_LoopRankerModel_floorOf_45 ?_
          refine lv_aload_n X.1.1 X.1.2.1 d_LoopRankerModel_floorOf_46 rfl (lv_at hl 3 rfl) ?_
          refine fg_LoopRankerModel_31 X hP 0 rfl rfl d_LoopRankerModel_floorOf_47 ?_
          refine lv_iload_n X.1.1 X.1.2.1 d_LoopRankerModel_floorOf_50 rfl (lv_at hl 4 rfl) ?_
          refine wa_ild X.1.1 X.1.2.1 X.2.1 hP 8 0 rfl rfl lev rfl (by omega) (by decide) d_LoopRankerModel_floorOf_51 ?_
          refine lv_ineg X.1.1 X.1.2.1 d_LoopRankerModel_floorOf_52 ?_
          refine wc_Vi [.int (nI i), .int (-(fi lev)), .int (-(se lev))] 4 0 X nz_nest (c_LoopRankerModel_said h m1 p1 q1 r1 w1 o1 f1 s1 nc my fp fq fr up sm1 top1 bot1 lv ol fi se x y fd i (-(fi lev)) (-(se lev)) (dn i) (hmy i (by omega)).1 (by omega) (hmy i (by omega)).2) (cw_LoopRankerModel_80 X.1.2.2.2.2 X.2.2.1 (by decide)) ([]) ([]) (rfl) hP hD hS rfl rfl rfl rfl hl.1 (Nat.le_of_ble_eq_true rfl) (by decide) d_LoopRankerModel_floorOf_53 (fun H locs wn hwn hP hD hS => ?_)
          subst hwn
          have hP : va_P D cls (mW cI h m1 p1 q1 r1 w1 o1 f1 s1 nc my fp fq fr up ((m_lk fp fq fr (4 * i) (dn i) (-(fi lev)) (-(se lev))).1) ((m_lk fp fq fr (4 * i) (dn i) (-(fi lev)) (-(se lev))).2.1) ((m_lk fp fq fr (4 * i) (dn i) (-(fi lev)) (-(se lev))).2.2) lv ol fi se x y fd) H := hP
          have hD : va_D A (mW cI h m1 p1 q1 r1 w1 o1 f1 s1 nc my fp fq fr up ((m_lk fp fq fr (4 * i) (dn i) (-(fi lev)) (-(se lev))).1) ((m_lk fp fq fr (4 * i) (dn i) (-(fi lev)) (-(se lev))).2.1) ((m_lk fp fq fr (4 * i) (dn i) (-(fi lev)) (-(se lev))).2.2) lv ol fi se x y fd) := hD
          refine lv_istore X.1.1 X.1.2.1 d_LoopRankerModel_floorOf_56 hl (by decide) rfl (fun ls hl => ?_)
          have hl : lv_has ls 9 [(6, .int (m_said fp fq (4 * i) (dn i) (-(fi lev)) (-(se lev)))), (5, .int (nI i)), (3, .long le), (2, .int so), (0, .ref h), (1, .int (nI lev))] := hl
          refine lv_iload X.1.1 X.1.2.1 d_LoopRankerModel_floorOf_58 (lv_at hl 0 rfl) ?_
          have jn79 : ∀ (low : Int64) (H : Heap) (locs : List Loc), low = (m_lo fp fq fr i (dn i) (fi lev) (se lev)) → va_P D cls (mW cI h m1 p1 q1 r1 w1 o1 f1 s1 nc my fp fq fr up ((m_lk fp fq fr (4 * i) (dn i) (-(fi lev)) (-(se lev))).1) ((m_lk fp fq fr (4 * i) (dn i) (-(fi lev)) (-(se lev))).2.1) ((m_lk fp fq fr (4 * i) (dn i) (-(fi lev)) (-(se lev))).2.2) lv ol fi se x y fd) H → va_S A s.heap H locs → W p l e rm_LoopRankerModel_floorOf s m ([.ref h, .int (nI lev)] : List Value).toArray below meth c H locs 0 0 Q (F0 m 79 ls (.long low :: [])) := by
            intro low H locs elow hP hS
            refine lv_lstore X.1.1 X.1.2.1 d_LoopRankerModel_floorOf_79 hl (by decide) rfl (fun ls hl => ?_)
            have hl : lv_has ls 9 [(7, .long low), (6, .int (m_said fp fq (4 * i) (dn i) (-(fi lev)) (-(se lev)))), (5, .int (nI i)), (3, .long le), (2, .int so), (0, .ref h), (1, .int (nI lev))] := hl
            refine lv_iload_n X.1.1 X.1.2.1 d_LoopRankerModel_floorOf_81 rfl (lv_at hl 4 rfl) ?_
            refine wi0_eq (tgt := 92) X.1.1 X.1.2.1 d_LoopRankerModel_floorOf_82 (by decide) (fun h82 => ?_) (fun h82 => ?_)
            · refine lv_lload X.1.1 X.1.2.1 d_LoopRankerModel_floorOf_92 (lv_at hl 0 rfl) ?_
              refine lv_goto (tgt := 98) X.1.1 X.1.2.1 d_LoopRankerModel_floorOf_94 (by decide) ?_
              refine lv_lstore_n X.1.1 X.1.2.1 d_LoopRankerModel_floorOf_98 rfl hl (by decide) rfl (fun ls hl => ?_)
              have hl : lv_has ls 9 [(3, .long low), (7, .long low), (6, .int (m_said fp fq (4 * i) (dn i) (-(fi lev)) (-(se lev)))), (5, .int (nI i)), (2, .int so), (0, .ref h), (1, .int (nI lev))] := hl
              refine lv_iconst (v := (1 : Int32)) X.1.1 X.1.2.1 d_LoopRankerModel_floorOf_99 (by decide) ?_
              refine lv_istore_n X.1.1 X.1.2.1 d_LoopRankerModel_floorOf_100 rfl hl (by decide) rfl (fun ls hl => ?_)
              have hl : lv_has ls 9 [(2, .int (1 : Int32)), (3, .long low), (7, .long low), (6, .int (m_said fp fq (4 * i) (dn i) (-(fi lev)) (-(se lev)))), (5, .int (nI i)), (0, .ref h), (1, .int (nI lev))] := hl
              refine lv_iinc (k := 4) (v := nI (i + 1)) X.1.1 X.1.2.1 d_LoopRankerModel_floorOf_101 hl rfl (nI_1 i) (by decide) rfl (fun ls hl => ?_)
              have hl : lv_has ls 9 [(5, .int (nI (i + 1))), (2, .int (1 : Int32)), (3, .long low), (7, .long low), (6, .int (m_said fp fq (4 * i) (dn i) (-(fi lev)) (-(se lev)))), (0, .ref h), (1, .int (nI lev))] := hl
              refine lv_goto (tgt := 7) X.1.1 X.1.2.1 d_LoopRankerModel_floorOf_104 (by decide) ?_
              exact ih7 (i + 1) (1 : Int32) low _ _ _ ls H locs (by omega) (by rw [← hE]; show _ = m_ff (fun t => m_emp fp fq fr (4 * t) (dn t)) (fun t => m_lo fp fq fr t (dn t) (fi lev) (se lev)) ol (nI lev) (k7 + 1) i (so, le); simp only [m_ff, m_fs]; rw [if_pos h24, if_pos h33]; rw [← elow, if_pos h82]) (lv_sub hl [0, 2, 1, 5, 6] rfl) hP hD hS
            · refine lv_lload X.1.1 X.1.2.1 d_LoopRankerModel_floorOf_85 (lv_at hl 0 rfl) ?_
              refine lv_lload_n X.1.1 X.1.2.1 d_LoopRankerModel_floorOf_87 rfl (lv_at hl 3 rfl) ?_
              refine wl_ge (tgt := 97) X.1.1 X.1.2.1 d_LoopRankerModel_floorOf_88 d_LoopRankerModel_floorOf_89 (by decide) (fun h88 => ?_) (fun h88 => ?_)
              · refine lv_lload_n X.1.1 X.1.2.1 d_LoopRankerModel_floorOf_97 rfl (lv_at hl 3 rfl) ?_
                refine lv_lstore_n X.1.1 X.1.2.1 d_LoopRankerModel_floorOf_98 rfl hl (by decide) rfl (fun ls hl => ?_)
                have hl : lv_has ls 9 [(3, .long le), (7, .long low), (6, .int (m_said fp fq (4 * i) (dn i) (-(fi lev)) (-(se lev)))), (5, .int (nI i)), (2, .int so), (0, .ref h), (1, .int (nI lev))] := hl
                refine lv_iconst (v := (1 : Int32)) X.1.1 X.1.2.1 d_LoopRankerModel_floorOf_99 (by decide) ?_
                refine lv_istore_n X.1.1 X.1.2.1 d_LoopRankerModel_floorOf_100 rfl hl (by decide) rfl (fun ls hl => ?_)
                have hl : lv_has ls 9 [(2, .int (1 : Int32)), (3, .long le), (7, .long low), (6, .int (m_said fp fq (4 * i) (dn i) (-(fi lev)) (-(se lev)))), (5, .int (nI i)), (0, .ref h), (1, .int (nI lev))] := hl
                refine lv_iinc (k := 4) (v := nI (i + 1)) X.1.1 X.1.2.1 d_LoopRankerModel_floorOf_101 hl rfl (nI_1 i) (by decide) rfl (fun ls hl => ?_)
                have hl : lv_has ls 9 [(5, .int (nI (i + 1))), (2, .int (1 : Int32)), (3, .long le), (7, .long low), (6, .int (m_said fp fq (4 * i) (dn i) (-(fi lev)) (-(se lev)))), (0, .ref h), (1, .int (nI lev))] := hl
                refine lv_goto (tgt := 7) X.1.1 X.1.2.1 d_LoopRankerModel_floorOf_104 (by decide) ?_
                exact ih7 (i + 1) (1 : Int32) le _ _ _ ls H locs (by omega) (by rw [← hE]; show _ = m_ff (fun t => m_emp fp fq fr (4 * t) (dn t)) (fun t => m_lo fp fq fr t (dn t) (fi lev) (se lev)) ol (nI lev) (k7 + 1) i (so, le); simp only [m_ff, m_fs]; rw [if_pos h24, if_pos h33]; rw [← elow, if_neg h82, if_neg h88]) (lv_sub hl [0, 2, 1, 5, 6] rfl) hP hD hS
              · refine lv_lload X.1.1 X.1.2.1 d_LoopRankerModel_floorOf_92 (lv_at hl 0 rfl) ?_
                refine lv_goto (tgt := 98) X.1.1 X.1.2.1 d_LoopRankerModel_floorOf_94 (by decide) ?_
                refine lv_lstore_n X.1.1 X.1.2.1 d_LoopRankerModel_floorOf_98 rfl hl (by decide) rfl (fun ls hl => ?_)
                have hl : lv_has ls 9 [(3, .long low), (7, .long low), (6, .int (m_said fp fq (4 * i) (dn i) (-(fi lev)) (-(se lev)))), (5, .int (nI i)), (2, .int so), (0, .ref h), (1, .int (nI lev))] := hl
                refine lv_iconst (v := (1 : Int32)) X.1.1 X.1.2.1 d_LoopRankerModel_floorOf_99 (by decide) ?_
                refine lv_istore_n X.1.1 X.1.2.1 d_LoopRankerModel_floorOf_100 rfl hl (by decide) rfl (fun ls hl => ?_)
                have hl : lv_has ls 9 [(2, .int (1 : Int32)), (3, .long low), (7, .long low), (6, .int (m_said fp fq (4 * i) (dn i) (-(fi lev)) (-(se lev)))), (5, .int (nI i)), (0, .ref h), (1, .int (nI lev))] := hl
                refine lv_iinc (k := 4) (v := nI (i + 1)) X.1.1 X.1.2.1 d_LoopRankerModel_floorOf_101 hl rfl (nI_1 i) (by decide) rfl (fun ls hl => ?_)
                have hl : lv_has ls 9 [(5, .int (nI (i + 1))), (2, .int (1 : Int32)), (3, .long low), (7, .long low), (6, .int (m_said fp fq (4 * i) (dn i) (-(fi lev)) (-(se lev)))), (0, .ref h), (1, .int (nI lev))] := hl
                refine lv_goto (tgt := 7) X.1.1 X.1.2.1 d_LoopRankerModel_floorOf_104 (by decide) ?_
                exact ih7 (i + 1) (1 : Int32) low _ _ _ ls H locs (by omega) (by rw [← hE]; show _ = m_ff (fun t => m_emp fp fq fr (4 * t) (dn t)) (fun t => m_lo fp fq fr t (dn t) (fi lev) (se lev)) ol (nI lev) (k7 + 1) i (so, le); simp only [m_ff, m_fs]; rw [if_pos h24, if_pos h33]; rw [← elow, if_neg h82, if_pos h88]) (lv_sub hl [0, 2, 1, 5, 6] rfl) hP hD hS
          refine wi0_eq (tgt := 78) X.1.1 X.1.2.1 d_LoopRankerModel_floorOf_60 (by decide) (fun h60 => ?_) (fun h60 => ?_)
          · refine lv_lconst (v := 0) X.1.1 X.1.2.1 d_LoopRankerModel_floorOf_78 (by decide) ?_
            exact jn79 _ H locs (by first | (simp only [m_lo, if_pos h60]; done) | simp [m_lo, h60]) hP hS
          · refine lv_aload_n X.1.1 X.1.2.1 d_LoopRankerModel_floorOf_63 rfl (lv_at hl 4 rfl) ?_
            refine fg_LoopRankerModel_54 X hP 0 rfl rfl d_LoopRankerModel_floorOf_64 ?_
            refine lv_aload_n X.1.1 X.1.2.1 d_LoopRankerModel_floorOf_67 rfl (lv_at hl 4 rfl) ?_
            refine fg_LoopRankerModel_50 X hP 0 rfl rfl d_LoopRankerModel_floorOf_68 ?_
            refine wc_Sl [.long ((m_lk fp fq fr (4 * i) (dn i) (-(fi lev)) (-(se lev))).2.1), .long ((m_lk fp fq fr (4 * i) (dn i) (-(fi lev)) (-(se lev))).2.2)] X nz_nest (c_LoopRankerModel_down ((m_lk fp fq fr (4 * i) (dn i) (-(fi lev)) (-(se lev))).2.1) ((m_lk fp fq fr (4 * i) (dn i) (-(fi lev)) (-(se lev))).2.2) (m_lk_bot _ _ _ _ _ _ _)) (cw_LoopRankerModel_83 X.1.2.2.2.2 X.2.2.1 (by decide)) (mW cI h m1 p1 q1 r1 w1 o1 f1 s1 nc my fp fq fr up ((m_lk fp fq fr (4 * i) (dn i) (-(fi lev)) (-(se lev))).1) ((m_lk fp fq fr (4 * i) (dn i) (-(fi lev)) (-(se lev))).2.1) ((m_lk fp fq fr (4 * i) (dn i) (-(fi lev)) (-(se lev))).2.2) lv ol fi se x y fd) ([]) (rfl) hP hD hS rfl rfl hl.1 (Nat.le_of_ble_eq_true rfl) (by decide) d_LoopRankerModel_floorOf_71 (fun H locs wn hwn hP hD hS => ?_)
            subst hwn
            have hP : va_P D cls (mW cI h m1 p1 q1 r1 w1 o1 f1 s1 nc my fp fq fr up ((m_lk fp fq fr (4 * i) (dn i) (-(fi lev)) (-(se lev))).1) ((m_lk fp fq fr (4 * i) (dn i) (-(fi lev)) (-(se lev))).2.1) ((m_lk fp fq fr (4 * i) (dn i) (-(fi lev)) (-(se lev))).2.2) lv ol fi se x y fd) H := hP
            have hD : va_D A (mW cI h m1 p1 q1 r1 w1 o1 f1 s1 nc my fp fq fr up ((m_lk fp fq fr (4 * i) (dn i) (-(fi lev)) (-(se lev))).1) ((m_lk fp fq fr (4 * i) (dn i) (-(fi lev)) (-(se lev))).2.1) ((m_lk fp fq fr (4 * i) (dn i) (-(fi lev)) (-(se lev))).2.2) lv ol fi se x y fd) := hD
            refine lv_lneg X.1.1 X.1.2.1 d_LoopRankerModel_floorOf_74 ?_
            refine lv_goto (tgt := 79) X.1.1 X.1.2.1 d_LoopRankerModel_floorOf_75 (by decide) ?_
            exact jn79 _ H locs (by first | (simp only [m_lo, if_neg h60]; done) | simp [m_lo, h60]) hP hS
  exact lp7 nc 0 0 0 _ _ _ ls H locs (by omega) (rfl) (lv_sub hl [0, 1, 2, 3, 4] rfl) hP hD hS
end CT
